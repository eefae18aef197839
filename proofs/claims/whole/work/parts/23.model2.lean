section
variable {zl : Launch} {κ : Kt} {z : Nat} {st0 : St}
set_option maxRecDepth 100000 in
set_option maxHeartbeats 4000000 in
theorem c_X5_breaksBest {y0 y1 y2 y3 : Int32} {a : Nat → Int32} {μ : Mu} (hM : Ob z st0 91 (bMo κ y0 y1 y2 y3)) (hA : Ob z st0 92 (bA κ 293 a)) (hR : Rm μ a) (hSc : ScP κ z st0) : CT zl κ yX5_breaksBest cX5_breaksBest 2 none (r0 4 90) z [.ref (ad κ 91)] st0 (PV (fun u => (Ob z u 91 (bMo κ y0 (nI (lno (nb (bo μ) (mv μ 0 0) (mn μ)) (mn μ))) y2 y3) ∧ MbP κ z u μ (nb (bo μ) (mv μ 0 0) (mn μ)) ∧ ∃ lf, Ob z u 101 (bA κ 25 lf) ∧ lf 0 = lbd μ) ∧ Fr (fun q : Nat => q = 91 ∨ (97 ≤ q ∧ q < 103)) st0 u)) := by
  obtain ⟨P, hP⟩ : ∃ P : Option Value → St → Prop, P = (PV (fun u => (Ob z u 91 (bMo κ y0 (nI (lno (nb (bo μ) (mv μ 0 0) (mn μ)) (mn μ))) y2 y3) ∧ MbP κ z u μ (nb (bo μ) (mv μ 0 0) (mn μ)) ∧ ∃ lf, Ob z u 101 (bA κ 25 lf) ∧ lf 0 = lbd μ) ∧ Fr (fun q : Nat => q = 91 ∨ (97 ≤ q ∧ q < 103)) st0 u)) := ⟨_, rfl⟩
  rw [← hP]
  refine CT.of (by decide +kernel) (Nat.le_of_ble_eq_true rfl) (fun zp ze zs zm zar zbe zme zc C _ => ?_)
  have C : Cx zp zs zm zar zme zc κ cX5_breaksBest 2 RX5 none := C
  refine ws_lv (lv2 := [some (.ref (ad κ 91)), none]) rfl ?_
  obtain ⟨p, l, r, s, lf, tk, hp, hlf, hrt, hs_, hle, htk, hp0⟩ := hSc
  have h24 := hR.le
  have ha := nb_adv (bo μ) (mv μ 0 0) (mn μ)
  have hbr := lno_br ha
  have hLn := hbr.le ha
  have hF : Fr (fun q : Nat => q = 91 ∨ (97 ≤ q ∧ q < 103)) st0 st0 := Fr.rf
  refine ws_aload_n 0 C dX5_breaksBest_0 rfl ?_
  refine ws_callV0 1 C dX5_breaksBest_1 vX5_95 (c_X5_measures hM hA hR hp hlf hrt hp0) rfl hM rfl rfl ⟨by decide, by decide⟩ ⟨Nat.zero_le _, Nat.zero_le _⟩ rfl rfl rfl (kV (fun u1 h1 => ?_))
  obtain ⟨⟨p1, l1, r1, hp, hlf, hrt, hW⟩, hfr⟩ := h1
  have hM := hfr.ob hM (fun q (g1 : 91 ≤ q) (g2 : q < 91 + 1) => (show ¬ (97 ≤ q ∧ q < 100) from by omega))
  have hA := hfr.ob hA (fun q (g1 : 92 ≤ q) (g2 : q < 92 + 1) => (show ¬ (97 ≤ q ∧ q < 100) from by omega))
  have hs_ := hfr.ob hs_ (fun q (g1 : 100 ≤ q) (g2 : q < 100 + 1) => (show ¬ (97 ≤ q ∧ q < 100) from by omega))
  have hle := hfr.ob hle (fun q (g1 : 101 ≤ q) (g2 : q < 101 + 1) => (show ¬ (97 ≤ q ∧ q < 100) from by omega))
  have htk := hfr.ob htk (fun q (g1 : 102 ≤ q) (g2 : q < 102 + 1) => (show ¬ (97 ≤ q ∧ q < 100) from by omega))
  have hF := hF.then hfr (fun q (hq : 97 ≤ q ∧ q < 100) => (show q = 91 ∨ (97 ≤ q ∧ q < 103) from by omega))
  refine ws_aload_n 4 C dX5_breaksBest_4 rfl ?_
  refine ws_get 5 C dX5_breaksBest_5 fX5_37 hM rfl rfl ?_
  refine ws_aload_n 8 C dX5_breaksBest_8 rfl ?_
  refine ws_get 9 C dX5_breaksBest_9 fX5_7 hM rfl rfl ?_
  refine ws_iconst 12 C dX5_breaksBest_12 (nI 4) (by decide) ?_
  refine ws_iald 13 C dX5_breaksBest_13 hA 0 rfl (vp_in_nI (by omega) (by decide)) (nI (mn μ)) ((congrArg a (nI_clamp (by omega))).trans (hR.n)) ?_
  refine ws_iconst 14 C dX5_breaksBest_14 (nI 0) (by decide) ?_
  refine ws_iast 15 C dX5_breaksBest_15 hle 0 rfl (vp_in_nI (by omega) (by decide)) (mn μ) (nI_clamp (by omega)) (nI 0) rfl (fun st1 est1 => ?_)
  have hM := hM.ne' (L := 1) est1 rfl (by omega)
  have hA := hA.ne' (L := 1) est1 rfl (by omega)
  have hp := hp.ne' (L := 1) est1 rfl (by omega)
  have hlf := hlf.ne' (L := 1) est1 rfl (by omega)
  have hrt := hrt.ne' (L := 1) est1 rfl (by omega)
  have hs_ := hs_.ne' (L := 1) est1 rfl (by omega)
  have hle : Ob z st1 101 (bA κ 25 (upd lf (mn μ) (nI 0))) := Ob.put' (j := 0) hle est1 rfl
  have htk := htk.ne' (L := 1) est1 rfl (by omega)
  have hF := hF.put' est1 (show (101) = 91 ∨ (97 ≤ (101) ∧ (101) < 103) from by omega)
  refine ws_aload_n 16 C dX5_breaksBest_16 rfl ?_
  refine ws_get 17 C dX5_breaksBest_17 fX5_7 hM rfl rfl ?_
  refine ws_iconst 20 C dX5_breaksBest_20 (nI 4) (by decide) ?_
  refine ws_iald 21 C dX5_breaksBest_21 hA 0 rfl (vp_in_nI (by omega) (by decide)) (nI (mn μ)) ((congrArg a (nI_clamp (by omega))).trans (hR.n)) ?_
  refine ws_iconst 22 C dX5_breaksBest_22 (nI 1) (by decide) ?_
  refine ws_isub 23 C dX5_breaksBest_23 ((nI (mn μ)) - (nI 1)) rfl ?_
  refine ws_istore_n 24 C dX5_breaksBest_24 rfl [some (.ref (ad κ 91)), some (.int ((nI (mn μ)) - (nI 1)))] rfl ?_
  have L25 : ∀ d : Nat, d ≤ mn μ → ∀ (x : Int32), ∀ (lf2 : Nat → Int32), ∀ (tk2 : Nat → Int32), ∀ (hx : x = nI (mn μ - d) - nI 1), ∀ (h1 : ∀ q, mn μ - d ≤ q → q ≤ mn μ → lf2 q = (bv (bo μ) (mv μ 0 0) (mn μ) d).1 q), ∀ (h2 : ∀ q, mn μ - d ≤ q → q < mn μ → tk2 q = nI ((bv (bo μ) (mv μ 0 0) (mn μ) d).2 q - q)), ∀ (st2 : St), ∀ (hM : Ob z st2 91 (bMo κ y0 y1 y2 y3)), ∀ (hA : Ob z st2 92 (bA κ 293 a)), ∀ (hp : Ob z st2 97 (bA κ 25 p1)), ∀ (hlf : Ob z st2 98 (bA κ 24 l1)), ∀ (hrt : Ob z st2 99 (bA κ 24 r1)), ∀ (hs_ : Ob z st2 100 (bA κ 25 s)), ∀ (hle : Ob z st2 101 (bA κ 25 lf2)), ∀ (htk : Ob z st2 102 (bA κ 25 tk2)), ∀ (hF : Fr (fun q : Nat => q = 91 ∨ (97 ≤ q ∧ q < 103)) st0 st2), WS zp zl ze (r0 4 90) zs zm zar zbe zme zc κ z 0 0 (QM zbe zar zs κ z (r0 4 90) P) st2 25 [some (.ref (ad κ 91)), some (.int (x))] [] := by
    refine dnw ?_
    intro d hd ih25 x lf2 tk2 hx h1 h2 st2 hM hA hp hlf hrt hs_ hle htk hF
    refine ws_iload_n 25 C dX5_breaksBest_25 rfl ?_
    refine ws_if_lt 26 C 40 dX5_breaksBest_26 (by decide)  (fun c26 => ?_) (fun c26 => ?_)
    · skip
      have hd0 : d = mn μ := down_lt hx h24 c26 hd
      have hnx : ∀ q, q < mn μ → tk2 q = nI ((nb (bo μ) (mv μ 0 0) (mn μ)) q - q) := fun q hq => (h2 q (by omega) hq).trans (by rw [hd0]; rfl)
      have hl0 : lf2 0 = lbd μ := (h1 0 (by omega) (Nat.zero_le _)).trans (by rw [hd0]; rfl)
      refine ws_aload_n 40 C dX5_breaksBest_40 rfl ?_
      refine ws_iconst 41 C dX5_breaksBest_41 (nI 0) (by decide) ?_
      refine ws_put 42 C dX5_breaksBest_42 fX5_98 q5_10 hM rfl (Nat.le_of_ble_eq_true rfl) rfl rfl (fun st3 est3 => ?_)
      have hM : Ob z st3 91 (bMo κ y0 (nI 0) y2 y3) := Ob.put' (j := 0) hM est3 rfl
      have hA := hA.ne' (L := 1) est3 rfl (by omega)
      have hp := hp.ne' (L := 1) est3 rfl (by omega)
      have hlf := hlf.ne' (L := 1) est3 rfl (by omega)
      have hrt := hrt.ne' (L := 1) est3 rfl (by omega)
      have hs_ := hs_.ne' (L := 1) est3 rfl (by omega)
      have hle := hle.ne' (L := 1) est3 rfl (by omega)
      have htk := htk.ne' (L := 1) est3 rfl (by omega)
      have hF := hF.put' est3 (show (91) = 91 ∨ (97 ≤ (91) ∧ (91) < 103) from by omega)
      refine ws_iconst 45 C dX5_breaksBest_45 (nI 0) (by decide) ?_
      refine ws_istore_n 46 C dX5_breaksBest_46 rfl [some (.ref (ad κ 91)), some (.int (nI 0))] rfl ?_
      have L47 : ∀ i : Nat, i ≤ lno (nb (bo μ) (mv μ 0 0) (mn μ)) (mn μ) → ∀ (s2 : Nat → Int32), ∀ (hs : ∀ q, q < i → s2 q = nI (stt (nb (bo μ) (mv μ 0 0) (mn μ)) q)), ∀ (st4 : St), ∀ (hM : Ob z st4 91 (bMo κ y0 (nI i) y2 y3)), ∀ (hA : Ob z st4 92 (bA κ 293 a)), ∀ (hp : Ob z st4 97 (bA κ 25 p1)), ∀ (hlf : Ob z st4 98 (bA κ 24 l1)), ∀ (hrt : Ob z st4 99 (bA κ 24 r1)), ∀ (hs_ : Ob z st4 100 (bA κ 25 s2)), ∀ (hle : Ob z st4 101 (bA κ 25 lf2)), ∀ (htk : Ob z st4 102 (bA κ 25 tk2)), ∀ (hF : Fr (fun q : Nat => q = 91 ∨ (97 ≤ q ∧ q < 103)) st0 st4), WS zp zl ze (r0 4 90) zs zm zar zbe zme zc κ z 0 0 (QM zbe zar zs κ z (r0 4 90) P) st4 47 [some (.ref (ad κ 91)), some (.int (nI (stt (nb (bo μ) (mv μ 0 0) (mn μ)) i)))] [] := by
        refine dnw ?_
        intro i hi ih47 s2 hs st4 hM hA hp hlf hrt hs_ hle htk hF
        have hkn := stt_le hbr hi
        refine ws_iload_n 47 C dX5_breaksBest_47 rfl ?_
        refine ws_aload_n 48 C dX5_breaksBest_48 rfl ?_
        refine ws_get 49 C dX5_breaksBest_49 fX5_7 hM rfl rfl ?_
        refine ws_iconst 52 C dX5_breaksBest_52 (nI 4) (by decide) ?_
        refine ws_iald 53 C dX5_breaksBest_53 hA 0 rfl (vp_in_nI (by omega) (by decide)) (nI (mn μ)) ((congrArg a (nI_clamp (by omega))).trans (hR.n)) ?_
        refine ws_nicmp_ge 54 C 89 dX5_breaksBest_54 (by decide) (by omega) (by omega) (fun c54 => ?_) (fun c54 => ?_)
        · skip
          have hiL := br_end hbr hi c54
          refine ws_aload_n 89 C dX5_breaksBest_89 rfl ?_
          refine ws_get 90 C dX5_breaksBest_90 fX5_34 hM rfl rfl ?_
          refine ws_aload_n 93 C dX5_breaksBest_93 rfl ?_
          refine ws_get 94 C dX5_breaksBest_94 fX5_98 hM rfl rfl ?_
          refine ws_aload_n 97 C dX5_breaksBest_97 rfl ?_
          refine ws_get 98 C dX5_breaksBest_98 fX5_7 hM rfl rfl ?_
          refine ws_iconst 101 C dX5_breaksBest_101 (nI 4) (by decide) ?_
          refine ws_iald 102 C dX5_breaksBest_102 hA 0 rfl (vp_in_nI (by omega) (by decide)) (nI (mn μ)) ((congrArg a (nI_clamp (by omega))).trans (hR.n)) ?_
          refine ws_iast 103 C dX5_breaksBest_103 hs_ 0 rfl (vp_in_nI (by omega) (by decide)) i (nI_clamp (by omega)) (nI (mn μ)) rfl (fun st5 est5 => ?_)
          have hM := hM.ne' (L := 1) est5 rfl (by omega)
          have hA := hA.ne' (L := 1) est5 rfl (by omega)
          have hp := hp.ne' (L := 1) est5 rfl (by omega)
          have hlf := hlf.ne' (L := 1) est5 rfl (by omega)
          have hrt := hrt.ne' (L := 1) est5 rfl (by omega)
          have hs_ : Ob z st5 100 (bA κ 25 (upd s2 i (nI (mn μ)))) := Ob.put' (j := 0) hs_ est5 rfl
          have hle := hle.ne' (L := 1) est5 rfl (by omega)
          have htk := htk.ne' (L := 1) est5 rfl (by omega)
          have hF := hF.put' est5 (show (100) = 91 ∨ (97 ≤ (100) ∧ (100) < 103) from by omega)
          exact ws_vret 104 C dX5_breaksBest_104 rfl (Nat.le_refl _) (Nat.le_refl _) (by rw [hP]; exact ⟨rfl, ⟨⟨hiL ▸ hM, ⟨p1, l1, r1, _, lf2, tk2, hp, hlf, hrt, hs_, hle, htk, hW, hiL ▸ LyB.of ha (hiL.symm ▸ hbr) hs⟩, lf2, hle, hl0⟩, hF⟩⟩)
        · skip
          have hiL := br_lt hbr hi c54
          refine ws_aload_n 57 C dX5_breaksBest_57 rfl ?_
          refine ws_get 58 C dX5_breaksBest_58 fX5_34 hM rfl rfl ?_
          refine ws_aload_n 61 C dX5_breaksBest_61 rfl ?_
          refine ws_get 62 C dX5_breaksBest_62 fX5_98 hM rfl rfl ?_
          refine ws_iload_n 65 C dX5_breaksBest_65 rfl ?_
          refine ws_iast 66 C dX5_breaksBest_66 hs_ 0 rfl (vp_in_nI (by omega) (by decide)) i (nI_clamp (by omega)) (nI (stt (nb (bo μ) (mv μ 0 0) (mn μ)) i)) rfl (fun st6 est6 => ?_)
          have hM := hM.ne' (L := 1) est6 rfl (by omega)
          have hA := hA.ne' (L := 1) est6 rfl (by omega)
          have hp := hp.ne' (L := 1) est6 rfl (by omega)
          have hlf := hlf.ne' (L := 1) est6 rfl (by omega)
          have hrt := hrt.ne' (L := 1) est6 rfl (by omega)
          have hs_ : Ob z st6 100 (bA κ 25 (upd s2 i (nI (stt (nb (bo μ) (mv μ 0 0) (mn μ)) i)))) := Ob.put' (j := 0) hs_ est6 rfl
          have hle := hle.ne' (L := 1) est6 rfl (by omega)
          have htk := htk.ne' (L := 1) est6 rfl (by omega)
          have hF := hF.put' est6 (show (100) = 91 ∨ (97 ≤ (100) ∧ (100) < 103) from by omega)
          refine ws_aload_n 67 C dX5_breaksBest_67 rfl ?_
          refine ws_dup 68 C dX5_breaksBest_68 rfl ?_
          refine ws_get 69 C dX5_breaksBest_69 fX5_98 hM rfl rfl ?_
          refine ws_iconst 72 C dX5_breaksBest_72 (nI 1) (by decide) ?_
          refine ws_iadd 73 C dX5_breaksBest_73 (nI (i + 1)) (nI_add _ _) ?_
          refine ws_put 74 C dX5_breaksBest_74 fX5_98 q5_10 hM rfl (Nat.le_of_ble_eq_true rfl) rfl rfl (fun st7 est7 => ?_)
          have hM : Ob z st7 91 (bMo κ y0 (nI (i + 1)) y2 y3) := Ob.put' (j := 0) hM est7 rfl
          have hA := hA.ne' (L := 1) est7 rfl (by omega)
          have hp := hp.ne' (L := 1) est7 rfl (by omega)
          have hlf := hlf.ne' (L := 1) est7 rfl (by omega)
          have hrt := hrt.ne' (L := 1) est7 rfl (by omega)
          have hs_ := hs_.ne' (L := 1) est7 rfl (by omega)
          have hle := hle.ne' (L := 1) est7 rfl (by omega)
          have htk := htk.ne' (L := 1) est7 rfl (by omega)
          have hF := hF.put' est7 (show (91) = 91 ∨ (97 ≤ (91) ∧ (91) < 103) from by omega)
          refine ws_iload_n 77 C dX5_breaksBest_77 rfl ?_
          refine ws_aload_n 78 C dX5_breaksBest_78 rfl ?_
          refine ws_get 79 C dX5_breaksBest_79 fX5_40 hM rfl rfl ?_
          refine ws_iload_n 82 C dX5_breaksBest_82 rfl ?_
          refine ws_iald 83 C dX5_breaksBest_83 htk 0 rfl (vp_in_nI (by omega) (by decide)) (nI ((nb (bo μ) (mv μ 0 0) (mn μ)) (stt (nb (bo μ) (mv μ 0 0) (mn μ)) i) - stt (nb (bo μ) (mv μ 0 0) (mn μ)) i)) ((congrArg tk2 (nI_clamp (by omega))).trans (hnx _ c54)) ?_
          refine ws_iadd 84 C dX5_breaksBest_84 (nI (stt (nb (bo μ) (mv μ 0 0) (mn μ)) (i + 1))) (add_to (Nat.le_of_lt (ha _ c54).1)) ?_
          refine ws_istore_n 85 C dX5_breaksBest_85 rfl [some (.ref (ad κ 91)), some (.int (nI (stt (nb (bo μ) (mv μ 0 0) (mn μ)) (i + 1))))] rfl ?_
          refine ws_goto 86 C 47 dX5_breaksBest_86 (by decide) ?_
          exact ih47 hiL (upd s2 i (nI (stt (nb (bo μ) (mv μ 0 0) (mn μ)) i))) (upd_lt hs rfl) st7 hM hA hp hlf hrt hs_ hle htk hF
      exact L47 0 (Nat.zero_le _) s (fun q hq => (by omega)) st3 hM hA hp hlf hrt hs_ hle htk hF
    · skip
      have hdn := down_ge hx h24 c26
      refine ws_wk (lv2 := [some (.ref (ad κ 91)), some (.int (nI (mn μ - 1 - d)))]) ⟨rfl, (congrArg Value.int hdn.2), trivial⟩ ?_
      refine ws_aload_n 29 C dX5_breaksBest_29 rfl ?_
      refine ws_iload_n 30 C dX5_breaksBest_30 rfl ?_
      have hdl := hdn.1
      refine ws_callV0 31 C dX5_breaksBest_31 vX5_104 (c_X5_worksOutFrom hM hA hR hp hlf hrt hW hle htk (k := mn μ - 1 - d) (by omega) (bv (bo μ) (mv μ 0 0) (mn μ) d).1 (fun q hq hq2 => h1 q (by omega) hq2)) rfl hM rfl rfl ⟨by decide, by decide⟩ ⟨Nat.zero_le _, Nat.zero_le _⟩ rfl rfl rfl (kV (fun u31 h31 => ?_))
      obtain ⟨⟨lf3, tk3, hle, htk, g1, g2, g3, g4⟩, hfr⟩ := h31
      have hM := hfr.ob hM (fun q (g1 : 91 ≤ q) (g2 : q < 91 + 1) => (show ¬ (101 ≤ q ∧ q < 103) from by omega))
      have hA := hfr.ob hA (fun q (g1 : 92 ≤ q) (g2 : q < 92 + 1) => (show ¬ (101 ≤ q ∧ q < 103) from by omega))
      have hp := hfr.ob hp (fun q (g1 : 97 ≤ q) (g2 : q < 97 + 1) => (show ¬ (101 ≤ q ∧ q < 103) from by omega))
      have hlf := hfr.ob hlf (fun q (g1 : 98 ≤ q) (g2 : q < 98 + 1) => (show ¬ (101 ≤ q ∧ q < 103) from by omega))
      have hrt := hfr.ob hrt (fun q (g1 : 99 ≤ q) (g2 : q < 99 + 1) => (show ¬ (101 ≤ q ∧ q < 103) from by omega))
      have hs_ := hfr.ob hs_ (fun q (g1 : 100 ≤ q) (g2 : q < 100 + 1) => (show ¬ (101 ≤ q ∧ q < 103) from by omega))
      have hF := hF.then hfr (fun q (hq : 101 ≤ q ∧ q < 103) => (show q = 91 ∨ (97 ≤ q ∧ q < 103) from by omega))
      refine ws_iinc 34 C dX5_breaksBest_34 rfl (nI (mn μ - 1 - d) - nI 1) (dec1 _) rfl [some (.ref (ad κ 91)), some (.int (nI (mn μ - 1 - d) - nI 1))] rfl ?_
      refine ws_goto 37 C 25 dX5_breaksBest_37 (by decide) ?_
      exact ih25 hdn.1 (nI (mn μ - 1 - d) - nI 1) lf3 tk3 (by rw [show mn μ - 1 - d = mn μ - (d + 1) from by omega]) (best_1 hdn.1 h1 g1 g3) (best_t hdn.1 h2 g2 g4) u31 hM hA hp hlf hrt hs_ hle htk hF
  exact L25 0 (Nat.zero_le _) (nI (mn μ) - nI 1) (upd lf (mn μ) (nI 0)) tk rfl (fun q h1 h2 => (by rw [show q = mn μ from by omega]; exact pk_us)) (fun q h1 h2 => (by omega)) st1 hM hA hp hlf hrt hs_ hle htk hF

set_option maxRecDepth 100000 in
set_option maxHeartbeats 4000000 in
theorem c_X5_breaks {y0 y1 y2 y3 : Int32} {a : Nat → Int32} {μ : Mu} (hM : Ob z st0 91 (bMo κ y0 y1 y2 y3)) (hA : Ob z st0 92 (bA κ 293 a)) (hR : Rm μ a)(hSc : ScP κ z st0) {w : Nat} (hw : w < 2) : CT zl κ yX5_breaks cX5_breaks 2 none (r0 5 111) z [.ref (ad κ 91), .int (nI w)] st0 (PV (fun u => (Ob z u 91 (bMo κ y0 (nI (lno (nxw μ w) (mn μ))) y2 y3) ∧ MbP κ z u μ (nxw μ w)) ∧ Fr (fun q : Nat => q = 91 ∨ (97 ≤ q ∧ q < 103)) st0 u)) := by
  obtain ⟨P, hP⟩ : ∃ P : Option Value → St → Prop, P = (PV (fun u => (Ob z u 91 (bMo κ y0 (nI (lno (nxw μ w) (mn μ))) y2 y3) ∧ MbP κ z u μ (nxw μ w)) ∧ Fr (fun q : Nat => q = 91 ∨ (97 ≤ q ∧ q < 103)) st0 u)) := ⟨_, rfl⟩
  rw [← hP]
  refine CT.of (by decide +kernel) (Nat.le_of_ble_eq_true rfl) (fun zp ze zs zm zar zbe zme zc C _ => ?_)
  have C : Cx zp zs zm zar zme zc κ cX5_breaks 2 RX5 none := C
  refine ws_lv (lv2 := [some (.ref (ad κ 91)), some (.int (nI w))]) rfl ?_
  have h24 := hR.le
  have hF : Fr (fun q : Nat => q = 91 ∨ (97 ≤ q ∧ q < 103)) st0 st0 := Fr.rf
  refine ws_iload_n 0 C dX5_breaks_0 rfl ?_
  refine ws_nif_ne 1 C 11 dX5_breaks_1 (by decide) (by omega) (fun c1 => ?_) (fun c1 => ?_)
  · skip
    have e : nxw μ w = (nb (bo μ) (mv μ 0 0) (mn μ)) := if_neg c1
    refine ws_aload_n 11 C dX5_breaks_11 rfl ?_
    refine ws_callV0 12 C dX5_breaks_12 vX5_111 (c_X5_breaksBest hM hA hR hSc) rfl hM rfl rfl ⟨by decide, by decide⟩ ⟨Nat.zero_le _, Nat.zero_le _⟩ rfl rfl rfl (kV (fun u12 h12 => ?_))
    obtain ⟨⟨hM, hMb, -⟩, hfr⟩ := h12
    have hA := hfr.ob hA (fun q (g1 : 92 ≤ q) (g2 : q < 92 + 1) => (show ¬ (q = 91 ∨ (97 ≤ q ∧ q < 103)) from by omega))
    have hF := hF.then hfr (fun q (hq : q = 91 ∨ (97 ≤ q ∧ q < 103)) => (show q = 91 ∨ (97 ≤ q ∧ q < 103) from by omega))
    exact ws_vret 15 C dX5_breaks_15 rfl (Nat.le_refl _) (Nat.le_refl _) (by rw [hP]; exact ⟨rfl, ⟨⟨by rw [e]; exact hM, by rw [e]; exact hMb⟩, hF⟩⟩)
  · skip
    have e : nxw μ w = (gx (bo μ) (mv μ 0 0) (mn μ)) := if_pos c1
    refine ws_aload_n 4 C dX5_breaks_4 rfl ?_
    refine ws_callV0 5 C dX5_breaks_5 vX5_108 (c_X5_fills hM hA hR hSc) rfl hM rfl rfl ⟨by decide, by decide⟩ ⟨Nat.zero_le _, Nat.zero_le _⟩ rfl rfl rfl (kV (fun u5 h5 => ?_))
    obtain ⟨⟨hM, hMb⟩, hfr⟩ := h5
    have hA := hfr.ob hA (fun q (g1 : 92 ≤ q) (g2 : q < 92 + 1) => (show ¬ (q = 91 ∨ (97 ≤ q ∧ q < 103)) from by omega))
    have hF := hF.then hfr (fun q (hq : q = 91 ∨ (97 ≤ q ∧ q < 103)) => (show q = 91 ∨ (97 ≤ q ∧ q < 103) from by omega))
    refine ws_goto 8 C 15 dX5_breaks_8 (by decide) ?_
    exact ws_vret 15 C dX5_breaks_15 rfl (Nat.le_refl _) (Nat.le_refl _) (by rw [hP]; exact ⟨rfl, ⟨⟨by rw [e]; exact hM, by rw [e]; exact hMb⟩, hF⟩⟩)

set_option maxRecDepth 100000 in
set_option maxHeartbeats 4000000 in
theorem c_X5_bestBadness {y0 y1 y2 y3 : Int32} {a : Nat → Int32} {μ : Mu} (hM : Ob z st0 91 (bMo κ y0 y1 y2 y3)) (hA : Ob z st0 92 (bA κ 293 a)) (hR : Rm μ a)(hSc : ScP κ z st0) : CT zl κ yX5_bestBadness cX5_bestBadness 1 (some .int) (r0 5 111) z [.ref (ad κ 91)] st0 (PI (fun rr u => (rr = lbd μ ∧ Ob z u 91 (bMo κ y0 (nI (lno (nb (bo μ) (mv μ 0 0) (mn μ)) (mn μ))) y2 y3) ∧ ScP κ z u) ∧ Fr (fun q : Nat => q = 91 ∨ (97 ≤ q ∧ q < 103)) st0 u)) := by
  obtain ⟨P, hP⟩ : ∃ P : Option Value → St → Prop, P = (PI (fun rr u => (rr = lbd μ ∧ Ob z u 91 (bMo κ y0 (nI (lno (nb (bo μ) (mv μ 0 0) (mn μ)) (mn μ))) y2 y3) ∧ ScP κ z u) ∧ Fr (fun q : Nat => q = 91 ∨ (97 ≤ q ∧ q < 103)) st0 u)) := ⟨_, rfl⟩
  rw [← hP]
  refine CT.of (by decide +kernel) (Nat.le_of_ble_eq_true rfl) (fun zp ze zs zm zar zbe zme zc C _ => ?_)
  have C : Cx zp zs zm zar zme zc κ cX5_bestBadness 1 RX5 (some .int) := C
  refine ws_lv (lv2 := [some (.ref (ad κ 91))]) rfl ?_
  have h24 := hR.le
  have hF : Fr (fun q : Nat => q = 91 ∨ (97 ≤ q ∧ q < 103)) st0 st0 := Fr.rf
  refine ws_aload_n 0 C dX5_bestBadness_0 rfl ?_
  refine ws_callV0 1 C dX5_bestBadness_1 vX5_111 (c_X5_breaksBest hM hA hR hSc) rfl hM rfl rfl ⟨by decide, by decide⟩ ⟨Nat.zero_le _, Nat.zero_le _⟩ rfl rfl rfl (kV (fun u1 h1 => ?_))
  obtain ⟨⟨hM, hMb, lf, hle, hl0⟩, hfr⟩ := h1
  have hA := hfr.ob hA (fun q (g1 : 92 ≤ q) (g2 : q < 92 + 1) => (show ¬ (q = 91 ∨ (97 ≤ q ∧ q < 103)) from by omega))
  have hF := hF.then hfr (fun q (hq : q = 91 ∨ (97 ≤ q ∧ q < 103)) => (show q = 91 ∨ (97 ≤ q ∧ q < 103) from by omega))
  refine ws_aload_n 4 C dX5_bestBadness_4 rfl ?_
  refine ws_get 5 C dX5_bestBadness_5 fX5_37 hM rfl rfl ?_
  refine ws_iconst 8 C dX5_bestBadness_8 (nI 0) (by decide) ?_
  refine ws_iald 9 C dX5_bestBadness_9 hle 0 rfl (vp_in_nI (by omega) (by decide)) (lbd μ) ((congrArg lf (nI_clamp (by omega))).trans (hl0)) ?_
  exact ws_iret 10 C  dX5_bestBadness_10 rfl (Nat.le_refl _) (Nat.le_refl _) (by rw [hP]; exact ⟨lbd μ, rfl, ⟨⟨rfl, hM, hMb.sc⟩, hF⟩⟩)

set_option maxRecDepth 100000 in
set_option maxHeartbeats 4000000 in
theorem c_X5_lastOf {y0 y2 y3 : Int32} {a : Nat → Int32} {μ : Mu} {nxt : Nat → Nat} {L : Nat} (hM : Ob z st0 91 (bMo κ y0 (nI L) y2 y3)) (hA : Ob z st0 92 (bA κ 293 a)) (hR : Rm μ a) {p l r s : Nat → Int32} (hp : Ob z st0 97 (bA κ 25 p)) (hlf : Ob z st0 98 (bA κ 24 l)) (hrt : Ob z st0 99 (bA κ 24 r)) (hs_ : Ob z st0 100 (bA κ 25 s)) (hW : MeW μ p l r) (hb : LyB nxt (mn μ) L s) {i : Nat} (hi : i < L) : CT zl κ yX5_lastOf cX5_lastOf 2 (some .int) (r0 0 0) z [.ref (ad κ 91), .int (nI i)] st0 (PRi (nI (stt nxt (i + 1) - 1)) st0) := by
  obtain ⟨P, hP⟩ : ∃ P : Option Value → St → Prop, P = (PRi (nI (stt nxt (i + 1) - 1)) st0) := ⟨_, rfl⟩
  rw [← hP]
  refine CT.of (by decide +kernel) (Nat.le_of_ble_eq_true rfl) (fun zp ze zs zm zar zbe zme zc C _ => ?_)
  have C : Cx zp zs zm zar zme zc κ cX5_lastOf 2 RX5 (some .int) := C
  refine ws_lv (lv2 := [some (.ref (ad κ 91)), some (.int (nI i))]) rfl ?_
  have h24 := hR.le
  have hLn := hb.L_le
  have hnx := hb.next hi
  refine ws_aload_n 0 C dX5_lastOf_0 rfl ?_
  refine ws_get 1 C dX5_lastOf_1 fX5_34 hM rfl rfl ?_
  refine ws_iload_n 4 C dX5_lastOf_4 rfl ?_
  refine ws_iconst 5 C dX5_lastOf_5 (nI 1) (by decide) ?_
  refine ws_iadd 6 C dX5_lastOf_6 (nI (i + 1)) (nI_add _ _) ?_
  refine ws_iald 7 C dX5_lastOf_7 hs_ 0 rfl (vp_in_nI (by omega) (by decide)) (nI (stt nxt (i + 1))) ((congrArg s (nI_clamp (by omega))).trans (hb.at hi)) ?_
  refine ws_iconst 8 C dX5_lastOf_8 (nI 1) (by decide) ?_
  refine ws_isub 9 C dX5_lastOf_9 (nI (stt nxt (i + 1) - 1)) (pk_sub (by omega)) ?_
  exact ws_iret 10 C  dX5_lastOf_10 rfl (Nat.le_refl _) (Nat.le_refl _) (by rw [hP]; exact ⟨rfl, rfl⟩)

set_option maxRecDepth 100000 in
set_option maxHeartbeats 4000000 in
theorem c_X5_bodyOfLine {y0 y2 y3 : Int32} {a : Nat → Int32} {μ : Mu} {nxt : Nat → Nat} {L : Nat} (hM : Ob z st0 91 (bMo κ y0 (nI L) y2 y3)) (hA : Ob z st0 92 (bA κ 293 a)) (hR : Rm μ a) {p l r s : Nat → Int32} (hp : Ob z st0 97 (bA κ 25 p)) (hlf : Ob z st0 98 (bA κ 24 l)) (hrt : Ob z st0 99 (bA κ 24 r)) (hs_ : Ob z st0 100 (bA κ 25 s)) (hW : MeW μ p l r) (hb : LyB nxt (mn μ) L s) {i : Nat} (hi : i < L) : CT zl κ yX5_bodyOfLine cX5_bodyOfLine 2 (some .int) (r0 2 44) z [.ref (ad κ 91), .int (nI i)] st0 (PRi (bol μ nxt i) st0) := by
  obtain ⟨P, hP⟩ : ∃ P : Option Value → St → Prop, P = (PRi (bol μ nxt i) st0) := ⟨_, rfl⟩
  rw [← hP]
  refine CT.of (by decide +kernel) (Nat.le_of_ble_eq_true rfl) (fun zp ze zs zm zar zbe zme zc C _ => ?_)
  have C : Cx zp zs zm zar zme zc κ cX5_bodyOfLine 2 RX5 (some .int) := C
  refine ws_lv (lv2 := [some (.ref (ad κ 91)), some (.int (nI i))]) rfl ?_
  have h24 := hR.le
  have hLn := hb.L_le
  have hnx := hb.next hi
  refine ws_aload_n 0 C dX5_bodyOfLine_0 rfl ?_
  refine ws_aload_n 1 C dX5_bodyOfLine_1 rfl ?_
  refine ws_get 2 C dX5_bodyOfLine_2 fX5_34 hM rfl rfl ?_
  refine ws_iload_n 5 C dX5_bodyOfLine_5 rfl ?_
  refine ws_iald 6 C dX5_bodyOfLine_6 hs_ 0 rfl (vp_in_nI (by omega) (by decide)) (nI (stt nxt i)) ((congrArg s (nI_clamp (by omega))).trans (hb.at (Nat.le_of_lt hi))) ?_
  refine ws_aload_n 7 C dX5_bodyOfLine_7 rfl ?_
  refine ws_iload_n 8 C dX5_bodyOfLine_8 rfl ?_
  refine ws_callV0 9 C dX5_bodyOfLine_9 vX5_114 (c_X5_lastOf hM hA hR hp hlf hrt hs_ hW hb hi) rfl hM rfl rfl ⟨by decide, by decide⟩ ⟨Nat.zero_le _, Nat.zero_le _⟩ rfl rfl rfl (kR ?_)
  refine ws_callV0 12 C dX5_bodyOfLine_12 vX5_92 (c_X5_bodyOf hM hA hR hp hlf hrt hW (show stt nxt i ≤ stt nxt (i + 1) - 1 from by omega) (by omega)) rfl hM rfl rfl ⟨by decide, by decide⟩ ⟨Nat.zero_le _, Nat.zero_le _⟩ rfl rfl rfl (kR ?_)
  exact ws_iret 15 C  dX5_bodyOfLine_15 rfl (Nat.le_refl _) (Nat.le_refl _) (by rw [hP]; exact ⟨rfl, rfl⟩)

set_option maxRecDepth 100000 in
set_option maxHeartbeats 4000000 in
theorem c_X5_fits {y0 y2 y3 : Int32} {a : Nat → Int32} {μ : Mu} {nxt : Nat → Nat} {L : Nat} (hM : Ob z st0 91 (bMo κ y0 (nI L) y2 y3)) (hA : Ob z st0 92 (bA κ 293 a)) (hR : Rm μ a) {p l r s : Nat → Int32} (hp : Ob z st0 97 (bA κ 25 p)) (hlf : Ob z st0 98 (bA κ 24 l)) (hrt : Ob z st0 99 (bA κ 24 r)) (hs_ : Ob z st0 100 (bA κ 25 s)) (hW : MeW μ p l r) (hb : LyB nxt (mn μ) L s) {i : Nat} (hi : i < L) : CT zl κ yX5_fits cX5_fits 2 (some .boolean) (r0 3 65) z [.ref (ad κ 91), .int (nI i)] st0 (PRi (fitI μ nxt (mv μ 0 0) i) st0) := by
  obtain ⟨P, hP⟩ : ∃ P : Option Value → St → Prop, P = (PRi (fitI μ nxt (mv μ 0 0) i) st0) := ⟨_, rfl⟩
  rw [← hP]
  refine CT.of (by decide +kernel) (Nat.le_of_ble_eq_true rfl) (fun zp ze zs zm zar zbe zme zc C _ => ?_)
  have C : Cx zp zs zm zar zme zc κ cX5_fits 2 RX5 (some .boolean) := C
  refine ws_lv (lv2 := [some (.ref (ad κ 91)), some (.int (nI i))]) rfl ?_
  have h24 := hR.le
  have hLn := hb.L_le
  refine ws_aload_n 0 C dX5_fits_0 rfl ?_
  refine ws_iload_n 1 C dX5_fits_1 rfl ?_
  refine ws_callV0 2 C dX5_fits_2 vX5_117 (c_X5_bodyOfLine hM hA hR hp hlf hrt hs_ hW hb hi) rfl hM rfl rfl ⟨by decide, by decide⟩ ⟨Nat.zero_le _, Nat.zero_le _⟩ rfl rfl rfl (kR ?_)
  refine ws_aload_n 5 C dX5_fits_5 rfl ?_
  refine ws_get 6 C dX5_fits_6 fX5_7 hM rfl rfl ?_
  refine ws_iconst 9 C dX5_fits_9 (nI 0) (by decide) ?_
  refine ws_iald 10 C dX5_fits_10 hA 0 rfl (vp_in_nI (by omega) (by decide)) (mv μ 0 0) ((congrArg a (nI_clamp (by omega))).trans (hR.set (by omega))) ?_
  refine ws_icmp_gt 11 C 18 dX5_fits_11 (by decide)  (fun c11 => ?_) (fun c11 => ?_)
  · skip
    have hv : nI 0 = fitI μ nxt (mv μ 0 0) i := (if_neg (Int32.not_le.mpr c11)).symm
    refine ws_iconst 18 C dX5_fits_18 (nI 0) (by decide) ?_
    exact ws_zret 19 C rfl dX5_fits_19 rfl (Nat.le_refl _) (Nat.le_refl _) (by rw [hP]; exact ⟨congrArg (fun z => some (Value.int z)) (hv), rfl⟩)
  · skip
    have hv : nI 1 = fitI μ nxt (mv μ 0 0) i := (if_pos (Int32.not_lt.mp c11)).symm
    refine ws_iconst 14 C dX5_fits_14 (nI 1) (by decide) ?_
    refine ws_goto 15 C 19 dX5_fits_15 (by decide) ?_
    exact ws_zret 19 C rfl dX5_fits_19 rfl (Nat.le_refl _) (Nat.le_refl _) (by rw [hP]; exact ⟨congrArg (fun z => some (Value.int z)) (hv), rfl⟩)

set_option maxRecDepth 100000 in
set_option maxHeartbeats 4000000 in
theorem c_X5_looksIndented {y0 y2 y3 : Int32} {a : Nat → Int32} {μ : Mu} {nxt : Nat → Nat} {L : Nat} (hM : Ob z st0 91 (bMo κ y0 (nI L) y2 y3)) (hA : Ob z st0 92 (bA κ 293 a)) (hR : Rm μ a) {p l r s : Nat → Int32} (hp : Ob z st0 97 (bA κ 25 p)) (hlf : Ob z st0 98 (bA κ 24 l)) (hrt : Ob z st0 99 (bA κ 24 r)) (hs_ : Ob z st0 100 (bA κ 25 s)) (hW : MeW μ p l r) (hb : LyB nxt (mn μ) L s) {i : Nat} (hi : i < L) : CT zl κ yX5_looksIndented cX5_looksIndented 2 (some .boolean) (r0 4 86) z [.ref (ad κ 91), .int (nI i)] st0 (PRi (nI (indN μ nxt (mv μ 0 0) (mv μ 0 2) L i)) st0) := by
  obtain ⟨P, hP⟩ : ∃ P : Option Value → St → Prop, P = (PRi (nI (indN μ nxt (mv μ 0 0) (mv μ 0 2) L i)) st0) := ⟨_, rfl⟩
  rw [← hP]
  refine CT.of (by decide +kernel) (Nat.le_of_ble_eq_true rfl) (fun zp ze zs zm zar zbe zme zc C _ => ?_)
  have C : Cx zp zs zm zar zme zc κ cX5_looksIndented 2 RX5 (some .boolean) := C
  refine ws_lv (lv2 := [some (.ref (ad κ 91)), some (.int (nI i))]) rfl ?_
  have h24 := hR.le
  have hLn := hb.L_le
  refine ws_aload_n 0 C dX5_looksIndented_0 rfl ?_
  refine ws_iload_n 1 C dX5_looksIndented_1 rfl ?_
  refine ws_callV0 2 C dX5_looksIndented_2 vX5_120 (c_X5_fits hM hA hR hp hlf hrt hs_ hW hb hi) rfl hM rfl rfl ⟨by decide, by decide⟩ ⟨Nat.zero_le _, Nat.zero_le _⟩ rfl rfl rfl (kR ?_)
  refine ws_if_eq 5 C 43 dX5_looksIndented_5 (by decide)  (fun c5 => ?_) (fun c5 => ?_)
  · skip
    have hv : nI 0 = nI (indN μ nxt (mv μ 0 0) (mv μ 0 2) L i) := congrArg nI (if_neg (fitI_n c5)).symm
    refine ws_iconst 43 C dX5_looksIndented_43 (nI 0) (by decide) ?_
    exact ws_zret 44 C rfl dX5_looksIndented_44 rfl (Nat.le_refl _) (Nat.le_refl _) (by rw [hP]; exact ⟨congrArg (fun z => some (Value.int z)) (hv), rfl⟩)
  · skip
    have h1 := fitI_y c5
    refine ws_iload_n 8 C dX5_looksIndented_8 rfl ?_
    refine ws_aload_n 9 C dX5_looksIndented_9 rfl ?_
    refine ws_get 10 C dX5_looksIndented_10 fX5_98 hM rfl rfl ?_
    refine ws_iconst 13 C dX5_looksIndented_13 (nI 1) (by decide) ?_
    refine ws_isub 14 C dX5_looksIndented_14 (nI (L - 1)) (pk_sub (by omega)) ?_
    refine ws_nicmp_ge 15 C 43 dX5_looksIndented_15 (by decide) (by omega) (by omega) (fun c15 => ?_) (fun c15 => ?_)
    · skip
      have hv : nI 0 = nI (indN μ nxt (mv μ 0 0) (mv μ 0 2) L i) := congrArg nI ((if_pos h1).trans (if_neg (by omega))).symm
      refine ws_iconst 43 C dX5_looksIndented_43 (nI 0) (by decide) ?_
      exact ws_zret 44 C rfl dX5_looksIndented_44 rfl (Nat.le_refl _) (Nat.le_refl _) (by rw [hP]; exact ⟨congrArg (fun z => some (Value.int z)) (hv), rfl⟩)
    · skip
      refine ws_aload_n 18 C dX5_looksIndented_18 rfl ?_
      refine ws_get 19 C dX5_looksIndented_19 fX5_7 hM rfl rfl ?_
      refine ws_iconst 22 C dX5_looksIndented_22 (nI 0) (by decide) ?_
      refine ws_iald 23 C dX5_looksIndented_23 hA 0 rfl (vp_in_nI (by omega) (by decide)) (mv μ 0 0) ((congrArg a (nI_clamp (by omega))).trans (hR.set (by omega))) ?_
      refine ws_aload_n 24 C dX5_looksIndented_24 rfl ?_
      refine ws_iload_n 25 C dX5_looksIndented_25 rfl ?_
      refine ws_callV0 26 C dX5_looksIndented_26 vX5_117 (c_X5_bodyOfLine hM hA hR hp hlf hrt hs_ hW hb hi) rfl hM rfl rfl ⟨by decide, by decide⟩ ⟨Nat.zero_le _, Nat.zero_le _⟩ rfl rfl rfl (kR ?_)
      refine ws_isub 29 C dX5_looksIndented_29 ((mv μ 0 0) - (bol μ nxt i)) rfl ?_
      refine ws_aload_n 30 C dX5_looksIndented_30 rfl ?_
      refine ws_get 31 C dX5_looksIndented_31 fX5_7 hM rfl rfl ?_
      refine ws_iconst 34 C dX5_looksIndented_34 (nI 2) (by decide) ?_
      refine ws_iald 35 C dX5_looksIndented_35 hA 0 rfl (vp_in_nI (by omega) (by decide)) (mv μ 0 2) ((congrArg a (nI_clamp (by omega))).trans (hR.set (by omega))) ?_
      refine ws_icmp_le 36 C 43 dX5_looksIndented_36 (by decide)  (fun c36 => ?_) (fun c36 => ?_)
      · skip
        have hv : nI 0 = nI (indN μ nxt (mv μ 0 0) (mv μ 0 2) L i) := congrArg nI ((if_pos h1).trans ((if_pos c15).trans (if_neg (Int32.not_lt.mpr c36)))).symm
        refine ws_iconst 43 C dX5_looksIndented_43 (nI 0) (by decide) ?_
        exact ws_zret 44 C rfl dX5_looksIndented_44 rfl (Nat.le_refl _) (Nat.le_refl _) (by rw [hP]; exact ⟨congrArg (fun z => some (Value.int z)) (hv), rfl⟩)
      · skip
        have hv : nI 1 = nI (indN μ nxt (mv μ 0 0) (mv μ 0 2) L i) := congrArg nI ((if_pos h1).trans ((if_pos c15).trans (if_pos (Int32.not_le.mp c36)))).symm
        refine ws_iconst 39 C dX5_looksIndented_39 (nI 1) (by decide) ?_
        refine ws_goto 40 C 44 dX5_looksIndented_40 (by decide) ?_
        exact ws_zret 44 C rfl dX5_looksIndented_44 rfl (Nat.le_refl _) (Nat.le_refl _) (by rw [hP]; exact ⟨congrArg (fun z => some (Value.int z)) (hv), rfl⟩)

set_option maxRecDepth 100000 in
set_option maxHeartbeats 4000000 in
theorem c_X5_keeps {y0 y1 y2 y3 : Int32} {a f : Nat → Int32} (hM : Ob z st0 91 (bMo κ y0 y1 y2 y3)) (hA : Ob z st0 92 (bA κ 293 a)) (hK : Ob z st0 93 (bA κ 293 f)) : CT zl κ yX5_keeps cX5_keeps 2 none (r0 0 0) z [.ref (ad κ 91)] st0 (PV (fun u => (∃ g, Ob z u 93 (bA κ 293 g) ∧ ∀ j, j < 293 → g j = a j) ∧ Fr (fun q : Nat => q = 93) st0 u)) := by
  obtain ⟨P, hP⟩ : ∃ P : Option Value → St → Prop, P = (PV (fun u => (∃ g, Ob z u 93 (bA κ 293 g) ∧ ∀ j, j < 293 → g j = a j) ∧ Fr (fun q : Nat => q = 93) st0 u)) := ⟨_, rfl⟩
  rw [← hP]
  refine CT.of (by decide +kernel) (Nat.le_of_ble_eq_true rfl) (fun zp ze zs zm zar zbe zme zc C _ => ?_)
  have C : Cx zp zs zm zar zme zc κ cX5_keeps 2 RX5 none := C
  refine ws_lv (lv2 := [some (.ref (ad κ 91)), none]) rfl ?_
  have hF : Fr (fun q : Nat => q = 93) st0 st0 := Fr.rf
  refine ws_iconst 0 C dX5_keeps_0 (nI 0) (by decide) ?_
  refine ws_istore_n 1 C dX5_keeps_1 rfl [some (.ref (ad κ 91)), some (.int (nI 0))] rfl ?_
  have L2 : ∀ k : Nat, k ≤ 293 → ∀ (g : Nat → Int32), ∀ (h1 : ∀ j, j < k → g j = a j), ∀ (st1 : St), ∀ (hM : Ob z st1 91 (bMo κ y0 y1 y2 y3)), ∀ (hA : Ob z st1 92 (bA κ 293 a)), ∀ (hK : Ob z st1 93 (bA κ 293 g)), ∀ (hF : Fr (fun q : Nat => q = 93) st0 st1), WS zp zl ze (r0 0 0) zs zm zar zbe zme zc κ z 0 0 (QM zbe zar zs κ z (r0 0 0) P) st1 2 [some (.ref (ad κ 91)), some (.int (nI k))] [] := by
    refine dnw ?_
    intro k hk ih2 g h1 st1 hM hA hK hF
    refine ws_iload_n 2 C dX5_keeps_2 rfl ?_
    refine ws_sipush 3 C dX5_keeps_3 (nI 293) (by decide) ?_
    refine ws_nicmp_ge 6 C 27 dX5_keeps_6 (by decide) (by omega) (by omega) (fun c6 => ?_) (fun c6 => ?_)
    · skip
      exact ws_vret 27 C dX5_keeps_27 rfl (Nat.le_refl _) (Nat.le_refl _) (by rw [hP]; exact ⟨rfl, ⟨⟨g, hK, fun j hj => h1 j (by omega)⟩, hF⟩⟩)
    · skip
      refine ws_aload_n 9 C dX5_keeps_9 rfl ?_
      refine ws_get 10 C dX5_keeps_10 fX5_13 hM rfl rfl ?_
      refine ws_iload_n 13 C dX5_keeps_13 rfl ?_
      refine ws_aload_n 14 C dX5_keeps_14 rfl ?_
      refine ws_get 15 C dX5_keeps_15 fX5_7 hM rfl rfl ?_
      refine ws_iload_n 18 C dX5_keeps_18 rfl ?_
      refine ws_iald 19 C dX5_keeps_19 hA 0 rfl (vp_in_nI (by omega) (by decide)) (a k) (congrArg a (nI_clamp (by omega))) ?_
      refine ws_iast 20 C dX5_keeps_20 hK 0 rfl (vp_in_nI (by omega) (by decide)) k (nI_clamp (by omega)) (a k) rfl (fun st2 est2 => ?_)
      have hM := hM.ne' (L := 1) est2 rfl (by omega)
      have hA := hA.ne' (L := 1) est2 rfl (by omega)
      have hK : Ob z st2 93 (bA κ 293 (upd g k (a k))) := Ob.put' (j := 0) hK est2 rfl
      have hF := hF.put' est2 (show (93) = 93 from by omega)
      refine ws_iinc 21 C dX5_keeps_21 rfl (nI (k + 1)) (nI_1 _) rfl [some (.ref (ad κ 91)), some (.int (nI (k + 1)))] rfl ?_
      refine ws_goto 24 C 2 dX5_keeps_24 (by decide) ?_
      exact ih2 c6 (upd g k (a k)) (upd_lt h1 rfl) st2 hM hA hK hF
  exact L2 0 (Nat.zero_le _) f (fun j hj => (by omega)) st0 hM hA hK hF

set_option maxRecDepth 100000 in
set_option maxHeartbeats 4000000 in
theorem c_X5_comesBack {y0 y1 y2 y3 : Int32} {a f : Nat → Int32} (hM : Ob z st0 91 (bMo κ y0 y1 y2 y3)) (hA : Ob z st0 92 (bA κ 293 a)) (hK : Ob z st0 93 (bA κ 293 f)) : CT zl κ yX5_comesBack cX5_comesBack 2 none (r0 0 0) z [.ref (ad κ 91)] st0 (PV (fun u => (∃ g, Ob z u 92 (bA κ 293 g) ∧ ∀ j, j < 293 → g j = f j) ∧ Fr (fun q : Nat => q = 92) st0 u)) := by
  obtain ⟨P, hP⟩ : ∃ P : Option Value → St → Prop, P = (PV (fun u => (∃ g, Ob z u 92 (bA κ 293 g) ∧ ∀ j, j < 293 → g j = f j) ∧ Fr (fun q : Nat => q = 92) st0 u)) := ⟨_, rfl⟩
  rw [← hP]
  refine CT.of (by decide +kernel) (Nat.le_of_ble_eq_true rfl) (fun zp ze zs zm zar zbe zme zc C _ => ?_)
  have C : Cx zp zs zm zar zme zc κ cX5_comesBack 2 RX5 none := C
  refine ws_lv (lv2 := [some (.ref (ad κ 91)), none]) rfl ?_
  have hF : Fr (fun q : Nat => q = 92) st0 st0 := Fr.rf
  refine ws_iconst 0 C dX5_comesBack_0 (nI 0) (by decide) ?_
  refine ws_istore_n 1 C dX5_comesBack_1 rfl [some (.ref (ad κ 91)), some (.int (nI 0))] rfl ?_
  have L2 : ∀ k : Nat, k ≤ 293 → ∀ (g : Nat → Int32), ∀ (h1 : ∀ j, j < k → g j = f j), ∀ (st1 : St), ∀ (hM : Ob z st1 91 (bMo κ y0 y1 y2 y3)), ∀ (hA : Ob z st1 92 (bA κ 293 g)), ∀ (hK : Ob z st1 93 (bA κ 293 f)), ∀ (hF : Fr (fun q : Nat => q = 92) st0 st1), WS zp zl ze (r0 0 0) zs zm zar zbe zme zc κ z 0 0 (QM zbe zar zs κ z (r0 0 0) P) st1 2 [some (.ref (ad κ 91)), some (.int (nI k))] [] := by
    refine dnw ?_
    intro k hk ih2 g h1 st1 hM hA hK hF
    refine ws_iload_n 2 C dX5_comesBack_2 rfl ?_
    refine ws_sipush 3 C dX5_comesBack_3 (nI 293) (by decide) ?_
    refine ws_nicmp_ge 6 C 27 dX5_comesBack_6 (by decide) (by omega) (by omega) (fun c6 => ?_) (fun c6 => ?_)
    · skip
      exact ws_vret 27 C dX5_comesBack_27 rfl (Nat.le_refl _) (Nat.le_refl _) (by rw [hP]; exact ⟨rfl, ⟨⟨g, hA, fun j hj => h1 j (by omega)⟩, hF⟩⟩)
    · skip
      refine ws_aload_n 9 C dX5_comesBack_9 rfl ?_
      refine ws_get 10 C dX5_comesBack_10 fX5_7 hM rfl rfl ?_
      refine ws_iload_n 13 C dX5_comesBack_13 rfl ?_
      refine ws_aload_n 14 C dX5_comesBack_14 rfl ?_
      refine ws_get 15 C dX5_comesBack_15 fX5_13 hM rfl rfl ?_
      refine ws_iload_n 18 C dX5_comesBack_18 rfl ?_
      refine ws_iald 19 C dX5_comesBack_19 hK 0 rfl (vp_in_nI (by omega) (by decide)) (f k) (congrArg f (nI_clamp (by omega))) ?_
      refine ws_iast 20 C dX5_comesBack_20 hA 0 rfl (vp_in_nI (by omega) (by decide)) k (nI_clamp (by omega)) (f k) rfl (fun st2 est2 => ?_)
      have hM := hM.ne' (L := 1) est2 rfl (by omega)
      have hA : Ob z st2 92 (bA κ 293 (upd g k (f k))) := Ob.put' (j := 0) hA est2 rfl
      have hK := hK.ne' (L := 1) est2 rfl (by omega)
      have hF := hF.put' est2 (show (92) = 92 from by omega)
      refine ws_iinc 21 C dX5_comesBack_21 rfl (nI (k + 1)) (nI_1 _) rfl [some (.ref (ad κ 91)), some (.int (nI (k + 1)))] rfl ?_
      refine ws_goto 24 C 2 dX5_comesBack_24 (by decide) ?_
      exact ih2 c6 (upd g k (f k)) (upd_lt h1 rfl) st2 hM hA hK hF
  exact L2 0 (Nat.zero_le _) a (fun j hj => (by omega)) st0 hM hA hK hF

set_option maxRecDepth 100000 in
set_option maxHeartbeats 4000000 in
theorem c_X5_isSetting {x y : Int32} : CT zl κ yX5_isSetting cX5_isSetting 2 (some .boolean) (r0 1 25) z [.int (x), .int (y)] st0 (PRi (stI x y) st0) := by
  obtain ⟨P, hP⟩ : ∃ P : Option Value → St → Prop, P = (PRi (stI x y) st0) := ⟨_, rfl⟩
  rw [← hP]
  refine CT.of (by decide +kernel) (Nat.le_of_ble_eq_true rfl) (fun zp ze zs zm zar zbe zme zc C _ => ?_)
  have C : Cx zp zs zm zar zme zc κ cX5_isSetting 2 RX5 (some .boolean) := C
  refine ws_lv (lv2 := [some (.int (x)), some (.int (y))]) rfl ?_
  refine ws_iload_n 0 C dX5_isSetting_0 rfl ?_
  rcases sw4b x with h | h | h | h | ⟨hn, ht⟩
  · skip
    refine ws_tin 1 C dX5_isSetting_1 (0) (31) 32 (by rw [h]; rfl) (by decide) (by decide) (by rfl) (by decide) ?_
    refine ws_iload_n 32 C dX5_isSetting_32 rfl ?_
    refine ws_i2l 33 C dX5_isSetting_33 (y.toInt64) rfl ?_
    refine ws_ldc2 34 C dX5_isSetting_34 (20) k438 ?_
    refine ws_ldc2 37 C dX5_isSetting_37 (200) k439 ?_
    refine ws_callS0 40 C dX5_isSetting_40 vX5_58 (c_X5_in (inL_32 y (nI 20) (nI 200) (by decide) (by decide))) rfl ⟨by decide, by decide⟩ ⟨Nat.zero_le _, Nat.zero_le _⟩ rfl rfl rfl (kR ?_)
    exact ws_zret 43 C nar01 dX5_isSetting_43 rfl (Nat.le_refl _) (Nat.le_refl _) (by rw [hP]; exact ⟨congrArg (fun z => some (Value.int z)) ((stI_k h (by decide)).symm), rfl⟩)
  · skip
    refine ws_tin 1 C dX5_isSetting_1 (1) (43) 44 (by rw [h]; rfl) (by decide) (by decide) (by rfl) (by decide) ?_
    refine ws_iload_n 44 C dX5_isSetting_44 rfl ?_
    refine ws_i2l 45 C dX5_isSetting_45 (y.toInt64) rfl ?_
    refine ws_lconst 46 C dX5_isSetting_46 1 (by decide) ?_
    refine ws_ldc2 47 C dX5_isSetting_47 (20) k438 ?_
    refine ws_callS0 50 C dX5_isSetting_50 vX5_58 (c_X5_in (inL_32 y (nI 1) (nI 20) (by decide) (by decide))) rfl ⟨by decide, by decide⟩ ⟨Nat.zero_le _, Nat.zero_le _⟩ rfl rfl rfl (kR ?_)
    exact ws_zret 53 C nar01 dX5_isSetting_53 rfl (Nat.le_refl _) (Nat.le_refl _) (by rw [hP]; exact ⟨congrArg (fun z => some (Value.int z)) ((stI_k h (by decide)).symm), rfl⟩)
  · skip
    refine ws_tin 1 C dX5_isSetting_1 (2) (53) 54 (by rw [h]; rfl) (by decide) (by decide) (by rfl) (by decide) ?_
    refine ws_iload_n 54 C dX5_isSetting_54 rfl ?_
    refine ws_i2l 55 C dX5_isSetting_55 (y.toInt64) rfl ?_
    refine ws_lconst 56 C dX5_isSetting_56 0 (by decide) ?_
    refine ws_ldc2 57 C dX5_isSetting_57 (40) k443 ?_
    refine ws_callS0 60 C dX5_isSetting_60 vX5_58 (c_X5_in (inL_32 y (nI 0) (nI 40) (by decide) (by decide))) rfl ⟨by decide, by decide⟩ ⟨Nat.zero_le _, Nat.zero_le _⟩ rfl rfl rfl (kR ?_)
    exact ws_zret 63 C nar01 dX5_isSetting_63 rfl (Nat.le_refl _) (Nat.le_refl _) (by rw [hP]; exact ⟨congrArg (fun z => some (Value.int z)) ((stI_k h (by decide)).symm), rfl⟩)
  · skip
    refine ws_tin 1 C dX5_isSetting_1 (3) (63) 64 (by rw [h]; rfl) (by decide) (by decide) (by rfl) (by decide) ?_
    refine ws_iload_n 64 C dX5_isSetting_64 rfl ?_
    refine ws_i2l 65 C dX5_isSetting_65 (y.toInt64) rfl ?_
    refine ws_lconst 66 C dX5_isSetting_66 0 (by decide) ?_
    refine ws_lconst 67 C dX5_isSetting_67 1 (by decide) ?_
    refine ws_callS0 68 C dX5_isSetting_68 vX5_58 (c_X5_in (inL_32 y (nI 0) (nI 1) (by decide) (by decide))) rfl ⟨by decide, by decide⟩ ⟨Nat.zero_le _, Nat.zero_le _⟩ rfl rfl rfl (kR ?_)
    exact ws_zret 71 C nar01 dX5_isSetting_71 rfl (Nat.le_refl _) (Nat.le_refl _) (by rw [hP]; exact ⟨congrArg (fun z => some (Value.int z)) ((stI_k h (by decide)).symm), rfl⟩)
  · skip
    refine ws_tout 1 C dX5_isSetting_1 72 (ht) (by decide) ?_
    refine ws_iconst 72 C dX5_isSetting_72 (nI 0) (by decide) ?_
    exact ws_zret 73 C rfl dX5_isSetting_73 rfl (Nat.le_refl _) (Nat.le_refl _) (by rw [hP]; exact ⟨congrArg (fun z => some (Value.int z)) ((stI_n hn).symm), rfl⟩)

set_option maxRecDepth 100000 in
set_option maxHeartbeats 4000000 in
theorem c_X5_isWay {x : Int32} : CT zl κ yX5_isWay cX5_isWay 1 (some .boolean) (r0 0 0) z [.int (x)] st0 (PRi (bix x 2) st0) := by
  obtain ⟨P, hP⟩ : ∃ P : Option Value → St → Prop, P = (PRi (bix x 2) st0) := ⟨_, rfl⟩
  rw [← hP]
  refine CT.of (by decide +kernel) (Nat.le_of_ble_eq_true rfl) (fun zp ze zs zm zar zbe zme zc C _ => ?_)
  have C : Cx zp zs zm zar zme zc κ cX5_isWay 1 RX5 (some .boolean) := C
  refine ws_lv (lv2 := [some (.int (x))]) rfl ?_
  refine ws_iload_n 0 C dX5_isWay_0 rfl ?_
  refine ws_if_eq 1 C 9 dX5_isWay_1 (by decide)  (fun c1 => ?_) (fun c1 => ?_)
  · skip
    have hv : nI 1 = bix x 2 := by rw [c1]; decide
    refine ws_iconst 9 C dX5_isWay_9 (nI 1) (by decide) ?_
    refine ws_goto 10 C 14 dX5_isWay_10 (by decide) ?_
    exact ws_zret 14 C rfl dX5_isWay_14 rfl (Nat.le_refl _) (Nat.le_refl _) (by rw [hP]; exact ⟨congrArg (fun z => some (Value.int z)) (hv), rfl⟩)
  · skip
    refine ws_iload_n 4 C dX5_isWay_4 rfl ?_
    refine ws_iconst 5 C dX5_isWay_5 (nI 1) (by decide) ?_
    refine ws_icmp_ne 6 C 13 dX5_isWay_6 (by decide)  (fun c6 => ?_) (fun c6 => ?_)
    · skip
      have hv : nI 0 = bix x 2 := (bix_n (way_n c1 c6)).symm
      refine ws_iconst 13 C dX5_isWay_13 (nI 0) (by decide) ?_
      exact ws_zret 14 C rfl dX5_isWay_14 rfl (Nat.le_refl _) (Nat.le_refl _) (by rw [hP]; exact ⟨congrArg (fun z => some (Value.int z)) (hv), rfl⟩)
    · skip
      have hv : nI 1 = bix x 2 := by rw [c6]; decide
      refine ws_iconst 9 C dX5_isWay_9 (nI 1) (by decide) ?_
      refine ws_goto 10 C 14 dX5_isWay_10 (by decide) ?_
      exact ws_zret 14 C rfl dX5_isWay_14 rfl (Nat.le_refl _) (Nat.le_refl _) (by rw [hP]; exact ⟨congrArg (fun z => some (Value.int z)) (hv), rfl⟩)

set_option maxRecDepth 100000 in
set_option maxHeartbeats 4000000 in
theorem c_X5_isSlot {x : Int32} : CT zl κ yX5_isSlot cX5_isSlot 1 (some .boolean) (r0 0 0) z [.int (x)] st0 (PRi (bix x 2) st0) := by
  obtain ⟨P, hP⟩ : ∃ P : Option Value → St → Prop, P = (PRi (bix x 2) st0) := ⟨_, rfl⟩
  rw [← hP]
  refine CT.of (by decide +kernel) (Nat.le_of_ble_eq_true rfl) (fun zp ze zs zm zar zbe zme zc C _ => ?_)
  have C : Cx zp zs zm zar zme zc κ cX5_isSlot 1 RX5 (some .boolean) := C
  refine ws_lv (lv2 := [some (.int (x))]) rfl ?_
  refine ws_iload_n 0 C dX5_isSlot_0 rfl ?_
  refine ws_if_eq 1 C 9 dX5_isSlot_1 (by decide)  (fun c1 => ?_) (fun c1 => ?_)
  · skip
    have hv : nI 1 = bix x 2 := by rw [c1]; decide
    refine ws_iconst 9 C dX5_isSlot_9 (nI 1) (by decide) ?_
    refine ws_goto 10 C 14 dX5_isSlot_10 (by decide) ?_
    exact ws_zret 14 C rfl dX5_isSlot_14 rfl (Nat.le_refl _) (Nat.le_refl _) (by rw [hP]; exact ⟨congrArg (fun z => some (Value.int z)) (hv), rfl⟩)
  · skip
    refine ws_iload_n 4 C dX5_isSlot_4 rfl ?_
    refine ws_iconst 5 C dX5_isSlot_5 (nI 1) (by decide) ?_
    refine ws_icmp_ne 6 C 13 dX5_isSlot_6 (by decide)  (fun c6 => ?_) (fun c6 => ?_)
    · skip
      have hv : nI 0 = bix x 2 := (bix_n (way_n c1 c6)).symm
      refine ws_iconst 13 C dX5_isSlot_13 (nI 0) (by decide) ?_
      exact ws_zret 14 C rfl dX5_isSlot_14 rfl (Nat.le_refl _) (Nat.le_refl _) (by rw [hP]; exact ⟨congrArg (fun z => some (Value.int z)) (hv), rfl⟩)
    · skip
      have hv : nI 1 = bix x 2 := by rw [c6]; decide
      refine ws_iconst 9 C dX5_isSlot_9 (nI 1) (by decide) ?_
      refine ws_goto 10 C 14 dX5_isSlot_10 (by decide) ?_
      exact ws_zret 14 C rfl dX5_isSlot_14 rfl (Nat.le_refl _) (Nat.le_refl _) (by rw [hP]; exact ⟨congrArg (fun z => some (Value.int z)) (hv), rfl⟩)

set_option maxRecDepth 100000 in
set_option maxHeartbeats 4000000 in
theorem c_X5_changes {y1 y2 y3 : Int32} {a : Nat → Int32} {μ : Mu} {n : Nat} {hs : Nat → Mu} (hM : Ob z st0 91 (bMo κ (nI n) y1 y2 y3)) (hA : Ob z st0 92 (bA κ 293 a)) (hR : Rm μ a) (hH : HmP κ z st0 hs n) : CT zl κ yX5_changes cX5_changes 2 none (r0 0 0) z [.ref (ad κ 91)] st0 (PV (fun u => (Ob z u 91 (bMo κ (nI (hcnt n)) y1 y2 y3) ∧ HmP κ z u (hpush hs n μ) (hcnt n)) ∧ Fr (fun q : Nat => q = 91 ∨ q = 94) st0 u)) := by
  obtain ⟨P, hP⟩ : ∃ P : Option Value → St → Prop, P = (PV (fun u => (Ob z u 91 (bMo κ (nI (hcnt n)) y1 y2 y3) ∧ HmP κ z u (hpush hs n μ) (hcnt n)) ∧ Fr (fun q : Nat => q = 91 ∨ q = 94) st0 u)) := ⟨_, rfl⟩
  rw [← hP]
  refine CT.of (by decide +kernel) (Nat.le_of_ble_eq_true rfl) (fun zp ze zs zm zar zbe zme zc C _ => ?_)
  have C : Cx zp zs zm zar zme zc κ cX5_changes 2 RX5 none := C
  refine ws_lv (lv2 := [some (.ref (ad κ 91)), none]) rfl ?_
  obtain ⟨h, hHb, hn6, hh⟩ := hH
  have h24 := hR.le
  have hF : Fr (fun q : Nat => q = 91 ∨ q = 94) st0 st0 := Fr.rf
  have J50 : ∀ (c : Nat), ∀ (h2 : Nat → Int32), ∀ (hcc : c + 1 = hcnt n), ∀ (hrow : ∀ k, k < c → Rm (if n < 6 then hs k else hs (k + 1)) (fun j => h2 (293 * k + j))), ∀ (st1 : St), ∀ (hM : Ob z st1 91 (bMo κ (nI c) y1 y2 y3)), ∀ (hA : Ob z st1 92 (bA κ 293 a)), ∀ (hHb : Ob z st1 94 (bA κ 1758 h2)), ∀ (hF : Fr (fun q : Nat => q = 91 ∨ q = 94) st0 st1), WS zp zl ze (r0 0 0) zs zm zar zbe zme zc κ z 0 0 (QM zbe zar zs κ z (r0 0 0) P) st1 50 [some (.ref (ad κ 91)), none] [] := by
    intro c h2 hcc hrow st1 hM hA hHb hF
    have hc6 := hcnt_le hn6
    refine ws_iconst 50 C dX5_changes_50 (nI 0) (by decide) ?_
    refine ws_istore_n 51 C dX5_changes_51 rfl [some (.ref (ad κ 91)), some (.int (nI 0))] rfl ?_
    have L52 : ∀ j : Nat, j ≤ 293 → ∀ (h3 : Nat → Int32), ∀ (f1 : ∀ x, x < 293 * c → h3 x = h2 x), ∀ (f2 : ∀ x, x < j → h3 (293 * c + x) = a x), ∀ (st2 : St), ∀ (hM : Ob z st2 91 (bMo κ (nI c) y1 y2 y3)), ∀ (hA : Ob z st2 92 (bA κ 293 a)), ∀ (hHb : Ob z st2 94 (bA κ 1758 h3)), ∀ (hF : Fr (fun q : Nat => q = 91 ∨ q = 94) st0 st2), WS zp zl ze (r0 0 0) zs zm zar zbe zme zc κ z 0 0 (QM zbe zar zs κ z (r0 0 0) P) st2 52 [some (.ref (ad κ 91)), some (.int (nI j))] [] := by
      refine dnw ?_
      intro j hj ih52 h3 f1 f2 st2 hM hA hHb hF
      refine ws_iload_n 52 C dX5_changes_52 rfl ?_
      refine ws_sipush 53 C dX5_changes_53 (nI 293) (by decide) ?_
      refine ws_nicmp_ge 56 C 86 dX5_changes_56 (by decide) (by omega) (by omega) (fun c56 => ?_) (fun c56 => ?_)
      · skip
        refine ws_aload_n 86 C dX5_changes_86 rfl ?_
        refine ws_dup 87 C dX5_changes_87 rfl ?_
        refine ws_get 88 C dX5_changes_88 fX5_52 hM rfl rfl ?_
        refine ws_iconst 91 C dX5_changes_91 (nI 1) (by decide) ?_
        refine ws_iadd 92 C dX5_changes_92 (nI (c + 1)) (nI_add _ _) ?_
        refine ws_put 93 C dX5_changes_93 fX5_52 q5_3 hM rfl (Nat.le_of_ble_eq_true rfl) rfl rfl (fun st3 est3 => ?_)
        have hM : Ob z st3 91 (bMo κ (nI (c + 1)) y1 y2 y3) := Ob.put' (j := 0) hM est3 rfl
        have hA := hA.ne' (L := 1) est3 rfl (by omega)
        have hHb := hHb.ne' (L := 1) est3 rfl (by omega)
        have hF := hF.put' est3 (show (91) = 91 ∨ (91) = 94 from by omega)
        exact ws_vret 96 C dX5_changes_96 rfl (Nat.le_refl _) (Nat.le_refl _) (by rw [hP]; exact ⟨rfl, ⟨⟨by rw [← hcc]; exact hM, _, hHb, hc6, hm_push hR hcc hn6 hrow f1 (fun x hx => f2 x (by omega))⟩, hF⟩⟩)
      · skip
        refine ws_aload_n 59 C dX5_changes_59 rfl ?_
        refine ws_get 60 C dX5_changes_60 fX5_16 hM rfl rfl ?_
        refine ws_sipush 63 C dX5_changes_63 (nI 293) (by decide) ?_
        refine ws_aload_n 66 C dX5_changes_66 rfl ?_
        refine ws_get 67 C dX5_changes_67 fX5_52 hM rfl rfl ?_
        refine ws_imul 70 C dX5_changes_70 (nI (293 * c)) (pk_mul _ _) ?_
        refine ws_iload_n 71 C dX5_changes_71 rfl ?_
        refine ws_iadd 72 C dX5_changes_72 (nI (293 * c + j)) (nI_add _ _) ?_
        refine ws_aload_n 73 C dX5_changes_73 rfl ?_
        refine ws_get 74 C dX5_changes_74 fX5_7 hM rfl rfl ?_
        refine ws_iload_n 77 C dX5_changes_77 rfl ?_
        refine ws_iald 78 C dX5_changes_78 hA 0 rfl (vp_in_nI (by omega) (by decide)) (a j) (congrArg a (nI_clamp (by omega))) ?_
        refine ws_iast 79 C dX5_changes_79 hHb 0 rfl (vp_in_nI (by omega) (by decide)) (293 * c + j) (nI_clamp (by omega)) (a j) rfl (fun st4 est4 => ?_)
        have hM := hM.ne' (L := 1) est4 rfl (by omega)
        have hA := hA.ne' (L := 1) est4 rfl (by omega)
        have hHb : Ob z st4 94 (bA κ 1758 (upd h3 (293 * c + j) (a j))) := Ob.put' (j := 0) hHb est4 rfl
        have hF := hF.put' est4 (show (94) = 91 ∨ (94) = 94 from by omega)
        refine ws_iinc 80 C dX5_changes_80 rfl (nI (j + 1)) (nI_1 _) rfl [some (.ref (ad κ 91)), some (.int (nI (j + 1)))] rfl ?_
        refine ws_goto 83 C 52 dX5_changes_83 (by decide) ?_
        exact ih52 c56 (upd h3 (293 * c + j) (a j)) (row_lo f1 (by omega)) (row_up f2) st4 hM hA hHb hF
    exact L52 0 (Nat.zero_le _) h2 (fun x hx => rfl) (fun x hx => (by omega)) st1 hM hA hHb hF
  refine ws_aload_n 0 C dX5_changes_0 rfl ?_
  refine ws_get 1 C dX5_changes_1 fX5_52 hM rfl rfl ?_
  refine ws_bipush 4 C dX5_changes_4 (nI 6) (by decide) ?_
  refine ws_nicmp_ne 6 C 50 dX5_changes_6 (by decide) (by omega) (by omega) (fun c6 => ?_) (fun c6 => ?_)
  · skip
    exact J50 n h (hcnt_lt (by omega)) (hrow_lt (by omega) hh) st0 hM hA hHb hF
  · skip
    refine ws_iconst 9 C dX5_changes_9 (nI 0) (by decide) ?_
    refine ws_istore_n 10 C dX5_changes_10 rfl [some (.ref (ad κ 91)), some (.int (nI 0))] rfl ?_
    have L11 : ∀ k : Nat, k ≤ 1465 → ∀ (h2 : Nat → Int32), ∀ (e1 : ∀ j, j < k → h2 j = h (j + 293)), ∀ (e2 : ∀ j, k ≤ j → h2 j = h j), ∀ (st5 : St), ∀ (hM : Ob z st5 91 (bMo κ (nI n) y1 y2 y3)), ∀ (hA : Ob z st5 92 (bA κ 293 a)), ∀ (hHb : Ob z st5 94 (bA κ 1758 h2)), ∀ (hF : Fr (fun q : Nat => q = 91 ∨ q = 94) st0 st5), WS zp zl ze (r0 0 0) zs zm zar zbe zme zc κ z 0 0 (QM zbe zar zs κ z (r0 0 0) P) st5 11 [some (.ref (ad κ 91)), some (.int (nI k))] [] := by
      refine dnw ?_
      intro k hk ih11 h2 e1 e2 st5 hM hA hHb hF
      refine ws_iload_n 11 C dX5_changes_11 rfl ?_
      refine ws_sipush 12 C dX5_changes_12 (nI 1465) (by decide) ?_
      refine ws_nicmp_ge 15 C 40 dX5_changes_15 (by decide) (by omega) (by omega) (fun c15 => ?_) (fun c15 => ?_)
      · skip
        refine ws_aload_n 40 C dX5_changes_40 rfl ?_
        refine ws_dup 41 C dX5_changes_41 rfl ?_
        refine ws_get 42 C dX5_changes_42 fX5_52 hM rfl rfl ?_
        refine ws_iconst 45 C dX5_changes_45 (nI 1) (by decide) ?_
        refine ws_isub 46 C dX5_changes_46 (nI 5) (by rw [c6]; decide) ?_
        refine ws_put 47 C dX5_changes_47 fX5_52 q5_3 hM rfl (Nat.le_of_ble_eq_true rfl) rfl rfl (fun st6 est6 => ?_)
        have hM : Ob z st6 91 (bMo κ (nI 5) y1 y2 y3) := Ob.put' (j := 0) hM est6 rfl
        have hA := hA.ne' (L := 1) est6 rfl (by omega)
        have hHb := hHb.ne' (L := 1) est6 rfl (by omega)
        have hF := hF.put' est6 (show (91) = 91 ∨ (91) = 94 from by omega)
        refine ws_wk (lv2 := [some (.ref (ad κ 91)), none]) ⟨rfl, trivial⟩ ?_
        exact J50 5 h2 (hcnt_6 c6) (hrow_6 c6 (show 1465 ≤ k from by omega) hh e1) st6 hM hA hHb hF
      · skip
        refine ws_aload_n 18 C dX5_changes_18 rfl ?_
        refine ws_get 19 C dX5_changes_19 fX5_16 hM rfl rfl ?_
        refine ws_iload_n 22 C dX5_changes_22 rfl ?_
        refine ws_aload_n 23 C dX5_changes_23 rfl ?_
        refine ws_get 24 C dX5_changes_24 fX5_16 hM rfl rfl ?_
        refine ws_iload_n 27 C dX5_changes_27 rfl ?_
        refine ws_sipush 28 C dX5_changes_28 (nI 293) (by decide) ?_
        refine ws_iadd 31 C dX5_changes_31 (nI (k + 293)) (nI_add _ _) ?_
        refine ws_iald 32 C dX5_changes_32 hHb 0 rfl (vp_in_nI (by omega) (by decide)) (h (k + 293)) ((congrArg h2 (nI_clamp (by omega))).trans (e2 _ (by omega))) ?_
        refine ws_iast 33 C dX5_changes_33 hHb 0 rfl (vp_in_nI (by omega) (by decide)) k (nI_clamp (by omega)) (h (k + 293)) rfl (fun st7 est7 => ?_)
        have hM := hM.ne' (L := 1) est7 rfl (by omega)
        have hA := hA.ne' (L := 1) est7 rfl (by omega)
        have hHb : Ob z st7 94 (bA κ 1758 (upd h2 k (h (k + 293)))) := Ob.put' (j := 0) hHb est7 rfl
        have hF := hF.put' est7 (show (94) = 91 ∨ (94) = 94 from by omega)
        refine ws_iinc 34 C dX5_changes_34 rfl (nI (k + 1)) (nI_1 _) rfl [some (.ref (ad κ 91)), some (.int (nI (k + 1)))] rfl ?_
        refine ws_goto 37 C 11 dX5_changes_37 (by decide) ?_
        exact ih11 c15 (upd h2 k (h (k + 293))) (upd_lt e1 rfl) (fun j hj => (pk_un (by omega)).trans (e2 j (by omega))) st7 hM hA hHb hF
    exact L11 0 (Nat.zero_le _) h (fun j hj => (by omega)) (fun j hj => rfl) st0 hM hA hHb hF

set_option maxRecDepth 100000 in
set_option maxHeartbeats 4000000 in
theorem c_X5_takesOut {y0 y1 y2 y3 : Int32} {a : Nat → Int32} {μ : Mu} (hM : Ob z st0 91 (bMo κ y0 y1 y2 y3)) (hA : Ob z st0 92 (bA κ 293 a)) (hR : Rm μ a) {i : Nat} (hi : i < mn μ) : CT zl κ yX5_takesOut cX5_takesOut 3 none (r0 0 0) z [.ref (ad κ 91), .int (nI i)] st0 (PV (fun u => (∃ g, Ob z u 92 (bA κ 293 g) ∧ Rm (muDrop μ i) g) ∧ Fr (fun q : Nat => q = 92) st0 u)) := by
  obtain ⟨P, hP⟩ : ∃ P : Option Value → St → Prop, P = (PV (fun u => (∃ g, Ob z u 92 (bA κ 293 g) ∧ Rm (muDrop μ i) g) ∧ Fr (fun q : Nat => q = 92) st0 u)) := ⟨_, rfl⟩
  rw [← hP]
  refine CT.of (by decide +kernel) (Nat.le_of_ble_eq_true rfl) (fun zp ze zs zm zar zbe zme zc C _ => ?_)
  have C : Cx zp zs zm zar zme zc κ cX5_takesOut 3 RX5 none := C
  refine ws_lv (lv2 := [some (.ref (ad κ 91)), some (.int (nI i)), none]) rfl ?_
  have h24 := hR.le
  have hF : Fr (fun q : Nat => q = 92) st0 st0 := Fr.rf
  refine ws_bipush 0 C dX5_takesOut_0 (nI 29) (by decide) ?_
  refine ws_bipush 2 C dX5_takesOut_2 (nI 11) (by decide) ?_
  refine ws_iload_n 4 C dX5_takesOut_4 rfl ?_
  refine ws_imul 5 C dX5_takesOut_5 (nI (11 * i)) (pk_mul _ _) ?_
  refine ws_iadd 6 C dX5_takesOut_6 (nI (29 + 11 * i)) (nI_add _ _) ?_
  refine ws_istore_n 7 C dX5_takesOut_7 rfl [some (.ref (ad κ 91)), some (.int (nI i)), some (.int (nI (29 + 11 * i)))] rfl ?_
  have L8 : ∀ t : Nat, t ≤ 282 - (29 + 11 * i) → ∀ (g : Nat → Int32), ∀ (e1 : ∀ j, j < 29 + 11 * i → g j = a j), ∀ (e2 : ∀ j, 29 + 11 * i ≤ j → j < 29 + 11 * i + t → g j = a (j + 11)), ∀ (e3 : ∀ j, 29 + 11 * i + t ≤ j → g j = a j), ∀ (st1 : St), ∀ (hM : Ob z st1 91 (bMo κ y0 y1 y2 y3)), ∀ (hA : Ob z st1 92 (bA κ 293 g)), ∀ (hF : Fr (fun q : Nat => q = 92) st0 st1), WS zp zl ze (r0 0 0) zs zm zar zbe zme zc κ z 0 0 (QM zbe zar zs κ z (r0 0 0) P) st1 8 [some (.ref (ad κ 91)), some (.int (nI i)), some (.int (nI (29 + 11 * i + t)))] [] := by
    refine dnw ?_
    intro t ht ih8 g e1 e2 e3 st1 hM hA hF
    refine ws_iload_n 8 C dX5_takesOut_8 rfl ?_
    refine ws_sipush 9 C dX5_takesOut_9 (nI 282) (by decide) ?_
    refine ws_nicmp_ge 12 C 36 dX5_takesOut_12 (by decide) (by omega) (by omega) (fun c12 => ?_) (fun c12 => ?_)
    · skip
      refine ws_sipush 36 C dX5_takesOut_36 (nI 282) (by decide) ?_
      refine ws_istore_n 39 C dX5_takesOut_39 rfl [some (.ref (ad κ 91)), some (.int (nI i)), some (.int (nI 282))] rfl ?_
      have L40 : ∀ t2 : Nat, t2 ≤ 11 → ∀ (g2 : Nat → Int32), ∀ (d1 : ∀ j, j < 282 → g2 j = g j), ∀ (st2 : St), ∀ (hM : Ob z st2 91 (bMo κ y0 y1 y2 y3)), ∀ (hA : Ob z st2 92 (bA κ 293 g2)), ∀ (hF : Fr (fun q : Nat => q = 92) st0 st2), WS zp zl ze (r0 0 0) zs zm zar zbe zme zc κ z 0 0 (QM zbe zar zs κ z (r0 0 0) P) st2 40 [some (.ref (ad κ 91)), some (.int (nI i)), some (.int (nI (282 + t2)))] [] := by
        refine dnw ?_
        intro t2 ht2 ih40 g2 d1 st2 hM hA hF
        refine ws_iload_n 40 C dX5_takesOut_40 rfl ?_
        refine ws_sipush 41 C dX5_takesOut_41 (nI 293) (by decide) ?_
        refine ws_nicmp_ge 44 C 60 dX5_takesOut_44 (by decide) (by omega) (by omega) (fun c44 => ?_) (fun c44 => ?_)
        · skip
          refine ws_aload_n 60 C dX5_takesOut_60 rfl ?_
          refine ws_get 61 C dX5_takesOut_61 fX5_7 hM rfl rfl ?_
          refine ws_iconst 64 C dX5_takesOut_64 (nI 4) (by decide) ?_
          refine ws_dup2 65 C dX5_takesOut_65 rfl rfl ?_
          refine ws_iald 66 C dX5_takesOut_66 hA 0 rfl (vp_in_nI (by omega) (by decide)) (nI (mn μ)) ((congrArg g2 (nI_clamp (by omega))).trans ((d1 4 (by omega)).trans ((e1 4 (by omega)).trans hR.n))) ?_
          refine ws_iconst 67 C dX5_takesOut_67 (nI 1) (by decide) ?_
          refine ws_isub 68 C dX5_takesOut_68 (nI (mn μ - 1)) (pk_sub (by omega)) ?_
          refine ws_iast 69 C dX5_takesOut_69 hA 0 rfl (vp_in_nI (by omega) (by decide)) 4 (nI_clamp (by omega)) (nI (mn μ - 1)) rfl (fun st3 est3 => ?_)
          have hM := hM.ne' (L := 1) est3 rfl (by omega)
          have hA : Ob z st3 92 (bA κ 293 (upd g2 4 (nI (mn μ - 1)))) := Ob.put' (j := 0) hA est3 rfl
          have hF := hF.put' est3 (show (92) = 92 from by omega)
          exact ws_vret 70 C dX5_takesOut_70 rfl (Nat.le_refl _) (Nat.le_refl _) (by rw [hP]; exact ⟨rfl, ⟨⟨_, hA, Rm_drop hR hi (fun j hj => (d1 j (by omega)).trans (e1 j hj)) (fun j h1 h2 => (d1 j h2).trans (e2 j h1 (by omega)))⟩, hF⟩⟩)
        · skip
          refine ws_aload_n 47 C dX5_takesOut_47 rfl ?_
          refine ws_get 48 C dX5_takesOut_48 fX5_7 hM rfl rfl ?_
          refine ws_iload_n 51 C dX5_takesOut_51 rfl ?_
          refine ws_iconst 52 C dX5_takesOut_52 (nI 0) (by decide) ?_
          refine ws_iast 53 C dX5_takesOut_53 hA 0 rfl (vp_in_nI (by omega) (by decide)) (282 + t2) (nI_clamp (by omega)) (nI 0) rfl (fun st4 est4 => ?_)
          have hM := hM.ne' (L := 1) est4 rfl (by omega)
          have hA : Ob z st4 92 (bA κ 293 (upd g2 (282 + t2) (nI 0))) := Ob.put' (j := 0) hA est4 rfl
          have hF := hF.put' est4 (show (92) = 92 from by omega)
          refine ws_iinc 54 C dX5_takesOut_54 rfl (nI (282 + t2 + 1)) (nI_1 _) rfl [some (.ref (ad κ 91)), some (.int (nI i)), some (.int (nI (282 + t2 + 1)))] rfl ?_
          refine ws_goto 57 C 40 dX5_takesOut_57 (by decide) ?_
          exact ih40 (by omega) (upd g2 (282 + t2) (nI 0)) (row_lo d1 (by omega)) st4 hM hA hF
      exact L40 0 (Nat.zero_le _) g (fun j hj => rfl) st1 hM hA hF
    · skip
      refine ws_aload_n 15 C dX5_takesOut_15 rfl ?_
      refine ws_get 16 C dX5_takesOut_16 fX5_7 hM rfl rfl ?_
      refine ws_iload_n 19 C dX5_takesOut_19 rfl ?_
      refine ws_aload_n 20 C dX5_takesOut_20 rfl ?_
      refine ws_get 21 C dX5_takesOut_21 fX5_7 hM rfl rfl ?_
      refine ws_iload_n 24 C dX5_takesOut_24 rfl ?_
      refine ws_bipush 25 C dX5_takesOut_25 (nI 11) (by decide) ?_
      refine ws_iadd 27 C dX5_takesOut_27 (nI (29 + 11 * i + t + 11)) (nI_add _ _) ?_
      refine ws_iald 28 C dX5_takesOut_28 hA 0 rfl (vp_in_nI (by omega) (by decide)) (a (29 + 11 * i + t + 11)) ((congrArg g (nI_clamp (by omega))).trans (e3 _ (by omega))) ?_
      refine ws_iast 29 C dX5_takesOut_29 hA 0 rfl (vp_in_nI (by omega) (by decide)) (29 + 11 * i + t) (nI_clamp (by omega)) (a (29 + 11 * i + t + 11)) rfl (fun st5 est5 => ?_)
      have hM := hM.ne' (L := 1) est5 rfl (by omega)
      have hA : Ob z st5 92 (bA κ 293 (upd g (29 + 11 * i + t) (a (29 + 11 * i + t + 11)))) := Ob.put' (j := 0) hA est5 rfl
      have hF := hF.put' est5 (show (92) = 92 from by omega)
      refine ws_iinc 30 C dX5_takesOut_30 rfl (nI (29 + 11 * i + t + 1)) (nI_1 _) rfl [some (.ref (ad κ 91)), some (.int (nI i)), some (.int (nI (29 + 11 * i + t + 1)))] rfl ?_
      refine ws_goto 33 C 8 dX5_takesOut_33 (by decide) ?_
      exact ih8 (by omega) (upd g (29 + 11 * i + t) (a (29 + 11 * i + t + 11))) (row_lo e1 (by omega)) (tk_1 e2) (fun j hj => (pk_un (by omega)).trans (e3 j (by omega))) st5 hM hA hF
  exact L8 0 (Nat.zero_le _) a (fun j hj => rfl) (fun j h1 h2 => (by omega)) (fun j hj => rfl) st0 hM hA hF

set_option maxRecDepth 100000 in
set_option maxHeartbeats 4000000 in
theorem c_X5_often {y0 y1 y2 y3 : Int32} {a : Nat → Int32} {μ : Mu} (hM : Ob z st0 91 (bMo κ y0 y1 y2 y3)) (hA : Ob z st0 92 (bA κ 293 a)) (hR : Rm μ a) {q : Nat} (hq : q < 8) : CT zl κ yX5_often cX5_often 6 (some .int) (r0 2 45) z [.ref (ad κ 91), .int (nI q)] st0 (PRi (nI (cnT μ q (mn μ))) st0) := by
  obtain ⟨P, hP⟩ : ∃ P : Option Value → St → Prop, P = (PRi (nI (cnT μ q (mn μ))) st0) := ⟨_, rfl⟩
  rw [← hP]
  refine CT.of (by decide +kernel) (Nat.le_of_ble_eq_true rfl) (fun zp ze zs zm zar zbe zme zc C _ => ?_)
  have C : Cx zp zs zm zar zme zc κ cX5_often 6 RX5 (some .int) := C
  refine ws_lv (lv2 := [some (.ref (ad κ 91)), some (.int (nI q)), none, none, none, none]) rfl ?_
  have h24 := hR.le
  refine ws_iconst 0 C dX5_often_0 (nI 0) (by decide) ?_
  refine ws_istore_n 1 C dX5_often_1 rfl [some (.ref (ad κ 91)), some (.int (nI q)), some (.int (nI 0)), none, none, none] rfl ?_
  refine ws_iconst 2 C dX5_often_2 (nI 0) (by decide) ?_
  refine ws_istore_n 3 C dX5_often_3 rfl [some (.ref (ad κ 91)), some (.int (nI q)), some (.int (nI 0)), some (.int (nI 0)), none, none] rfl ?_
  have L4 : ∀ w : Nat, w ≤ mn μ → ∀ (x : Nat), ∀ (hx : x = cnT μ q w), WS zp zl ze (r0 2 45) zs zm zar zbe zme zc κ z 0 0 (QM zbe zar zs κ z (r0 2 45) P) st0 4 [some (.ref (ad κ 91)), some (.int (nI q)), some (.int (nI x)), some (.int (nI w)), none, none] [] := by
    refine dnw ?_
    intro w hw ih4 x hx
    refine ws_iload_n 4 C dX5_often_4 rfl ?_
    refine ws_aload_n 5 C dX5_often_5 rfl ?_
    refine ws_get 6 C dX5_often_6 fX5_7 hM rfl rfl ?_
    refine ws_iconst 9 C dX5_often_9 (nI 4) (by decide) ?_
    refine ws_iald 10 C dX5_often_10 hA 0 rfl (vp_in_nI (by omega) (by decide)) (nI (mn μ)) ((congrArg a (nI_clamp (by omega))).trans (hR.n)) ?_
    refine ws_nicmp_ge 11 C 85 dX5_often_11 (by decide) (by omega) (by omega) (fun c11 => ?_) (fun c11 => ?_)
    · skip
      refine ws_iload_n 85 C dX5_often_85 rfl ?_
      exact ws_iret 86 C  dX5_often_86 rfl (Nat.le_refl _) (Nat.le_refl _) (by rw [hP]; exact ⟨congrArg (fun z => some (Value.int z)) ((by rw [hx, show w = mn μ from by omega])), rfl⟩)
    · skip
      have h10 := (hR.ok.len c11).2
      refine ws_iconst 14 C dX5_often_14 (nI 0) (by decide) ?_
      refine ws_istore 15 C dX5_often_15 rfl [some (.ref (ad κ 91)), some (.int (nI q)), some (.int (nI x)), some (.int (nI w)), some (.int (nI 0)), none] rfl ?_
      have L17 : ∀ k : Nat, k ≤ ml μ w → ∀ (x2 : Nat), ∀ (hx2 : x2 = cnT μ q w + cnW μ q w k), WS zp zl ze (r0 2 45) zs zm zar zbe zme zc κ z 0 0 (QM zbe zar zs κ z (r0 2 45) P) st0 17 [some (.ref (ad κ 91)), some (.int (nI q)), some (.int (nI x2)), some (.int (nI w)), some (.int (nI k)), none] [] := by
        refine dnw ?_
        intro k hk ih17 x2 hx2
        refine ws_iload 17 C dX5_often_17 rfl ?_
        refine ws_aload_n 19 C dX5_often_19 rfl ?_
        refine ws_iload_n 20 C dX5_often_20 rfl ?_
        refine ws_callV0 21 C dX5_often_21 vX5_66 (c_X5_signs hM hA hR c11) rfl hM rfl rfl ⟨by decide, by decide⟩ ⟨Nat.zero_le _, Nat.zero_le _⟩ rfl rfl rfl (kR ?_)
        refine ws_nicmp_ge 24 C 79 dX5_often_24 (by decide) (by omega) (by omega) (fun c24 => ?_) (fun c24 => ?_)
        · skip
          have ek : k = ml μ w := by omega
          refine ws_iinc 79 C dX5_often_79 rfl (nI (w + 1)) (nI_1 _) rfl [some (.ref (ad κ 91)), some (.int (nI q)), some (.int (nI x2)), some (.int (nI (w + 1))), some (.int (nI k)), none] rfl ?_
          refine ws_goto 82 C 4 dX5_often_82 (by decide) ?_
          refine ws_wk (lv2 := [some (.ref (ad κ 91)), some (.int (nI q)), some (.int (nI x2)), some (.int (nI (w + 1))), none, none]) ⟨rfl, rfl, rfl, rfl, trivial⟩ ?_
          exact ih4 c11 x2 (by rw [hx2, ek]; rfl)
        · skip
          refine ws_aload_n 27 C dX5_often_27 rfl ?_
          refine ws_iload_n 28 C dX5_often_28 rfl ?_
          refine ws_iload 29 C dX5_often_29 rfl ?_
          refine ws_callV0 31 C dX5_often_31 vX5_70 (c_X5_signAt hM hA hR c11 c24) rfl hM rfl rfl ⟨by decide, by decide⟩ ⟨Nat.zero_le _, Nat.zero_le _⟩ rfl rfl rfl (kR ?_)
          have h8 := hR.ok.so c11 c24
          refine ws_callS0 34 C dX5_often_34 vX5_74 ((scv_k h8 ▸ c_X5_sortBy : CT zl κ yX5_sortBy cX5_sortBy 1 (some .int) (r0 1 25) z [.int (mg μ w k)] st0 (PRi (nI (so μ w k)) st0))) rfl ⟨by decide, by decide⟩ ⟨Nat.zero_le _, Nat.zero_le _⟩ rfl rfl rfl (kR ?_)
          refine ws_istore 37 C dX5_often_37 rfl [some (.ref (ad κ 91)), some (.int (nI q)), some (.int (nI x2)), some (.int (nI w)), some (.int (nI k)), some (.int (nI (so μ w k)))] rfl ?_
          refine ws_iload_n 39 C dX5_often_39 rfl ?_
          refine ws_iload_n 40 C dX5_often_40 rfl ?_
          refine ws_sipush 41 C dX5_often_41 ((-1006)) (by decide) ?_
          refine ws_icmp_ne 44 C 60 dX5_often_44 (by decide)  (fun c44 => ?_) (fun c44 => ?_)
          · skip
            refine ws_iload 60 C dX5_often_60 rfl ?_
            refine ws_iload_n 62 C dX5_often_62 rfl ?_
            refine ws_nicmp_ne 63 C 70 dX5_often_63 (by decide) (by omega) (by omega) (fun c63 => ?_) (fun c63 => ?_)
            · skip
              refine ws_iconst 70 C dX5_often_70 (nI 0) (by decide) ?_
              refine ws_iadd 71 C dX5_often_71 (nI (x2 + 0)) (nI_add _ _) ?_
              refine ws_istore_n 72 C dX5_often_72 rfl [some (.ref (ad κ 91)), some (.int (nI q)), some (.int (nI (x2 + 0))), some (.int (nI w)), some (.int (nI k)), some (.int (nI (so μ w k)))] rfl ?_
              refine ws_iinc 73 C dX5_often_73 rfl (nI (k + 1)) (nI_1 _) rfl [some (.ref (ad κ 91)), some (.int (nI q)), some (.int (nI (x2 + 0))), some (.int (nI w)), some (.int (nI (k + 1))), some (.int (nI (so μ w k)))] rfl ?_
              refine ws_goto 76 C 17 dX5_often_76 (by decide) ?_
              refine ws_wk (lv2 := [some (.ref (ad κ 91)), some (.int (nI q)), some (.int (nI (x2 + 0))), some (.int (nI w)), some (.int (nI (k + 1))), none]) ⟨rfl, rfl, rfl, rfl, rfl, trivial⟩ ?_
              exact ih17 c24 (x2 + 0) (by rw [cnW_0 c63]; exact hx2)
            · skip
              refine ws_iconst 66 C dX5_often_66 (nI 1) (by decide) ?_
              refine ws_goto 67 C 71 dX5_often_67 (by decide) ?_
              refine ws_iadd 71 C dX5_often_71 (nI (x2 + 1)) (nI_add _ _) ?_
              refine ws_istore_n 72 C dX5_often_72 rfl [some (.ref (ad κ 91)), some (.int (nI q)), some (.int (nI (x2 + 1))), some (.int (nI w)), some (.int (nI k)), some (.int (nI (so μ w k)))] rfl ?_
              refine ws_iinc 73 C dX5_often_73 rfl (nI (k + 1)) (nI_1 _) rfl [some (.ref (ad κ 91)), some (.int (nI q)), some (.int (nI (x2 + 1))), some (.int (nI w)), some (.int (nI (k + 1))), some (.int (nI (so μ w k)))] rfl ?_
              refine ws_goto 76 C 17 dX5_often_76 (by decide) ?_
              refine ws_wk (lv2 := [some (.ref (ad κ 91)), some (.int (nI q)), some (.int (nI (x2 + 1))), some (.int (nI w)), some (.int (nI (k + 1))), none]) ⟨rfl, rfl, rfl, rfl, rfl, trivial⟩ ?_
              exact ih17 c24 (x2 + 1) (by rw [cnW_1 c63, hx2, Nat.add_assoc])
          · skip
            exact absurd c44 (nI_no (by omega))
      exact L17 0 (Nat.zero_le _) x (by rw [hx]; rfl)
  exact L4 0 (Nat.zero_le _) 0 rfl

set_option maxRecDepth 100000 in
set_option maxHeartbeats 4000000 in
theorem c_X5_oftenN {y0 y1 y2 y3 : Int32} {a : Nat → Int32} {μ : Mu} (hM : Ob z st0 91 (bMo κ y0 y1 y2 y3)) (hA : Ob z st0 92 (bA κ 293 a)) (hR : Rm μ a) : CT zl κ yX5_often cX5_often 6 (some .int) (r0 2 45) z [.ref (ad κ 91), .int ((-1006))] st0 (PRi (nI (smN (ml μ) (mn μ) - cnT μ 0 (mn μ))) st0) := by
  obtain ⟨P, hP⟩ : ∃ P : Option Value → St → Prop, P = (PRi (nI (smN (ml μ) (mn μ) - cnT μ 0 (mn μ))) st0) := ⟨_, rfl⟩
  rw [← hP]
  refine CT.of (by decide +kernel) (Nat.le_of_ble_eq_true rfl) (fun zp ze zs zm zar zbe zme zc C _ => ?_)
  have C : Cx zp zs zm zar zme zc κ cX5_often 6 RX5 (some .int) := C
  refine ws_lv (lv2 := [some (.ref (ad κ 91)), some (.int ((-1006))), none, none, none, none]) rfl ?_
  have h24 := hR.le
  refine ws_iconst 0 C dX5_often_0 (nI 0) (by decide) ?_
  refine ws_istore_n 1 C dX5_often_1 rfl [some (.ref (ad κ 91)), some (.int ((-1006))), some (.int (nI 0)), none, none, none] rfl ?_
  refine ws_iconst 2 C dX5_often_2 (nI 0) (by decide) ?_
  refine ws_istore_n 3 C dX5_often_3 rfl [some (.ref (ad κ 91)), some (.int ((-1006))), some (.int (nI 0)), some (.int (nI 0)), none, none] rfl ?_
  have L4 : ∀ w : Nat, w ≤ mn μ → ∀ (x : Nat), ∀ (hx : x + cnT μ 0 w = smN (ml μ) w), WS zp zl ze (r0 2 45) zs zm zar zbe zme zc κ z 0 0 (QM zbe zar zs κ z (r0 2 45) P) st0 4 [some (.ref (ad κ 91)), some (.int ((-1006))), some (.int (nI x)), some (.int (nI w)), none, none] [] := by
    refine dnw ?_
    intro w hw ih4 x hx
    refine ws_iload_n 4 C dX5_often_4 rfl ?_
    refine ws_aload_n 5 C dX5_often_5 rfl ?_
    refine ws_get 6 C dX5_often_6 fX5_7 hM rfl rfl ?_
    refine ws_iconst 9 C dX5_often_9 (nI 4) (by decide) ?_
    refine ws_iald 10 C dX5_often_10 hA 0 rfl (vp_in_nI (by omega) (by decide)) (nI (mn μ)) ((congrArg a (nI_clamp (by omega))).trans (hR.n)) ?_
    refine ws_nicmp_ge 11 C 85 dX5_often_11 (by decide) (by omega) (by omega) (fun c11 => ?_) (fun c11 => ?_)
    · skip
      refine ws_iload_n 85 C dX5_often_85 rfl ?_
      exact ws_iret 86 C  dX5_often_86 rfl (Nat.le_refl _) (Nat.le_refl _) (by rw [hP]; exact ⟨congrArg (fun z => some (Value.int z)) ((by rw [show w = mn μ from by omega] at hx; rw [← hx, Nat.add_sub_cancel])), rfl⟩)
    · skip
      have h10 := (hR.ok.len c11).2
      refine ws_iconst 14 C dX5_often_14 (nI 0) (by decide) ?_
      refine ws_istore 15 C dX5_often_15 rfl [some (.ref (ad κ 91)), some (.int ((-1006))), some (.int (nI x)), some (.int (nI w)), some (.int (nI 0)), none] rfl ?_
      have L17 : ∀ k : Nat, k ≤ ml μ w → ∀ (x2 : Nat), ∀ (hx2 : x2 + (cnT μ 0 w + cnW μ 0 w k) = smN (ml μ) w + k), WS zp zl ze (r0 2 45) zs zm zar zbe zme zc κ z 0 0 (QM zbe zar zs κ z (r0 2 45) P) st0 17 [some (.ref (ad κ 91)), some (.int ((-1006))), some (.int (nI x2)), some (.int (nI w)), some (.int (nI k)), none] [] := by
        refine dnw ?_
        intro k hk ih17 x2 hx2
        refine ws_iload 17 C dX5_often_17 rfl ?_
        refine ws_aload_n 19 C dX5_often_19 rfl ?_
        refine ws_iload_n 20 C dX5_often_20 rfl ?_
        refine ws_callV0 21 C dX5_often_21 vX5_66 (c_X5_signs hM hA hR c11) rfl hM rfl rfl ⟨by decide, by decide⟩ ⟨Nat.zero_le _, Nat.zero_le _⟩ rfl rfl rfl (kR ?_)
        refine ws_nicmp_ge 24 C 79 dX5_often_24 (by decide) (by omega) (by omega) (fun c24 => ?_) (fun c24 => ?_)
        · skip
          have ek : k = ml μ w := by omega
          refine ws_iinc 79 C dX5_often_79 rfl (nI (w + 1)) (nI_1 _) rfl [some (.ref (ad κ 91)), some (.int ((-1006))), some (.int (nI x2)), some (.int (nI (w + 1))), some (.int (nI k)), none] rfl ?_
          refine ws_goto 82 C 4 dX5_often_82 (by decide) ?_
          refine ws_wk (lv2 := [some (.ref (ad κ 91)), some (.int ((-1006))), some (.int (nI x2)), some (.int (nI (w + 1))), none, none]) ⟨rfl, rfl, rfl, rfl, trivial⟩ ?_
          exact ih4 c11 x2 (by rw [ek] at hx2; exact hx2)
        · skip
          refine ws_aload_n 27 C dX5_often_27 rfl ?_
          refine ws_iload_n 28 C dX5_often_28 rfl ?_
          refine ws_iload 29 C dX5_often_29 rfl ?_
          refine ws_callV0 31 C dX5_often_31 vX5_70 (c_X5_signAt hM hA hR c11 c24) rfl hM rfl rfl ⟨by decide, by decide⟩ ⟨Nat.zero_le _, Nat.zero_le _⟩ rfl rfl rfl (kR ?_)
          have h8 := hR.ok.so c11 c24
          refine ws_callS0 34 C dX5_often_34 vX5_74 ((scv_k h8 ▸ c_X5_sortBy : CT zl κ yX5_sortBy cX5_sortBy 1 (some .int) (r0 1 25) z [.int (mg μ w k)] st0 (PRi (nI (so μ w k)) st0))) rfl ⟨by decide, by decide⟩ ⟨Nat.zero_le _, Nat.zero_le _⟩ rfl rfl rfl (kR ?_)
          refine ws_istore 37 C dX5_often_37 rfl [some (.ref (ad κ 91)), some (.int ((-1006))), some (.int (nI x2)), some (.int (nI w)), some (.int (nI k)), some (.int (nI (so μ w k)))] rfl ?_
          refine ws_iload_n 39 C dX5_often_39 rfl ?_
          refine ws_iload_n 40 C dX5_often_40 rfl ?_
          refine ws_sipush 41 C dX5_often_41 ((-1006)) (by decide) ?_
          refine ws_icmp_ne 44 C 60 dX5_often_44 (by decide)  (fun c44 => ?_) (fun c44 => ?_)
          · skip
            exact absurd c44 (fun q => q rfl)
          · skip
            refine ws_iload 47 C dX5_often_47 rfl ?_
            refine ws_if_le 49 C 56 dX5_often_49 (by decide)  (fun c49 => ?_) (fun c49 => ?_)
            · skip
              refine ws_iconst 56 C dX5_often_56 (nI 0) (by decide) ?_
              refine ws_goto 57 C 71 dX5_often_57 (by decide) ?_
              refine ws_iadd 71 C dX5_often_71 (nI (x2 + 0)) (nI_add _ _) ?_
              refine ws_istore_n 72 C dX5_often_72 rfl [some (.ref (ad κ 91)), some (.int ((-1006))), some (.int (nI (x2 + 0))), some (.int (nI w)), some (.int (nI k)), some (.int (nI (so μ w k)))] rfl ?_
              refine ws_iinc 73 C dX5_often_73 rfl (nI (k + 1)) (nI_1 _) rfl [some (.ref (ad κ 91)), some (.int ((-1006))), some (.int (nI (x2 + 0))), some (.int (nI w)), some (.int (nI (k + 1))), some (.int (nI (so μ w k)))] rfl ?_
              refine ws_goto 76 C 17 dX5_often_76 (by decide) ?_
              refine ws_wk (lv2 := [some (.ref (ad κ 91)), some (.int ((-1006))), some (.int (nI (x2 + 0))), some (.int (nI w)), some (.int (nI (k + 1))), none]) ⟨rfl, rfl, rfl, rfl, rfl, trivial⟩ ?_
              exact ih17 c24 (x2 + 0) (by rw [cnW_1 (nI_le0 h8 c49)]; omega)
            · skip
              refine ws_iconst 52 C dX5_often_52 (nI 1) (by decide) ?_
              refine ws_goto 53 C 71 dX5_often_53 (by decide) ?_
              refine ws_iadd 71 C dX5_often_71 (nI (x2 + 1)) (nI_add _ _) ?_
              refine ws_istore_n 72 C dX5_often_72 rfl [some (.ref (ad κ 91)), some (.int ((-1006))), some (.int (nI (x2 + 1))), some (.int (nI w)), some (.int (nI k)), some (.int (nI (so μ w k)))] rfl ?_
              refine ws_iinc 73 C dX5_often_73 rfl (nI (k + 1)) (nI_1 _) rfl [some (.ref (ad κ 91)), some (.int ((-1006))), some (.int (nI (x2 + 1))), some (.int (nI w)), some (.int (nI (k + 1))), some (.int (nI (so μ w k)))] rfl ?_
              refine ws_goto 76 C 17 dX5_often_76 (by decide) ?_
              refine ws_wk (lv2 := [some (.ref (ad κ 91)), some (.int ((-1006))), some (.int (nI (x2 + 1))), some (.int (nI w)), some (.int (nI (k + 1))), none]) ⟨rfl, rfl, rfl, rfl, rfl, trivial⟩ ?_
              exact ih17 c24 (x2 + 1) (by rw [cnW_0 (nI_le0' c49)]; omega)
      exact L17 0 (Nat.zero_le _) x hx
  exact L4 0 (Nat.zero_le _) 0 rfl

set_option maxRecDepth 100000 in
set_option maxHeartbeats 4000000 in
theorem c_X5_allSigns {y0 y1 y2 y3 : Int32} {a : Nat → Int32} {μ : Mu} (hM : Ob z st0 91 (bMo κ y0 y1 y2 y3)) (hA : Ob z st0 92 (bA κ 293 a)) (hR : Rm μ a) : CT zl κ yX5_allSigns cX5_allSigns 3 (some .int) (r0 1 21) z [.ref (ad κ 91)] st0 (PRi (nI (smN (ml μ) (mn μ))) st0) := by
  obtain ⟨P, hP⟩ : ∃ P : Option Value → St → Prop, P = (PRi (nI (smN (ml μ) (mn μ))) st0) := ⟨_, rfl⟩
  rw [← hP]
  refine CT.of (by decide +kernel) (Nat.le_of_ble_eq_true rfl) (fun zp ze zs zm zar zbe zme zc C _ => ?_)
  have C : Cx zp zs zm zar zme zc κ cX5_allSigns 3 RX5 (some .int) := C
  refine ws_lv (lv2 := [some (.ref (ad κ 91)), none, none]) rfl ?_
  have h24 := hR.le
  refine ws_iconst 0 C dX5_allSigns_0 (nI 0) (by decide) ?_
  refine ws_istore_n 1 C dX5_allSigns_1 rfl [some (.ref (ad κ 91)), some (.int (nI 0)), none] rfl ?_
  refine ws_iconst 2 C dX5_allSigns_2 (nI 0) (by decide) ?_
  refine ws_istore_n 3 C dX5_allSigns_3 rfl [some (.ref (ad κ 91)), some (.int (nI 0)), some (.int (nI 0))] rfl ?_
  have L4 : ∀ k : Nat, k ≤ mn μ → WS zp zl ze (r0 1 21) zs zm zar zbe zme zc κ z 0 0 (QM zbe zar zs κ z (r0 1 21) P) st0 4 [some (.ref (ad κ 91)), some (.int (nI (smN (ml μ) k))), some (.int (nI k))] [] := by
    refine dnw ?_
    intro k hk ih4 
    refine ws_iload_n 4 C dX5_allSigns_4 rfl ?_
    refine ws_aload_n 5 C dX5_allSigns_5 rfl ?_
    refine ws_get 6 C dX5_allSigns_6 fX5_7 hM rfl rfl ?_
    refine ws_iconst 9 C dX5_allSigns_9 (nI 4) (by decide) ?_
    refine ws_iald 10 C dX5_allSigns_10 hA 0 rfl (vp_in_nI (by omega) (by decide)) (nI (mn μ)) ((congrArg a (nI_clamp (by omega))).trans (hR.n)) ?_
    refine ws_nicmp_ge 11 C 28 dX5_allSigns_11 (by decide) (by omega) (by omega) (fun c11 => ?_) (fun c11 => ?_)
    · skip
      refine ws_iload_n 28 C dX5_allSigns_28 rfl ?_
      exact ws_iret 29 C  dX5_allSigns_29 rfl (Nat.le_refl _) (Nat.le_refl _) (by rw [hP]; exact ⟨congrArg (fun z => some (Value.int z)) ((by rw [show k = mn μ from by omega])), rfl⟩)
    · skip
      refine ws_iload_n 14 C dX5_allSigns_14 rfl ?_
      refine ws_aload_n 15 C dX5_allSigns_15 rfl ?_
      refine ws_iload_n 16 C dX5_allSigns_16 rfl ?_
      refine ws_callV0 17 C dX5_allSigns_17 vX5_66 (c_X5_signs hM hA hR c11) rfl hM rfl rfl ⟨by decide, by decide⟩ ⟨Nat.zero_le _, Nat.zero_le _⟩ rfl rfl rfl (kR ?_)
      refine ws_iadd 20 C dX5_allSigns_20 (nI (smN (ml μ) k + ml μ k)) (nI_add _ _) ?_
      refine ws_istore_n 21 C dX5_allSigns_21 rfl [some (.ref (ad κ 91)), some (.int (nI (smN (ml μ) k + ml μ k))), some (.int (nI k))] rfl ?_
      refine ws_iinc 22 C dX5_allSigns_22 rfl (nI (k + 1)) (nI_1 _) rfl [some (.ref (ad κ 91)), some (.int (nI (smN (ml μ) k + ml μ k))), some (.int (nI (k + 1)))] rfl ?_
      refine ws_goto 25 C 4 dX5_allSigns_25 (by decide) ?_
      exact ih4 c11
  exact L4 0 (Nat.zero_le _)
end
