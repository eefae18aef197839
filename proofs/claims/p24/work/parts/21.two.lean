/-! Two objects: the second one's cells stand behind the first one's, 91 to 181; a contract for cells from 0 on holds behind other cells -/
def Sft (κ κ' : Kt) (d : Nat) : Prop := κ'.1 = κ.1 ∧ κ'.2.1 = κ.2.1 ∧ κ'.2.2.1 = κ.2.2.1 ∧ kN κ' = kN κ + d
def kst (κ : Kt) (H : Heap) : Kt := (κ.1, κ.2.1, κ.2.2.1, H)
theorem Inv.sft {κ : Kt} {d : Nat} {H : Heap} {U : State} (h : Inv κ U) (hs : H.size = kN κ + d) (hq : ∀ q, q < kN κ → H[q]? = (kH κ)[q]?) : Inv (kst κ H) U := by
  obtain ⟨h1, h2, ⟨h3, hx, hb⟩, ⟨h4, h5⟩, h6, h7⟩ := h
  have hA : ∀ q, fr (kst κ H) q → fr κ q := fun q hq => by
    have h8 : H.size ≤ q := hq
    show kN κ ≤ q
    omega
  have hq' : ∀ a, a < (kH κ).size → ¬ fr κ a → H[a]? = (kH κ)[a]? := fun a ha _ => hq a ha
  refine ⟨h1, h2, ⟨h3, hx.kept (hq _ hb), ?_⟩, ⟨(h4.kept hq').narrow hA, (h5.kept hq').narrow hA⟩, (h6.kept hq').narrow hA, (h7.kept hq').narrow hA⟩
  show kB κ < H.size
  omega
theorem Wd.sft {κ : Kt} {d n : Nat} {st : St} {H H0 : Heap} (h : Wd κ (d + n) st H) (hs : H0.size = kN κ + d) (hq : ∀ q, q < kN κ + d → H0[q]? = H[q]?) : Wd (kst κ H0) n (fun i => st (d + i)) H := by
  refine Wd.of (fun q (hk : q < H0.size) => (hq q (by omega)).symm) (fun k hk => ?_)
  have h1 := h.at (k := d + k) (by omega)
  show va_at (kG κ) kcl (H0.size + k, st (d + k)) H
  rw [show H0.size + k = ad κ (d + k) from by simp only [ad]; omega]
  exact h1
theorem CT.shift {l : Launch} {κ : Kt} {y : MethodName} {cc : ByteArray} {mL : Nat} {ret : Option FieldType} {rm : Room} {d n : Nat} {as : List Value} {st : St} {P : Kt → Option Value → St → Prop} (h : ∀ κ', Sft κ κ' d → CT l κ' y cc mL ret rm n as (fun i => st (d + i)) (P κ')) : CT l κ y cc mL ret rm (d + n) as st (fun v u => (∀ i, i < d → u i = st i) ∧ ∃ κ', Sft κ κ' d ∧ P κ' v (fun i => u (d + i))) := by
  intro p e ha hc hk s m args below hf hfit hpre hk2
  obtain ⟨hargs, hI, hW, hz⟩ := hpre
  have hz2 := hW.size
  obtain ⟨H0, hH0, hs0, hq0⟩ : ∃ H0 : Heap, H0 = s.heap.extract 0 (kN κ + d) ∧ H0.size = kN κ + d ∧ ∀ q, q < kN κ + d → H0[q]? = s.heap[q]? := by
    refine ⟨_, rfl, ?_, fun q hq => ?_⟩
    · rw [Array.size_extract]
      omega
    · rw [Array.getElem?_extract]
      rw [if_pos (by omega), Nat.zero_add]
  have hS : Sft κ (kst κ H0) d := ⟨rfl, rfl, rfl, hs0⟩
  have hI' : Inv (kst κ H0) s := hI.sft hs0 (fun q hq => (hq0 q (by omega)).trans (hW.1 q hq))
  have hW' : Wd (kst κ H0) n (fun i => st (d + i)) s.heap := hW.sft hs0 hq0
  have hN' : kN (kst κ H0) = kN κ + d := hs0
  obtain ⟨k, o, h1, h2, h3, ⟨⟨v, u, e1, e2, e3⟩, L, e4, e5⟩⟩ := h _ hS p e ha hc hk s m args below hf hfit ⟨hargs, hI', hW', by omega⟩ hk2
  have hbl : ∀ q, q < kN κ + d → (stepsAlone p.tables e k s).heap[q]? = s.heap[q]? := fun q hq => (e3.1 q (by omega)).trans (hq0 q hq)
  refine ⟨k, o, h1, h2, h3, ⟨⟨v, fun i => if i < d then st i else u (i - d), e1, ⟨fun i hi => if_pos hi, _, hS, ?_⟩, ?_⟩, L, e4, fun q hq => ?_⟩⟩
  · have hu : (fun i => if d + i < d then st (d + i) else u (d + i - d)) = u := by
      funext i
      rw [if_neg (by omega), Nat.add_sub_cancel_left]
    show P _ v (fun i => if d + i < d then st (d + i) else u (d + i - d))
    rw [hu]
    exact e2
  · refine Wd.of (fun q hq => (hbl q (by omega)).trans (hW.1 q hq)) (fun k hk => ?_)
    by_cases hd : k < d
    · have h6 := hW.at (k := k) (by omega)
      show va_at _ _ (ad κ k, if k < d then st k else u (k - d)) _
      rw [if_pos hd]
      exact h6.kept (hbl _ (by simp only [ad]; omega))
    · have h6 := e3.at (k := k - d) (by omega)
      show va_at _ _ (ad κ k, if k < d then st k else u (k - d)) _
      rw [if_neg hd]
      rw [show ad κ k = ad (kst κ H0) (k - d) from by simp only [ad]; omega]
      exact h6
  · have h6 : kN (kst κ H0) ≤ q.base := e5 q hq
    show kN κ ≤ q.base
    omega
theorem XI.same {κ1 κ2 : Kt} (h1 : κ1.2.1 = κ2.2.1) (h2 : kN κ1 = kN κ2) {z : Nat} {st : St} {S : Sg} (h : XI κ1 z st S) : XI κ2 z st S := by
  have ha : ad κ1 = ad κ2 := funext fun i => by simp only [ad, h2]
  have hI : kI κ1 = kI κ2 := by simp only [kI, h1]
  have hC : kC κ1 = kC κ2 := by simp only [kC, h1]
  have hZ : kZ κ1 = kZ κ2 := by simp only [kZ, h1]
  have hS : kS κ1 = kS κ2 := by simp only [kS, h1]
  simp only [XI, ShA, ShP, LyA, PdA, HsP, SlP, bSh, bLy, bPd, bHs, bXo, bQ, bZ, ha, hI, hC, hZ, hS] at h ⊢
  exact h
/-- a store that lies d cells further -/
def kq (κ : Kt) (d : Nat) : Kt := (κ.1, κ.2.1, κ.2.2.1, Array.replicate (kN κ + d) default)
theorem kq_S (κ : Kt) (d : Nat) : Sft κ (kq κ d) d := ⟨rfl, rfl, rfl, by simp [kq, kN, kH]⟩
theorem Sft.xi {κ κ' : Kt} {d z : Nat} {st : St} {S : Sg} (h : Sft κ κ' d) (hX : XI κ' z st S) : XI (kq κ d) z st S := XI.same (κ1 := κ') (κ2 := kq κ d) h.2.1 (h.2.2.2.trans (kq_S κ d).2.2.2.symm) hX
theorem Sft.ix {κ κ' : Kt} {d z : Nat} {st : St} {S : Sg} (h : Sft κ κ' d) (hX : XI (kq κ d) z st S) : XI κ' z st S := XI.same (κ1 := kq κ d) (κ2 := κ') h.2.1.symm ((kq_S κ d).2.2.2.trans h.2.2.2.symm) hX
theorem Sft.adr {κ κ' : Kt} {d : Nat} (h : Sft κ κ' d) (i : Nat) : ad κ' i = ad κ (d + i) := by
  have := h.2.2.2
  simp only [ad]
  omega
/-- both objects -/
def WI (κ : Kt) (st : St) (S T : Sg) : Prop := XI κ 182 st S ∧ XI (kq κ 91) 91 (fun i => st (91 + i)) T
def bYo (κ : Kt) : List va_E := [.inr (4, [.ref (ad κ (91 + 1)), .ref (ad κ (91 + 8)), .ref (ad κ (91 + 15)), .ref (ad κ (91 + 22)), .ref (ad κ (91 + 29)), .ref (ad κ (91 + 31)), .ref (ad κ (91 + 75)), .ref (ad κ (91 + 90))])]
theorem WI.o {κ : Kt} {st : St} {S T : Sg} (h : WI κ st S T) : Ob 182 st 0 (bXo κ) := h.1.1
theorem WI.p {κ : Kt} {st : St} {S T : Sg} (h : WI κ st S T) : Ob 182 st 91 (bYo κ) := by
  obtain ⟨h1, h2⟩ := h.2.1
  refine ⟨by show 91 + 1 ≤ 182; omega, fun j e hj => ?_⟩
  have h3 := h2 j e (by
    have e4 : bXo (kq κ 91) = bYo κ := by
      simp only [bXo, bYo, (kq_S κ 91).adr]
    rw [e4]
    exact hj)
  have h4 : st (91 + (0 + j)) = e := h3
  rw [Nat.zero_add] at h4
  exact h4
def PXr (κ : Kt) (z : Nat) (st0 : St) (R : Int32 → Sg → Prop) : Option Value → St → Prop := PI (fun r u => ∃ S', R r S' ∧ XI κ z u S' ∧ Fr (fun q : Nat => q < 91) st0 u)
def PWr (κ : Kt) (R : Int32 → Sg → Sg → Prop) : Option Value → St → Prop := PI (fun r u => ∃ S' T', R r S' T' ∧ WI κ u S' T')
def PW (κ : Kt) (v : Int32) (S T : Sg) : Option Value → St → Prop := PI (fun r u => r = v ∧ WI κ u S T)
section TWO
variable {l : Launch} {κ : Kt} {y : MethodName} {cc : ByteArray} {mL F Lo : Nat} {ret : Option FieldType} {as : List Value} {st : St} {S T : Sg}
theorem o_ofr {R : Int32 → Sg → Prop} (hc : XI κ 182 st S → CT l κ y cc mL ret (r0 F Lo) 182 (.ref (ad κ 0) :: as) st (PXr κ 182 st R)) (h : WI κ st S T) : CT l κ y cc mL ret (r0 F Lo) 182 (.ref (ad κ 0) :: as) st (PWr κ (fun r S' T' => R r S' ∧ T' = T)) := by
  refine (hc h.1).mono ?_
  rintro v u ⟨r, e1, S', e2, e3, e4⟩
  refine ⟨r, e1, S', T, ⟨e2, rfl⟩, e3, ?_⟩
  have e5 : (fun i => u (91 + i)) = fun i => st (91 + i) := funext fun i => e4 (91 + i) (by omega)
  rw [e5]
  exact h.2
theorem p_ofr {R : Int32 → Sg → Prop} (hc : ∀ κ', XI κ' 91 (fun i => st (91 + i)) T → CT l κ' y cc mL ret (r0 F Lo) 91 (.ref (ad κ' 0) :: as) (fun i => st (91 + i)) (PXr κ' 91 (fun i => st (91 + i)) R)) (h : WI κ st S T) : CT l κ y cc mL ret (r0 F Lo) 182 (.ref (ad κ 91) :: as) st (PWr κ (fun r S' T' => R r T' ∧ S' = S)) := by
  have h1 : CT l κ y cc mL ret (r0 F Lo) (91 + 91) (.ref (ad κ 91) :: as) st (fun v u => (∀ i, i < 91 → u i = st i) ∧ ∃ κ', Sft κ κ' 91 ∧ PXr κ' 91 (fun i => st (91 + i)) R v (fun i => u (91 + i))) := by
    refine CT.shift (P := fun κ' => PXr κ' 91 (fun i => st (91 + i)) R) (fun κ' hS => ?_)
    rw [show ad κ 91 = ad κ' 0 from (hS.adr 0).symm]
    exact hc κ' (hS.ix h.2)
  refine h1.mono ?_
  rintro v u ⟨e0, κ', hS, r, e1, T', e2, e3, e4⟩
  refine ⟨r, e1, S, T', ⟨e2, rfl⟩, ?_, hS.xi e3⟩
  exact h.1.fr (A := fun q => 91 ≤ q) (fun q hq => e0 q (by omega)) (fun q hq => by omega)
theorem o_of {f : Int32 × Sg} (hc : XI κ 182 st S → CT l κ y cc mL ret (r0 F Lo) 182 (.ref (ad κ 0) :: as) st (PX κ 182 st f)) (h : WI κ st S T) : CT l κ y cc mL ret (r0 F Lo) 182 (.ref (ad κ 0) :: as) st (PW κ f.1 f.2 T) := by
  refine (o_ofr (R := fun r S' => r = f.1 ∧ S' = f.2) (fun hX => (hc hX).mono ?_) h).mono ?_
  · rintro v u ⟨r, e1, e2, e3, e4⟩
    exact ⟨r, e1, f.2, ⟨e2, rfl⟩, e3, e4⟩
  · rintro v u ⟨r, e1, S', T', ⟨⟨e2, rfl⟩, rfl⟩, e4⟩
    exact ⟨r, e1, e2, e4⟩
theorem p_of {f : Int32 × Sg} (hc : ∀ κ', XI κ' 91 (fun i => st (91 + i)) T → CT l κ' y cc mL ret (r0 F Lo) 91 (.ref (ad κ' 0) :: as) (fun i => st (91 + i)) (PX κ' 91 (fun i => st (91 + i)) f)) (h : WI κ st S T) : CT l κ y cc mL ret (r0 F Lo) 182 (.ref (ad κ 91) :: as) st (PW κ f.1 S f.2) := by
  refine (p_ofr (R := fun r S' => r = f.1 ∧ S' = f.2) (fun κ' hX => (hc κ' hX).mono ?_) h).mono ?_
  · rintro v u ⟨r, e1, e2, e3, e4⟩
    exact ⟨r, e1, f.2, ⟨e2, rfl⟩, e3, e4⟩
  · rintro v u ⟨r, e1, S', T', ⟨⟨e2, rfl⟩, rfl⟩, e4⟩
    exact ⟨r, e1, e2, e4⟩
end TWO
