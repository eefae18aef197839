/-! One store for a whole run: the cells that the run made, by number, behind the heap of the start. Rows for it, out of the kit's rows. -/
abbrev St : Type := Nat → va_E
abbrev Kt : Type := va_G × (ClassId × ClassId × ClassId × ClassId) × ((Nat × Nat) × (Nat × Nat × (Nat → Int32))) × Heap
def kG (κ : Kt) : va_G := κ.1
def kI (κ : Kt) : ClassId := κ.2.1.1
def kC (κ : Kt) : ClassId := κ.2.1.2.1
def kZ (κ : Kt) : ClassId := κ.2.1.2.2.1
def kS (κ : Kt) : ClassId := κ.2.1.2.2.2
def kL (κ : Kt) : Nat := κ.2.2.1.1.1
def kT (κ : Kt) : Nat := κ.2.2.1.1.2
/-- the script: where it lies, how long it is, what it holds -/
def kB (κ : Kt) : Nat := κ.2.2.1.2.1
def kXL (κ : Kt) : Nat := κ.2.2.1.2.2.1
def kXs (κ : Kt) : Nat → Int32 := κ.2.2.1.2.2.2
def kH (κ : Kt) : Heap := κ.2.2.2
def kN (κ : Kt) : Nat := (kH κ).size
def kty (κ : Kt) : List (ClassId × FieldType) := [(kI κ, .int), (kC κ, .char), (kZ κ, .boolean), (kS κ, .object RX3)]
def ad (κ : Kt) (i : Nat) : Nat := kN κ + i
def fr (κ : Kt) : Nat → Prop := fun q => kN κ ≤ q
def SW (κ : Kt) (n : Nat) (st : St) : va_W := (List.range n).map (fun k => (ad κ k, st k))
theorem SW_get {κ : Kt} {n k : Nat} {st : St} (h : k < n) : (SW κ n st)[k]? = some (ad κ k, st k) := by
  simp [SW, h]
theorem SW_inv {κ : Kt} {n k : Nat} {st : St} {q : Nat × va_E} (h : (SW κ n st)[k]? = some q) : k < n ∧ q = (ad κ k, st k) := by
  have hk : k < n := by
    have := (List.getElem?_eq_some_iff.mp h).1
    simpa [SW] using this
  rw [SW_get hk] at h
  exact ⟨hk, (Option.some.inj h).symm⟩
theorem SW_set {κ : Kt} {n k : Nat} {st : St} {e : va_E} (h : k < n) : (SW κ n st).set k (ad κ k, e) = SW κ n (va_up st k e) := by
  apply List.ext_getElem?
  intro j
  by_cases hj : j < n
  · rw [SW_get hj, List.getElem?_set]
    by_cases hk : k = j
    · subst hk
      simp [SW, hj, va_up]
    · rw [if_neg hk, SW_get hj]
      simp [va_up, Ne.symm hk]
  · have h1 : ((SW κ n st).set k (ad κ k, e)).length ≤ j := by simp [SW]; omega
    have h2 : (SW κ n (va_up st k e)).length ≤ j := by simp [SW]; omega
    rw [List.getElem?_eq_none h1, List.getElem?_eq_none h2]
theorem SW_D {κ : Kt} {n : Nat} {st : St} : va_D (fr κ) (SW κ n st) := by
  refine ⟨fun i j x y hi hj hxy => ?_, fun k q hk => ?_⟩
  · obtain ⟨-, rfl⟩ := SW_inv hi
    obtain ⟨-, rfl⟩ := SW_inv hj
    simp only [ad] at hxy
    omega
  · obtain ⟨-, rfl⟩ := SW_inv hk
    show kN κ ≤ kN κ + k
    omega
def Wd (κ : Kt) (n : Nat) (st : St) (H : Heap) : Prop := (∀ q, q < kN κ → H[q]? = (kH κ)[q]?) ∧ va_P (kG κ) kcl (SW κ n st) H
theorem Wd.at {κ : Kt} {n k : Nat} {st : St} {H : Heap} (h : Wd κ n st H) (hk : k < n) : va_at (kG κ) kcl (ad κ k, st k) H := h.2 k _ (SW_get hk)
theorem Wd.size {κ : Kt} {n : Nat} {st : St} {H : Heap} (h : Wd κ n st H) : kN κ + n ≤ H.size := by
  cases n with
  | zero =>
    rcases Nat.lt_or_ge H.size (kN κ) with q | q
    · have h1 := h.1 H.size q
      rw [Array.getElem?_eq_none (Nat.le_refl _)] at h1
      have h2 : (kH κ).size ≤ H.size := Array.getElem?_eq_none_iff.mp h1.symm
      have h3 : kN κ = (kH κ).size := rfl
      omega
    · exact q
  | succ k =>
    have h1 := (h.at (Nat.lt_succ_self k)).lt
    have h2 : ad κ k = kN κ + k := rfl
    have h3 : (ad κ k, st k).1 = ad κ k := rfl
    omega
theorem Wd.of {κ : Kt} {n : Nat} {st : St} {H : Heap} (h2 : ∀ q, q < kN κ → H[q]? = (kH κ)[q]?) (h3 : ∀ k, k < n → va_at (kG κ) kcl (ad κ k, st k) H) : Wd κ n st H := ⟨h2, fun k q hk => by
  obtain ⟨h, rfl⟩ := SW_inv hk
  exact h3 k h⟩
/-- nest words, statics: what the tables and the start say, and nobody changes -/
def lsv (j : Nat) : Int32 := match j with | 0 => 20 | 1 => 1 | _ => 0
def gsv (j : Nat) : Int32 := match j with | 0 => 200 | 1 => 20 | 2 => 40 | _ => 1
def Inv (κ : Kt) (U : State) : Prop := va_K (kG κ) kcl (kty κ) U ∧
  (va_Nw (.methodLinkNest RX4 9 yX3_init RX4) U ∧ va_Nw (.methodLinkNest RX4 21 yX1_init RX4) U ∧ va_Nw (.methodLinkNest RX4 31 yX2_init RX4) U ∧ va_Nw (.methodLinkNest RX0 24 yX3_init RX4) U ∧ va_Nw (.methodLinkNest RX2 21 yX4_sortWith RX4) U ∧ va_Nw (.methodLinkNest RX3 45 yX4_sortWith RX4) U) ∧
  (va_AO RX3 U ∧ va_X (kB κ) (kXL κ) (kXs κ) U (kH κ) ∧ kB κ < kN κ) ∧
  (va_Z RX4 "LEAST_VALUE" "[I" (.ref (kL κ)) (fr κ) U (kH κ) ∧ va_T .int (kL κ) 4 (fun j => .int (lsv j)) (fr κ) U (kH κ)) ∧
  (va_Z RX4 "GREATEST_VALUE" "[I" (.ref (kT κ)) (fr κ) U (kH κ) ∧ va_T .int (kT κ) 4 (fun j => .int (gsv j)) (fr κ) U (kH κ))
theorem Inv.warm {κ : Kt} {s U : State} (hW : s.WarmedH U.vm) (h : Inv κ s) : Inv κ U := by
  obtain ⟨h1, ⟨n1, n2, n3, n4, n5, n6⟩, ⟨h3, hx, hb⟩, ⟨h4, h5⟩, h6, h7⟩ := h
  exact ⟨va_K.moved hW.alike h1, ⟨n1.warmM hW, n2.warmM hW, n3.warmM hW, n4.warmM hW, n5.warmM hW, n6.warmM hW⟩, ⟨h3.moved hW.alike, hx.moved hW.alike, hb⟩, ⟨h4.moved hW.alike, h5.moved hW.alike⟩, h6.moved hW.alike, h7.moved hW.alike⟩
theorem Inv.same {κ : Kt} {s U : State} (e : s.vm = U.vm) (h : Inv κ s) : Inv κ U := by
  obtain ⟨h1, ⟨n1, n2, n3, n4, n5, n6⟩, ⟨h3, hx, hb⟩, ⟨h4, h5⟩, h6, h7⟩ := h
  have ha : s.vm.Alike U.vm := by rw [e]; exact Vm.Alike.refl _
  exact ⟨va_K.moved ha h1, ⟨n1.same rfl e, n2.same rfl e, n3.same rfl e, n4.same rfl e, n5.same rfl e, n6.same rfl e⟩, ⟨h3.moved ha, hx.moved ha, hb⟩, ⟨h4.moved ha, h5.moved ha⟩, h6.moved ha, h7.moved ha⟩
def PcK (κ : Kt) (n : Nat) (as : List Value) (st : St) : Array Value → State → Prop := va_Pc as (fun U => Inv κ U ∧ Wd κ n st U.heap ∧ U.heap.size ≤ kN κ + n)
theorem PcK.blind {κ : Kt} {n : Nat} {as : List Value} {st : St} : FrameBlind (PcK κ n as st) := fun a U g mk h => ⟨h.1, h.2.1.same rfl, h.2.2⟩
def QK (κ : Kt) (n : Nat) (P : Option Value → St → Prop) : Array Value → State → Outcome → State → Prop := fun _ _ oc t => ∃ (v : Option Value) (u : St), oc = .returned v ∧ P v u ∧ Wd κ n u t.heap
/-- a method's contract: from a store to an answer and a store -/
def CT (l : Launch) (κ : Kt) (y : MethodName) (cc : ByteArray) (mL : Nat) (ret : Option FieldType) (rm : Room) (n : Nat) (as : List Value) (st : St) (P : Option Value → St → Prop) : Prop :=
  Met l y (Cond.code y cc mL ret :: gT) rm (PcK κ n as st) (QK κ (n + rm.cells) P) rm.cells rm.slots (fr κ)
theorem CT.mono {l : Launch} {κ : Kt} {y : MethodName} {cc : ByteArray} {mL : Nat} {ret : Option FieldType} {rm : Room} {n : Nat} {as : List Value} {st : St} {P P' : Option Value → St → Prop} (h : CT l κ y cc mL ret rm n as st P) (hP : ∀ v u, P v u → P' v u) : CT l κ y cc mL ret rm n as st P' := by
  intro p e ha hc hk s m args below hf hfit hpre hk2
  obtain ⟨k, o, h1, h2, h3, ⟨⟨v, u, e1, e2, e3⟩, e4⟩⟩ := h p e ha hc hk s m args below hf hfit hpre hk2
  exact ⟨k, o, h1, h2, h3, ⟨⟨v, u, e1, hP v u e2, e3⟩, e4⟩⟩
def PR (v : Option Value) (st : St) : Option Value → St → Prop := fun w u => w = v ∧ u = st
abbrev PRi (r : Int32) (st : St) : Option Value → St → Prop := PR (some (.int r)) st
def PI (f : Int32 → St → Prop) : Option Value → St → Prop := fun w u => ∃ r, w = some (.int r) ∧ f r u
def PV (f : St → Prop) : Option Value → St → Prop := fun w u => w = none ∧ f u
/-- locals as a list by place; none: not known, or a long's second half -/
def lw (ls : Array Slot) (lv : List (Option Value)) : Prop := ls.size = lv.length ∧ lv_wf ls ∧ ∀ (i : Nat) (v : Value), lv[i]? = some (some v) → ls[i]? = some (.val v)
def lw_ps (lv : List (Option Value)) : List (Nat × Value) := (List.range lv.length).filterMap (fun i => match lv[i]? with | some (some v) => some (i, v) | _ => none)
theorem lw_ps_mem {lv : List (Option Value)} {i : Nat} {v : Value} : (i, v) ∈ lw_ps lv ↔ lv[i]? = some (some v) := by
  unfold lw_ps
  rw [List.mem_filterMap]
  constructor
  · rintro ⟨j, -, h⟩
    split at h
    · next w hw => cases h; exact hw
    · cases h
  · intro h
    refine ⟨i, List.mem_range.mpr (List.getElem?_eq_some_iff.mp h).1, ?_⟩
    rw [h]
theorem lw_has {ls : Array Slot} {lv : List (Option Value)} (h : lw ls lv) : lv_has ls lv.length (lw_ps lv) := ⟨h.1, h.2.1, fun q hq => h.2.2 q.1 q.2 (lw_ps_mem.mp hq)⟩
def lw_ok1 (lv : List (Option Value)) (i : Nat) : Bool := match i with
  | 0 => true
  | j + 1 => match lv[j]? with
    | some (some v) => v.category == 1
    | _ => true
theorem lw_put1 {lv : List (Option Value)} {i : Nat} {v : Value} {ls' : Array Slot} (hi : i < lv.length) (hok : lw_ok1 lv i = true) (h' : lv_has ls' lv.length ((i, v) :: (lw_ps lv).filter (fun q => !(q.1 == i) && !(q.1 + 1 == i && q.2.category == 2)))) : lw ls' (lv.set i (some v)) := by
  refine ⟨by rw [List.length_set]; exact h'.1, h'.2.1, fun j w hj => ?_⟩
  by_cases hij : i = j
  · subst hij
    rw [List.getElem?_set_self hi] at hj
    cases hj
    exact h'.2.2 (i, v) List.mem_cons_self
  · rw [List.getElem?_set_ne hij] at hj
    refine h'.2.2 (j, w) (List.mem_cons_of_mem _ (List.mem_filter.mpr ⟨lw_ps_mem.mpr hj, ?_⟩))
    have h1 : (j == i) = false := by simp [Ne.symm hij]
    rw [h1]
    by_cases h2 : j + 1 = i
    · subst h2
      have : (w.category == 1) = true := by
        unfold lw_ok1 at hok
        simpa [hj] using hok
      have h3 : w.category = 1 := by simpa using this
      simp [h3]
    · simp [h2]
theorem lw_put2 {lv : List (Option Value)} {i : Nat} {v : Value} {ls' : Array Slot} (hi : i + 1 < lv.length) (hok : lw_ok1 lv i = true) (h' : lv_has ls' lv.length ((i, v) :: (lw_ps lv).filter (fun q => !(q.1 == i) && (!(q.1 == i + 1) && !(q.1 + 1 == i && q.2.category == 2))))) : lw ls' ((lv.set i (some v)).set (i + 1) none) := by
  refine ⟨by rw [List.length_set, List.length_set]; exact h'.1, h'.2.1, fun j w hj => ?_⟩
  by_cases hij2 : i + 1 = j
  · subst hij2
    rw [List.getElem?_set_self (by rw [List.length_set]; exact hi)] at hj
    cases hj
  rw [List.getElem?_set_ne hij2] at hj
  by_cases hij : i = j
  · subst hij
    rw [List.getElem?_set_self (by omega)] at hj
    cases hj
    exact h'.2.2 (i, v) List.mem_cons_self
  · rw [List.getElem?_set_ne hij] at hj
    refine h'.2.2 (j, w) (List.mem_cons_of_mem _ (List.mem_filter.mpr ⟨lw_ps_mem.mpr hj, ?_⟩))
    have h1 : (j == i) = false := by simp [Ne.symm hij]
    have h1' : (j == i + 1) = false := by simp [Ne.symm hij2]
    rw [h1, h1']
    by_cases h2 : j + 1 = i
    · subst h2
      have : (w.category == 1) = true := by
        unfold lw_ok1 at hok
        simpa [hj] using hok
      have h3 : w.category = 1 := by simpa using this
      simp [h3]
    · simp [h2]
/-- the locals at a method's entry -/
def lw_as : List Value → List (Option Value)
  | [] => []
  | v :: vs => if v.category = 2 then some v :: none :: lw_as vs else some v :: lw_as vs
def lwE (as : List Value) (n : Nat) : List (Option Value) := lw_as as ++ List.replicate (n - (lw_as as).length) none
theorem lw_as_len : ∀ as : List Value, (lw_as as).length = (lg_sl as).length
  | [] => rfl
  | v :: vs => by
    have ih := lw_as_len vs
    unfold lw_as
    by_cases h : v.category = 2
    · simp [lg_sl, h] at ih ⊢
      omega
    · simp [lg_sl, h] at ih ⊢
      omega
theorem lw_as_at : ∀ (as : List Value) (i k : Nat) (v : Value), (lw_as as)[i]? = some (some v) → (k + i, v) ∈ lv_args k as
  | [], i, k, v, h => by simp [lw_as] at h
  | w :: vs, i, k, v, h => by
    unfold lw_as at h
    unfold lv_args
    by_cases hc : w.category = 2
    · rw [if_pos hc] at h
      rw [if_pos hc]
      match i, h with
      | 0, h => cases h; exact List.mem_cons_self
      | 1, h => cases h
      | j + 2, h =>
        have := lw_as_at vs j (k + 2) v h
        rw [show k + (j + 2) = k + 2 + j by omega]
        exact List.mem_cons_of_mem _ this
    · rw [if_neg hc] at h
      rw [if_neg hc]
      match i, h with
      | 0, h => cases h; exact List.mem_cons_self
      | j + 1, h =>
        have := lw_as_at vs j (k + 1) v h
        rw [show k + (j + 1) = k + 1 + j by omega]
        exact List.mem_cons_of_mem _ this
theorem lw_entry (as : List Value) {n : Nat} (h : (lg_sl as).length ≤ n) : lw ((lg_sl as ++ List.replicate (n - (lg_sl as).length) Slot.unset).toArray) (lwE as n) := by
  have h1 := lv_entry as h
  have hl : (lwE as n).length = n := by
    unfold lwE
    rw [List.length_append, List.length_replicate, lw_as_len]
    omega
  refine ⟨h1.1.trans hl.symm, h1.2.1, fun i v hv => ?_⟩
  unfold lwE at hv
  by_cases hi : i < (lw_as as).length
  · rw [List.getElem?_append_left hi] at hv
    have := lw_as_at as i 0 v hv
    rw [Nat.zero_add] at this
    exact h1.2.2 (i, v) this
  · rw [List.getElem?_append_right (by omega), List.getElem?_replicate] at hv
    split at hv <;> cases hv
/-- what is fixed in a method's body -/
def Cx (p : Program) (s : State) (m : MethodId) (args : Array Value) (meth : Method) (c : Code) (κ : Kt) (cc : ByteArray) (nL : Nat) (own : String) (ret : Option FieldType) : Prop :=
  CallFix p m c cc nL s args gT own ∧ Inv κ s ∧ meth.sig.returnType = ret ∧ meth.locks = false ∧ kN κ ≤ s.heap.size ∧ ∀ q, q < kN κ → s.heap[q]? = (kH κ)[q]?
def WS (p : Program) (l : Launch) (e : Env) (R : Room) (s : State) (m : MethodId) (args : Array Value) (below : List Frame) (meth : Method) (c : Code) (κ : Kt) (n cells slots : Nat) (Q : State → Prop) (st : St) (pc : Nat) (lv : List (Option Value)) (stk : List Value) : Prop :=
  s.heap.size + cells ≤ kN κ + n → ∀ (H : Heap) (locs : List Loc) (ls : Array Slot), Wd κ n st H → va_S (fr κ) s.heap H locs → lw ls lv → W p l e R s m args below meth c H locs cells slots Q (F0 m pc ls stk)
abbrev QM (below : List Frame) (args : Array Value) (s : State) (κ : Kt) (n : Nat) (rm : Room) (P : Option Value → St → Prop) : State → Prop := MQ below (QK κ (n + rm.cells) P) args s rm.cells rm.slots (fr κ)
theorem CT.of {l : Launch} {κ : Kt} {y : MethodName} {cc : ByteArray} {mL : Nat} {ret : Option FieldType} {rm : Room} {n : Nat} {as : List Value} {st : St} {P : Option Value → St → Prop} (hy : plainName y.cls = true) (hsl : (lg_sl as).length ≤ mL)
    (body : ∀ (p : Program) (e : Env) (s : State) (m : MethodId) (args : Array Value) (below : List Frame) (meth : Method) (c : Code), Cx p s m args meth c κ cc mL y.cls ret → (y.name = "<init>" → meth.name = "<init>") → WS p l e rm s m args below meth c κ n 0 0 (QM below args s κ n rm P) st 0 (lwE as mL) []) : CT l κ y cc mL ret rm n as st P := by
  refine Met.ofW (cc := cc) (maxL := mL) (ret := ret) hy rfl ?_
  intro p e s m args below meth c s₁ B hml hv
  obtain ⟨rfl, hI, hWd, hsz⟩ := hv
  have hts := atoms_spec (ws := Cond.code y cc mL ret :: gT) B.pre
  have hown : s.vm.findClass y.cls = some m.cls := findClass_of_methodNamed B.named
  rw [lg_entry_eq]
  refine body p e s m as.toArray below meth c ⟨⟨B.exec, B.bytes, hml, hown, fun w hw => hts w (List.mem_cons_of_mem _ hw)⟩, hI, B.returns, B.notSynchronized, by have := hWd.size; omega, hWd.1⟩ (fun h => (name_of_methodNamed B.named B.method).1.trans h) (by omega) s.heap [] _ hWd va_S.rf (lw_entry as hsl)
theorem Cx.put {p : Program} {s : State} {m : MethodId} {args : Array Value} {meth : Method} {c : Code} {κ : Kt} {cc : ByteArray} {nL : Nat} {own : String} {ret : Option FieldType} (C : Cx p s m args meth c κ cc nL own ret) {n k : Nat} {st : St} {H1 : Heap} {locs : List Loc} {e : va_E} (hk : k < n) (hP : va_P (kG κ) kcl ((SW κ n st).set k (ad κ k, e)) H1) (hS : va_S (fr κ) s.heap H1 locs) : Wd κ n (va_up st k e) H1 := by
  refine ⟨fun q hq => ?_, by rw [← SW_set hk]; exact hP⟩
  rw [hS.2.1 q (Nat.lt_of_lt_of_le hq C.2.2.2.2.1) (fun z => Nat.not_le.mpr hq z)]
  exact C.2.2.2.2.2 q hq
