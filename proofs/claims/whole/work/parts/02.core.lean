/-! THE PLAIN WORLD: cells by their address; a walk's judgement over it; a row an instruction. -/
abbrev nPC : Type := (FieldType × vp_A) ⊕ ((Nat × List Value) ⊕ (Nat × (Nat → Int32)))
/-- class slots, first address of its own, next address, cells -/
abbrev nPH : Type := va_G × Nat × Nat × (Nat → Option nPC)
abbrev nAt (h : nPH) (a : Nat) : Option nPC := h.2.2.2 a
def nSt (h : nPH) (a : Nat) (e : nPC) : nPH := (h.1, h.2.1, h.2.2.1, fun q => if q = a then some e else h.2.2.2 q)
def nNw (h : nPH) (e : nPC) : nPH := (h.1, h.2.1, h.2.2.1 + 1, fun q => if q = h.2.2.1 then some e else h.2.2.2 q)
abbrev nOb (c : Nat) (fs : List Value) : nPC := .inr (.inl (c, fs))
abbrev nAi (n : Nat) (f : Nat → Int32) : nPC := .inl (.int, n, .inl f)
abbrev nAz (n : Nat) (f : Nat → Int32) : nPC := .inl (.boolean, n, .inl f)
abbrev nAl (n : Nat) (f : Nat → Int64) : nPC := .inl (.long, n, .inr (.inl f))
abbrev nAr (ty : FieldType) (n : Nat) (f : Nat → Option Nat) : nPC := .inl (ty, n, .inr (.inr (.inr (.inr f))))
def nRC (D : va_G) (U : State) (H : Heap) (a : Nat) : nPC → Prop
  | .inl x => ∃ cA : ClassId, H[a]? = some (vp_cell cA x.2) ∧ ArrOfT U cA x.1 ∧ va_RA U cA x.1
  | .inr (.inl o) => va_at D vwCl (a, .inr o) H
  | .inr (.inr x) => va_X a x.1 x.2 U H
def nRep (h : nPH) (U : State) (H : Heap) : Prop := H.size = h.2.2.1 ∧ ∀ (a : Nat) (e : nPC), h.2.2.2 a = some e → nRC h.1 U H a e
def nWs : List Cond := lw_tbl.filter goodWord
def nNL : List (String × Nat × MethodName × String) := [("NetLoft", 25, yX0_init, "NetLoft"), ("NetLoft", 35, yX6_init, "NetLoft"), ("NetLoft", 42, yX5_init, "NetLoft"), ("NetLoft", 49, yX4_init, "NetLoft"), ("NetLoft", 56, yX1_init, "NetLoft"), ("NetLoft$Panel", 37, yX7_within, "NetLoft"), ("NetLoft$Row", 30, yX7_within, "NetLoft"), ("NetLoft$Panel", 73, yX7_shapedPlaces, "NetLoft"), ("NetLoft$Hole", 64, yX7_within, "NetLoft"), ("NetLoft$Way", 22, yX7_within, "NetLoft"), ("NetLoft$Seam", 56, yX7_within, "NetLoft"), ("NetLoft$Loads", 69, yX7_within, "NetLoft")]
def nAOA (ty : FieldType) (U : State) : Prop := (Cond.arrayOver (.array ty)).before #[] U = true
def nK (D : va_G) (U : State) : Prop := va_K D vwCl [] U ∧ (∀ q ∈ nNL, va_Nw (.methodLinkNest q.1 q.2.1 q.2.2.1 q.2.2.2) U) ∧ va_AO "NetLoft$Panel" U ∧ va_AO "NetLoft$Row" U ∧ nAOA .int U ∧ nAOA .long U
/-- a method at its instruction i of n bytes, the next one at p2, in class o -/
def nD (y : nM) (pc : Nat) (i : Instr) (n p2 o : Nat) : Prop := decode y.2.1 pc = .ok (i, n) ∧ pc + n = p2 ∧ y.2.2.2.2.1 = o
abbrev nKp : Type := Room × (List Frame → Array Value → State → State → Prop)
def nCx (y : nM) (D : va_G) (p : Program) (s : State) (m : MethodId) (args : Array Value) (meth : Method) (c : Code) : Prop :=
  p.tables.exec = Jvm.exec ∧ c.code = y.2.1 ∧ c.maxLocals = y.2.2.1 ∧ s.vm.findClass (cNm y.2.2.2.2.1) = some m.cls ∧ (∀ w ∈ nWs, w.before args s = true) ∧ meth.sig.returnType = y.2.2.2.1 ∧ meth.locks = false ∧ meth.name = y.1.name ∧ nK D s
def nLs (lsA : Array Slot) (n : Nat) (ls : List (Option Value)) : Prop := lsA.size = n ∧ lv_wf lsA ∧ ∀ (i : Nat) (v : Value), ls[i]? = some (some v) → lsA[i]? = some (.val v)
def nG (y : nM) (κ : nKp) (cu su pc : Nat) (ls : List (Option Value)) (st : List Value) (h : nPH) : Prop :=
  ∀ (p : Program) (l : Launch) (e : Env) (s : State) (m : MethodId) (args : Array Value) (below : List Frame) (meth : Method) (c : Code) (H : Heap) (locs : List Loc) (lsA : Array Slot),
    nCx y h.1 p s m args meth c → nRep h s H → nLs lsA y.2.2.1 ls → (∀ q ∈ locs, h.2.1 ≤ q.base) → W p l e κ.1 s m args below meth c H locs cu su (κ.2 below args s) (F0 m pc lsA st)
def nRm (y : nM) : Room := { frames := y.2.2.2.2.2.1, cells := y.2.2.2.2.2.2.1, slots := y.2.2.2.2.2.2.2.1, locals := y.2.2.2.2.2.2.2.2 }
def nPc (h : nPH) (av : List Value) : Array Value → State → Prop := fun v U => v = av.toArray ∧ nRep h U U.heap ∧ nK h.1 U
def nQc (D : va_G) (B : Nat) (Post : Option Value → nPH → Prop) : Array Value → State → Outcome → State → Prop := fun _ _ o t => ∃ (v : Option Value) (h2 : nPH), o = .returned v ∧ Post v h2 ∧ h2.1 = D ∧ h2.2.1 = B ∧ nRep h2 t t.heap
def nWy (y : nM) : List Cond := Cond.code y.1 y.2.1 y.2.2.1 y.2.2.2.1 :: nWs
def nSp (y : nM) (av : List Value) (h : nPH) (Post : Option Value → nPH → Prop) : Prop :=
  ∀ l : Launch, Met l y.1 (nWy y) (nRm y) (nPc h av) (nQc h.1 h.2.1 Post) y.2.2.2.2.2.2.1 y.2.2.2.2.2.2.2.1 (fun q => h.2.1 ≤ q)
def nKy (y : nM) (D : va_G) (B : Nat) (Post : Option Value → nPH → Prop) : nKp := (nRm y, fun below a s => MQ below (nQc D B Post) a s y.2.2.2.2.2.2.1 y.2.2.2.2.2.2.2.1 (fun q => B ≤ q))
/-- read only, with an answer -/
def nRd (y : nM) (av : List Value) (h : nPH) (r : Value) : Prop := nSp y av h (fun v h2 => v = some r ∧ h2 = h)
def nKil (ls : List (Option Value)) (i : Nat) : List (Option Value) := match i with
  | 0 => ls
  | k + 1 => match ls[k]? with
    | some (some (.long _)) => ls.set k none
    | some (some (.double _)) => ls.set k none
    | _ => ls
def nPut (ls : List (Option Value)) (i : Nat) (v : Value) : List (Option Value) := (nKil ls i).set i (some v)
def nPu2 (ls : List (Option Value)) (i : Nat) (v : Value) : List (Option Value) := ((nKil ls i).set i (some v)).set (i + 1) none
def nAs (ls : List (Option Value)) : List (Nat × Value) := ls.zipIdx.filterMap (fun q => q.1.map (fun v => (q.2, v)))
theorem nAs_mem {ls : List (Option Value)} {i : Nat} {v : Value} : (i, v) ∈ nAs ls ↔ ls[i]? = some (some v) := by
  unfold nAs
  rw [List.mem_filterMap]
  constructor
  · rintro ⟨⟨o, j⟩, hm, he⟩
    rw [List.mem_zipIdx_iff_getElem?] at hm
    cases o with
    | none => simp at he
    | some x =>
      simp at he
      obtain ⟨rfl, rfl⟩ := he
      simpa using hm
  · intro h
    exact ⟨(some v, i), by rw [List.mem_zipIdx_iff_getElem?]; simpa using h, rfl⟩
theorem nLs_has {lsA : Array Slot} {n : Nat} {ls : List (Option Value)} (h : nLs lsA n ls) : lv_has lsA n (nAs ls) := ⟨h.1, h.2.1, fun q hq => h.2.2 q.1 q.2 (nAs_mem.mp hq)⟩
theorem nKil_at {ls : List (Option Value)} {i j : Nat} {v : Value} (h : (nKil ls i)[j]? = some (some v)) : ls[j]? = some (some v) ∧ ¬ (j + 1 = i ∧ v.category = 2) := by
  unfold nKil at h
  cases i with
  | zero => exact ⟨h, fun q => by omega⟩
  | succ k =>
    simp only at h
    have key : ∀ (x : Value), ls[k]? = some (some x) → (x.category = 2 → False) → (ls[j]? = some (some v)) → ¬ (j + 1 = k + 1 ∧ v.category = 2) := by
      intro x hx hc hj q
      have : j = k := by omega
      subst this
      rw [hx] at hj
      cases hj
      exact hc q.2
    split at h
    · rename_i x hx
      by_cases hjk : j = k
      · subst hjk
        rw [List.getElem?_set] at h
        simp at h
      · rw [List.getElem?_set_ne (fun e => hjk e.symm)] at h
        exact ⟨h, fun q => hjk (by omega)⟩
    · rename_i x hx
      by_cases hjk : j = k
      · subst hjk
        rw [List.getElem?_set] at h
        simp at h
      · rw [List.getElem?_set_ne (fun e => hjk e.symm)] at h
        exact ⟨h, fun q => hjk (by omega)⟩
    · rename_i h1 h2
      refine ⟨h, fun q => ?_⟩
      have : j = k := by omega
      subst this
      cases v with
      | long x => exact h1 x h
      | double x => exact h2 x h
      | _ => simp [Value.category] at q
theorem nPut_at {ls : List (Option Value)} {i j : Nat} {v w : Value} (h : (nPut ls i v)[j]? = some (some w)) : (j = i ∧ w = v) ∨ (j ≠ i ∧ ls[j]? = some (some w) ∧ ¬ (j + 1 = i ∧ w.category = 2)) := by
  unfold nPut at h
  by_cases hj : j = i
  · subst hj
    rw [List.getElem?_set] at h
    simp only [if_true] at h
    split at h
    · cases h; exact Or.inl ⟨rfl, rfl⟩
    · cases h
  · rw [List.getElem?_set_ne (fun e => hj e.symm)] at h
    exact Or.inr ⟨hj, nKil_at h⟩
theorem nPu2_at {ls : List (Option Value)} {i j : Nat} {v w : Value} (h : (nPu2 ls i v)[j]? = some (some w)) : (j = i ∧ w = v) ∨ (j ≠ i ∧ j ≠ i + 1 ∧ ls[j]? = some (some w) ∧ ¬ (j + 1 = i ∧ w.category = 2)) := by
  unfold nPu2 at h
  by_cases hj : j = i + 1
  · subst hj
    rw [List.getElem?_set] at h
    simp at h
  · rw [List.getElem?_set_ne (fun e => hj e.symm)] at h
    rcases nPut_at (show (nPut ls i v)[j]? = some (some w) from h) with h1 | h1
    · exact Or.inl h1
    · exact Or.inr ⟨h1.1, hj, h1.2⟩
theorem nLs_put {lsA : Array Slot} {n i : Nat} {v : Value} {ls : List (Option Value)} (h : lv_has lsA n ((i, v) :: (nAs ls).filter (fun q => !(q.1 == i) && !(q.1 + 1 == i && q.2.category == 2)))) : nLs lsA n (nPut ls i v) := by
  refine ⟨h.1, h.2.1, fun j w hj => ?_⟩
  rcases nPut_at hj with ⟨rfl, rfl⟩ | ⟨h1, h2, h3⟩
  · exact h.2.2 (_, _) List.mem_cons_self
  · refine h.2.2 (j, w) (List.mem_cons_of_mem _ (List.mem_filter.mpr ⟨nAs_mem.mpr h2, ?_⟩))
    have h4 : (j == i) = false := by simpa using h1
    by_cases q : j + 1 = i
    · have : ¬ w.category = 2 := fun e => h3 ⟨q, e⟩
      simp [h1, this]
    · simp [h1, q]
theorem nLs_pu2 {lsA : Array Slot} {n i : Nat} {v : Value} {ls : List (Option Value)} (h : lv_has lsA n ((i, v) :: (nAs ls).filter (fun q => !(q.1 == i) && (!(q.1 == i + 1) && !(q.1 + 1 == i && q.2.category == 2))))) : nLs lsA n (nPu2 ls i v) := by
  refine ⟨h.1, h.2.1, fun j w hj => ?_⟩
  rcases nPu2_at hj with ⟨rfl, rfl⟩ | ⟨h1, h0, h2, h3⟩
  · exact h.2.2 (_, _) List.mem_cons_self
  · refine h.2.2 (j, w) (List.mem_cons_of_mem _ (List.mem_filter.mpr ⟨nAs_mem.mpr h2, ?_⟩))
    by_cases q : j + 1 = i
    · have : ¬ w.category = 2 := fun e => h3 ⟨q, e⟩
      simp [h1, h0, this]
    · simp [h1, h0, q]
def nSub : List (Option Value) → List (Option Value) → Prop
  | [], _ => True
  | none :: t, u => nSub t u.tail
  | some v :: t, u => u.head? = some (some v) ∧ nSub t u.tail
theorem nSub_at : ∀ {t u : List (Option Value)}, nSub t u → ∀ (i : Nat) (v : Value), t[i]? = some (some v) → u[i]? = some (some v)
  | [], _, _, i, v, h => by simp at h
  | none :: t, u, hs, 0, v, h => by simp at h
  | none :: t, u, hs, i + 1, v, h => by
    have := nSub_at (t := t) (u := u.tail) hs i v (by simpa using h)
    cases u with
    | nil => simp at this
    | cons a u => simpa using this
  | some x :: t, u, hs, 0, v, h => by
    simp at h
    subst h
    cases u with
    | nil => simp [nSub] at hs
    | cons a u => simpa using hs.1
  | some x :: t, u, hs, i + 1, v, h => by
    have := nSub_at (t := t) (u := u.tail) hs.2 i v (by simpa using h)
    cases u with
    | nil => simp at this
    | cons a u => simpa using this
section NG
variable {y : nM} {κ : nKp} {cu su pc p2 o : Nat} {ls : List (Option Value)} {st : List Value} {h : nPH}
theorem nG.sub {ls2 : List (Option Value)} (hs : nSub ls2 ls) (k : nG y κ cu su pc ls2 st h) : nG y κ cu su pc ls st h :=
  fun p l e s m args below meth c H locs lsA C R L F => k p l e s m args below meth c H locs lsA C R ⟨L.1, L.2.1, fun i v hi => L.2.2 i v (nSub_at hs i v hi)⟩ F
theorem nG.eq {ls2 : List (Option Value)} {st2 : List Value} {h2 : nPH} {cu2 su2 : Nat} (e1 : ls = ls2) (e2 : st = st2) (e3 : h = h2) (e4 : cu = cu2) (e5 : su = su2) (k : nG y κ cu2 su2 pc ls2 st2 h2) : nG y κ cu su pc ls st h := by subst e1; subst e2; subst e3; subst e4; subst e5; exact k
theorem nG.wide {cu2 su2 : Nat} (e4 : cu ≤ cu2) (e5 : su ≤ su2) (k : nG y κ cu2 su2 pc ls st h) : nG y κ cu su pc ls st h :=
  fun p l e s m args below meth c H locs lsA C R L F => W.widen e4 e5 (k p l e s m args below meth c H locs lsA C R L F)
theorem x_iconst {n : Int} {v : Int32} (hv : Int32.ofInt n = v) (hd : nD y pc (.iconst n) 1 p2 o) (k : nG y κ cu su p2 ls (.int v :: st) h) : nG y κ cu su pc ls (st) h := by
  intro p l e s m args below meth c H locs lsA C R L F
  obtain ⟨hdg, rfl, -⟩ := hd
  exact lv_iconst C.1 C.2.1 hdg hv (k p l e s m args below meth c H locs lsA C R L F)
theorem x_bipush {n : Int} {v : Int32} (hv : (Int8.ofInt n).toInt32 = v) (hd : nD y pc (.bipush n) 2 p2 o) (k : nG y κ cu su p2 ls (.int v :: st) h) : nG y κ cu su pc ls (st) h := by
  intro p l e s m args below meth c H locs lsA C R L F
  obtain ⟨hdg, rfl, -⟩ := hd
  exact lv_bipush C.1 C.2.1 hdg hv (k p l e s m args below meth c H locs lsA C R L F)
theorem x_sipush {n : Int} {v : Int32} (hv : (Int16.ofInt n).toInt32 = v) (hd : nD y pc (.sipush n) 3 p2 o) (k : nG y κ cu su p2 ls (.int v :: st) h) : nG y κ cu su pc ls (st) h := by
  intro p l e s m args below meth c H locs lsA C R L F
  obtain ⟨hdg, rfl, -⟩ := hd
  exact lv_sipush C.1 C.2.1 hdg hv (k p l e s m args below meth c H locs lsA C R L F)
theorem x_lconst {n : Fin 2} {v : Int64} (hv : Int64.ofNat (n : Nat) = v) (hd : nD y pc (.lconst n) 1 p2 o) (k : nG y κ cu su p2 ls (.long v :: st) h) : nG y κ cu su pc ls (st) h := by
  intro p l e s m args below meth c H locs lsA C R L F
  obtain ⟨hdg, rfl, -⟩ := hd
  exact lv_lconst C.1 C.2.1 hdg hv (k p l e s m args below meth c H locs lsA C R L F)
theorem x_null (hd : nD y pc .aconst_null 1 p2 o) (k : nG y κ cu su p2 ls (.null :: st) h) : nG y κ cu su pc ls (st) h := by
  intro p l e s m args below meth c H locs lsA C R L F
  obtain ⟨hdg, rfl, -⟩ := hd
  exact lv_null C.1 C.2.1 hdg (k p l e s m args below meth c H locs lsA C R L F)
theorem x_iload_n {x : Int32} {i : Fin 4} (hl : ls[i.val]? = some (some (.int x))) (hd : nD y pc (.iload_n i) 1 p2 o) (k : nG y κ cu su p2 ls (.int x :: st) h) : nG y κ cu su pc ls (st) h := by
  intro p l e s m args below meth c H locs lsA C R L F
  obtain ⟨hdg, rfl, -⟩ := hd
  exact lv_iload_n C.1 C.2.1 hdg rfl (L.2.2 _ _ hl) (k p l e s m args below meth c H locs lsA C R L F)
theorem x_iload {x : Int32} {i : Nat} (hl : ls[i]? = some (some (.int x))) (hd : nD y pc (.iload i) 2 p2 o) (k : nG y κ cu su p2 ls (.int x :: st) h) : nG y κ cu su pc ls (st) h := by
  intro p l e s m args below meth c H locs lsA C R L F
  obtain ⟨hdg, rfl, -⟩ := hd
  exact lv_iload C.1 C.2.1 hdg (L.2.2 _ _ hl) (k p l e s m args below meth c H locs lsA C R L F)
theorem x_lload_n {x : Int64} {i : Fin 4} (hl : ls[i.val]? = some (some (.long x))) (hd : nD y pc (.lload_n i) 1 p2 o) (k : nG y κ cu su p2 ls (.long x :: st) h) : nG y κ cu su pc ls (st) h := by
  intro p l e s m args below meth c H locs lsA C R L F
  obtain ⟨hdg, rfl, -⟩ := hd
  exact lv_lload_n C.1 C.2.1 hdg rfl (L.2.2 _ _ hl) (k p l e s m args below meth c H locs lsA C R L F)
theorem x_lload {x : Int64} {i : Nat} (hl : ls[i]? = some (some (.long x))) (hd : nD y pc (.lload i) 2 p2 o) (k : nG y κ cu su p2 ls (.long x :: st) h) : nG y κ cu su pc ls (st) h := by
  intro p l e s m args below meth c H locs lsA C R L F
  obtain ⟨hdg, rfl, -⟩ := hd
  exact lv_lload C.1 C.2.1 hdg (L.2.2 _ _ hl) (k p l e s m args below meth c H locs lsA C R L F)
theorem x_aload_n {x : Nat} {i : Fin 4} (hl : ls[i.val]? = some (some (.ref x))) (hd : nD y pc (.aload_n i) 1 p2 o) (k : nG y κ cu su p2 ls (.ref x :: st) h) : nG y κ cu su pc ls (st) h := by
  intro p l e s m args below meth c H locs lsA C R L F
  obtain ⟨hdg, rfl, -⟩ := hd
  exact lv_aload_n C.1 C.2.1 hdg rfl (L.2.2 _ _ hl) (k p l e s m args below meth c H locs lsA C R L F)
theorem x_aload {x : Nat} {i : Nat} (hl : ls[i]? = some (some (.ref x))) (hd : nD y pc (.aload i) 2 p2 o) (k : nG y κ cu su p2 ls (.ref x :: st) h) : nG y κ cu su pc ls (st) h := by
  intro p l e s m args below meth c H locs lsA C R L F
  obtain ⟨hdg, rfl, -⟩ := hd
  exact lv_aload C.1 C.2.1 hdg (L.2.2 _ _ hl) (k p l e s m args below meth c H locs lsA C R L F)
theorem x_aload_nN {i : Fin 4} (hl : ls[i.val]? = some (some (.null))) (hd : nD y pc (.aload_n i) 1 p2 o) (k : nG y κ cu su p2 ls (.null :: st) h) : nG y κ cu su pc ls (st) h := by
  intro p l e s m args below meth c H locs lsA C R L F
  obtain ⟨hdg, rfl, -⟩ := hd
  exact lv_aload_nN C.1 C.2.1 hdg rfl (L.2.2 _ _ hl) (k p l e s m args below meth c H locs lsA C R L F)
theorem x_aloadN {i : Nat} (hl : ls[i]? = some (some (.null))) (hd : nD y pc (.aload i) 2 p2 o) (k : nG y κ cu su p2 ls (.null :: st) h) : nG y κ cu su pc ls (st) h := by
  intro p l e s m args below meth c H locs lsA C R L F
  obtain ⟨hdg, rfl, -⟩ := hd
  exact lv_aloadN C.1 C.2.1 hdg (L.2.2 _ _ hl) (k p l e s m args below meth c H locs lsA C R L F)
theorem x_iadd {a b : Int32} (hd : nD y pc .iadd 1 p2 o) (k : nG y κ cu su p2 ls (.int (a + b) :: st) h) : nG y κ cu su pc ls (.int b :: .int a :: st) h := by
  intro p l e s m args below meth c H locs lsA C R L F
  obtain ⟨hdg, rfl, -⟩ := hd
  exact lv_iadd C.1 C.2.1 hdg (k p l e s m args below meth c H locs lsA C R L F)
theorem x_isub {a b : Int32} (hd : nD y pc .isub 1 p2 o) (k : nG y κ cu su p2 ls (.int (a - b) :: st) h) : nG y κ cu su pc ls (.int b :: .int a :: st) h := by
  intro p l e s m args below meth c H locs lsA C R L F
  obtain ⟨hdg, rfl, -⟩ := hd
  exact lv_isub C.1 C.2.1 hdg (k p l e s m args below meth c H locs lsA C R L F)
theorem x_imul {a b : Int32} (hd : nD y pc .imul 1 p2 o) (k : nG y κ cu su p2 ls (.int (a * b) :: st) h) : nG y κ cu su pc ls (.int b :: .int a :: st) h := by
  intro p l e s m args below meth c H locs lsA C R L F
  obtain ⟨hdg, rfl, -⟩ := hd
  exact lv_imul C.1 C.2.1 hdg (k p l e s m args below meth c H locs lsA C R L F)
theorem x_iand {a b : Int32} (hd : nD y pc .iand 1 p2 o) (k : nG y κ cu su p2 ls (.int (a &&& b) :: st) h) : nG y κ cu su pc ls (.int b :: .int a :: st) h := by
  intro p l e s m args below meth c H locs lsA C R L F
  obtain ⟨hdg, rfl, -⟩ := hd
  exact lv_iand C.1 C.2.1 hdg (k p l e s m args below meth c H locs lsA C R L F)
theorem x_ior {a b : Int32} (hd : nD y pc .ior 1 p2 o) (k : nG y κ cu su p2 ls (.int (a ||| b) :: st) h) : nG y κ cu su pc ls (.int b :: .int a :: st) h := by
  intro p l e s m args below meth c H locs lsA C R L F
  obtain ⟨hdg, rfl, -⟩ := hd
  exact lv_ior C.1 C.2.1 hdg (k p l e s m args below meth c H locs lsA C R L F)
theorem x_ixor {a b : Int32} (hd : nD y pc .ixor 1 p2 o) (k : nG y κ cu su p2 ls (.int (a ^^^ b) :: st) h) : nG y κ cu su pc ls (.int b :: .int a :: st) h := by
  intro p l e s m args below meth c H locs lsA C R L F
  obtain ⟨hdg, rfl, -⟩ := hd
  exact lv_ixor C.1 C.2.1 hdg (k p l e s m args below meth c H locs lsA C R L F)
theorem x_ishl {a b : Int32} (hd : nD y pc .ishl 1 p2 o) (k : nG y κ cu su p2 ls (.int (a <<< (b &&& 31)) :: st) h) : nG y κ cu su pc ls (.int b :: .int a :: st) h := by
  intro p l e s m args below meth c H locs lsA C R L F
  obtain ⟨hdg, rfl, -⟩ := hd
  exact lv_ishl C.1 C.2.1 hdg (k p l e s m args below meth c H locs lsA C R L F)
theorem x_ishr {a b : Int32} (hd : nD y pc .ishr 1 p2 o) (k : nG y κ cu su p2 ls (.int (a >>> (b &&& 31)) :: st) h) : nG y κ cu su pc ls (.int b :: .int a :: st) h := by
  intro p l e s m args below meth c H locs lsA C R L F
  obtain ⟨hdg, rfl, -⟩ := hd
  exact lv_ishr C.1 C.2.1 hdg (k p l e s m args below meth c H locs lsA C R L F)
theorem x_iushr {a b : Int32} (hd : nD y pc .iushr 1 p2 o) (k : nG y κ cu su p2 ls (.int ((a.toUInt32 >>> (b.toUInt32 &&& Int32.toUInt32 31)).toInt32) :: st) h) : nG y κ cu su pc ls (.int b :: .int a :: st) h := by
  intro p l e s m args below meth c H locs lsA C R L F
  obtain ⟨hdg, rfl, -⟩ := hd
  exact lv_iushr C.1 C.2.1 hdg rfl (k p l e s m args below meth c H locs lsA C R L F)
theorem x_idiv {a b : Int32} (hne : ¬ b = 0) (hd : nD y pc .idiv 1 p2 o) (k : nG y κ cu su p2 ls (.int (a / b) :: st) h) : nG y κ cu su pc ls (.int b :: .int a :: st) h := by
  intro p l e s m args below meth c H locs lsA C R L F
  obtain ⟨hdg, rfl, -⟩ := hd
  exact lv_idiv C.1 C.2.1 hdg hne (k p l e s m args below meth c H locs lsA C R L F)
theorem x_irem {a b : Int32} (hne : ¬ b = 0) (hd : nD y pc .irem 1 p2 o) (k : nG y κ cu su p2 ls (.int (a - a / b * b) :: st) h) : nG y κ cu su pc ls (.int b :: .int a :: st) h := by
  intro p l e s m args below meth c H locs lsA C R L F
  obtain ⟨hdg, rfl, -⟩ := hd
  exact lv_irem C.1 C.2.1 hdg hne (k p l e s m args below meth c H locs lsA C R L F)
theorem x_ladd {a b : Int64} (hd : nD y pc .ladd 1 p2 o) (k : nG y κ cu su p2 ls (.long (a + b) :: st) h) : nG y κ cu su pc ls (.long b :: .long a :: st) h := by
  intro p l e s m args below meth c H locs lsA C R L F
  obtain ⟨hdg, rfl, -⟩ := hd
  exact lv_ladd C.1 C.2.1 hdg (k p l e s m args below meth c H locs lsA C R L F)
theorem x_lsub {a b : Int64} (hd : nD y pc .lsub 1 p2 o) (k : nG y κ cu su p2 ls (.long (a - b) :: st) h) : nG y κ cu su pc ls (.long b :: .long a :: st) h := by
  intro p l e s m args below meth c H locs lsA C R L F
  obtain ⟨hdg, rfl, -⟩ := hd
  exact lv_lsub C.1 C.2.1 hdg (k p l e s m args below meth c H locs lsA C R L F)
theorem x_lmul {a b : Int64} (hd : nD y pc .lmul 1 p2 o) (k : nG y κ cu su p2 ls (.long (a * b) :: st) h) : nG y κ cu su pc ls (.long b :: .long a :: st) h := by
  intro p l e s m args below meth c H locs lsA C R L F
  obtain ⟨hdg, rfl, -⟩ := hd
  exact lv_lmul C.1 C.2.1 hdg (k p l e s m args below meth c H locs lsA C R L F)
theorem x_ldiv {a b : Int64} (hne : ¬ b = 0) (hd : nD y pc .ldiv 1 p2 o) (k : nG y κ cu su p2 ls (.long (a / b) :: st) h) : nG y κ cu su pc ls (.long b :: .long a :: st) h := by
  intro p l e s m args below meth c H locs lsA C R L F
  obtain ⟨hdg, rfl, -⟩ := hd
  exact lv_ldiv C.1 C.2.1 hdg hne (k p l e s m args below meth c H locs lsA C R L F)
theorem x_lrem {a b : Int64} (hne : ¬ b = 0) (hd : nD y pc .lrem 1 p2 o) (k : nG y κ cu su p2 ls (.long (a - a / b * b) :: st) h) : nG y κ cu su pc ls (.long b :: .long a :: st) h := by
  intro p l e s m args below meth c H locs lsA C R L F
  obtain ⟨hdg, rfl, -⟩ := hd
  exact lv_lrem C.1 C.2.1 hdg hne (k p l e s m args below meth c H locs lsA C R L F)
theorem x_lneg {a : Int64} (hd : nD y pc .lneg 1 p2 o) (k : nG y κ cu su p2 ls (.long (-a) :: st) h) : nG y κ cu su pc ls (.long a :: st) h := by
  intro p l e s m args below meth c H locs lsA C R L F
  obtain ⟨hdg, rfl, -⟩ := hd
  exact lv_lneg C.1 C.2.1 hdg (k p l e s m args below meth c H locs lsA C R L F)
theorem x_i2l {a : Int32} (hd : nD y pc .i2l 1 p2 o) (k : nG y κ cu su p2 ls (.long a.toInt64 :: st) h) : nG y κ cu su pc ls (.int a :: st) h := by
  intro p l e s m args below meth c H locs lsA C R L F
  obtain ⟨hdg, rfl, -⟩ := hd
  exact lv_i2l C.1 C.2.1 hdg rfl (k p l e s m args below meth c H locs lsA C R L F)
theorem x_lcmp {a b : Int64} (hd : nD y pc .lcmp 1 p2 o) (k : nG y κ cu su p2 ls (.int (lg_cmp a b) :: st) h) : nG y κ cu su pc ls (.long b :: .long a :: st) h := by
  intro p l e s m args below meth c H locs lsA C R L F
  obtain ⟨hdg, rfl, -⟩ := hd
  exact W.lcmp C.1 C.2.1 hdg (k p l e s m args below meth c H locs lsA C R L F)
theorem x_dup {v : Value} (hv : v.category = 1) (hd : nD y pc .dup 1 p2 o) (k : nG y κ cu su p2 ls (v :: v :: st) h) : nG y κ cu su pc ls (v :: st) h := by
  intro p l e s m args below meth c H locs lsA C R L F
  obtain ⟨hdg, rfl, -⟩ := hd
  exact lv_dup C.1 C.2.1 hdg hv (k p l e s m args below meth c H locs lsA C R L F)
theorem x_dup2 {v v2 : Value} (hv : v.category = 1) (hv2 : v2.category = 1) (hd : nD y pc .dup2 1 p2 o) (k : nG y κ cu su p2 ls (v :: v2 :: v :: v2 :: st) h) : nG y κ cu su pc ls (v :: v2 :: st) h := by
  intro p l e s m args below meth c H locs lsA C R L F
  obtain ⟨hdg, rfl, -⟩ := hd
  exact lv_dup2_11 C.1 C.2.1 hdg hv hv2 (k p l e s m args below meth c H locs lsA C R L F)
theorem x_goto {off : Int} {tgt : Nat} (hd : nD y pc (.goto off) 3 p2 o) (ht : (pc : Int) + off = (tgt : Int)) (k : nG y κ cu su tgt ls st h) : nG y κ cu su pc ls st h := by
  intro p l e s m args below meth c H locs lsA C R L F
  exact lv_goto C.1 C.2.1 hd.1 ht (k p l e s m args below meth c H locs lsA C R L F)
theorem x_icmp_eqT {a b : Int32} {off : Int} {tgt : Nat} (hd : nD y pc (.if_icmp .eq off) 3 p2 o) (ht : (pc : Int) + off = (tgt : Int)) (hc : a = b) (k : nG y κ cu su tgt ls st h) : nG y κ cu su pc ls (.int b :: .int a :: st) h := by
  intro p l e s m args below meth c H locs lsA C R L F
  obtain ⟨hdg, rfl, -⟩ := hd
  exact lv_icmp_eq C.1 C.2.1 hdg ht (fun q => k p l e s m args below meth c H locs lsA C R L F) (fun q => absurd hc q)
theorem x_icmp_eqF {a b : Int32} {off : Int} {tgt : Nat} (hd : nD y pc (.if_icmp .eq off) 3 p2 o) (ht : (pc : Int) + off = (tgt : Int)) (hc : ¬ a = b) (k : nG y κ cu su p2 ls st h) : nG y κ cu su pc ls (.int b :: .int a :: st) h := by
  intro p l e s m args below meth c H locs lsA C R L F
  obtain ⟨hdg, rfl, -⟩ := hd
  exact lv_icmp_eq C.1 C.2.1 hdg ht (fun q => absurd q hc) (fun q => k p l e s m args below meth c H locs lsA C R L F)
theorem x_icmp_eq {a b : Int32} {off : Int} {tgt : Nat} (hd : nD y pc (.if_icmp .eq off) 3 p2 o) (ht : (pc : Int) + off = (tgt : Int)) (k1 : a = b → nG y κ cu su tgt ls st h) (k2 : ¬ a = b → nG y κ cu su p2 ls st h) : nG y κ cu su pc ls (.int b :: .int a :: st) h := by
  by_cases hc : a = b
  · exact x_icmp_eqT hd ht hc (k1 hc)
  · exact x_icmp_eqF hd ht hc (k2 hc)
theorem x_if_eqT {a : Int32} {off : Int} {tgt : Nat} (hd : nD y pc (.ifCond .eq off) 3 p2 o) (ht : (pc : Int) + off = (tgt : Int)) (hc : a = 0) (k : nG y κ cu su tgt ls st h) : nG y κ cu su pc ls (.int a :: st) h := by
  intro p l e s m args below meth c H locs lsA C R L F
  obtain ⟨hdg, rfl, -⟩ := hd
  exact lv_if_eq C.1 C.2.1 hdg ht (fun q => k p l e s m args below meth c H locs lsA C R L F) (fun q => absurd hc q)
theorem x_if_eqF {a : Int32} {off : Int} {tgt : Nat} (hd : nD y pc (.ifCond .eq off) 3 p2 o) (ht : (pc : Int) + off = (tgt : Int)) (hc : ¬ a = 0) (k : nG y κ cu su p2 ls st h) : nG y κ cu su pc ls (.int a :: st) h := by
  intro p l e s m args below meth c H locs lsA C R L F
  obtain ⟨hdg, rfl, -⟩ := hd
  exact lv_if_eq C.1 C.2.1 hdg ht (fun q => absurd q hc) (fun q => k p l e s m args below meth c H locs lsA C R L F)
theorem x_if_eq {a : Int32} {off : Int} {tgt : Nat} (hd : nD y pc (.ifCond .eq off) 3 p2 o) (ht : (pc : Int) + off = (tgt : Int)) (k1 : a = 0 → nG y κ cu su tgt ls st h) (k2 : ¬ a = 0 → nG y κ cu su p2 ls st h) : nG y κ cu su pc ls (.int a :: st) h := by
  by_cases hc : a = 0
  · exact x_if_eqT hd ht hc (k1 hc)
  · exact x_if_eqF hd ht hc (k2 hc)
theorem x_icmp_neT {a b : Int32} {off : Int} {tgt : Nat} (hd : nD y pc (.if_icmp .ne off) 3 p2 o) (ht : (pc : Int) + off = (tgt : Int)) (hc : ¬ a = b) (k : nG y κ cu su tgt ls st h) : nG y κ cu su pc ls (.int b :: .int a :: st) h := by
  intro p l e s m args below meth c H locs lsA C R L F
  obtain ⟨hdg, rfl, -⟩ := hd
  exact lv_icmp_ne C.1 C.2.1 hdg ht (fun q => k p l e s m args below meth c H locs lsA C R L F) (fun q => absurd q hc)
theorem x_icmp_neF {a b : Int32} {off : Int} {tgt : Nat} (hd : nD y pc (.if_icmp .ne off) 3 p2 o) (ht : (pc : Int) + off = (tgt : Int)) (hc : a = b) (k : nG y κ cu su p2 ls st h) : nG y κ cu su pc ls (.int b :: .int a :: st) h := by
  intro p l e s m args below meth c H locs lsA C R L F
  obtain ⟨hdg, rfl, -⟩ := hd
  exact lv_icmp_ne C.1 C.2.1 hdg ht (fun q => absurd hc q) (fun q => k p l e s m args below meth c H locs lsA C R L F)
theorem x_icmp_ne {a b : Int32} {off : Int} {tgt : Nat} (hd : nD y pc (.if_icmp .ne off) 3 p2 o) (ht : (pc : Int) + off = (tgt : Int)) (k1 : ¬ a = b → nG y κ cu su tgt ls st h) (k2 : a = b → nG y κ cu su p2 ls st h) : nG y κ cu su pc ls (.int b :: .int a :: st) h := by
  by_cases hc : ¬ a = b
  · exact x_icmp_neT hd ht hc (k1 hc)
  · exact x_icmp_neF hd ht (Decidable.not_not.mp hc) (k2 (Decidable.not_not.mp hc))
theorem x_if_neT {a : Int32} {off : Int} {tgt : Nat} (hd : nD y pc (.ifCond .ne off) 3 p2 o) (ht : (pc : Int) + off = (tgt : Int)) (hc : ¬ a = 0) (k : nG y κ cu su tgt ls st h) : nG y κ cu su pc ls (.int a :: st) h := by
  intro p l e s m args below meth c H locs lsA C R L F
  obtain ⟨hdg, rfl, -⟩ := hd
  exact lv_if_ne C.1 C.2.1 hdg ht (fun q => k p l e s m args below meth c H locs lsA C R L F) (fun q => absurd q hc)
theorem x_if_neF {a : Int32} {off : Int} {tgt : Nat} (hd : nD y pc (.ifCond .ne off) 3 p2 o) (ht : (pc : Int) + off = (tgt : Int)) (hc : a = 0) (k : nG y κ cu su p2 ls st h) : nG y κ cu su pc ls (.int a :: st) h := by
  intro p l e s m args below meth c H locs lsA C R L F
  obtain ⟨hdg, rfl, -⟩ := hd
  exact lv_if_ne C.1 C.2.1 hdg ht (fun q => absurd hc q) (fun q => k p l e s m args below meth c H locs lsA C R L F)
theorem x_if_ne {a : Int32} {off : Int} {tgt : Nat} (hd : nD y pc (.ifCond .ne off) 3 p2 o) (ht : (pc : Int) + off = (tgt : Int)) (k1 : ¬ a = 0 → nG y κ cu su tgt ls st h) (k2 : a = 0 → nG y κ cu su p2 ls st h) : nG y κ cu su pc ls (.int a :: st) h := by
  by_cases hc : ¬ a = 0
  · exact x_if_neT hd ht hc (k1 hc)
  · exact x_if_neF hd ht (Decidable.not_not.mp hc) (k2 (Decidable.not_not.mp hc))
theorem x_icmp_ltT {a b : Int32} {off : Int} {tgt : Nat} (hd : nD y pc (.if_icmp .lt off) 3 p2 o) (ht : (pc : Int) + off = (tgt : Int)) (hc : a < b) (k : nG y κ cu su tgt ls st h) : nG y κ cu su pc ls (.int b :: .int a :: st) h := by
  intro p l e s m args below meth c H locs lsA C R L F
  obtain ⟨hdg, rfl, -⟩ := hd
  exact lv_icmp_lt C.1 C.2.1 hdg ht (fun q => k p l e s m args below meth c H locs lsA C R L F) (fun q => absurd hc q)
theorem x_icmp_ltF {a b : Int32} {off : Int} {tgt : Nat} (hd : nD y pc (.if_icmp .lt off) 3 p2 o) (ht : (pc : Int) + off = (tgt : Int)) (hc : ¬ a < b) (k : nG y κ cu su p2 ls st h) : nG y κ cu su pc ls (.int b :: .int a :: st) h := by
  intro p l e s m args below meth c H locs lsA C R L F
  obtain ⟨hdg, rfl, -⟩ := hd
  exact lv_icmp_lt C.1 C.2.1 hdg ht (fun q => absurd q hc) (fun q => k p l e s m args below meth c H locs lsA C R L F)
theorem x_icmp_lt {a b : Int32} {off : Int} {tgt : Nat} (hd : nD y pc (.if_icmp .lt off) 3 p2 o) (ht : (pc : Int) + off = (tgt : Int)) (k1 : a < b → nG y κ cu su tgt ls st h) (k2 : ¬ a < b → nG y κ cu su p2 ls st h) : nG y κ cu su pc ls (.int b :: .int a :: st) h := by
  by_cases hc : a < b
  · exact x_icmp_ltT hd ht hc (k1 hc)
  · exact x_icmp_ltF hd ht hc (k2 hc)
theorem x_if_ltT {a : Int32} {off : Int} {tgt : Nat} (hd : nD y pc (.ifCond .lt off) 3 p2 o) (ht : (pc : Int) + off = (tgt : Int)) (hc : a < 0) (k : nG y κ cu su tgt ls st h) : nG y κ cu su pc ls (.int a :: st) h := by
  intro p l e s m args below meth c H locs lsA C R L F
  obtain ⟨hdg, rfl, -⟩ := hd
  exact lv_if_lt C.1 C.2.1 hdg ht (fun q => k p l e s m args below meth c H locs lsA C R L F) (fun q => absurd hc q)
theorem x_if_ltF {a : Int32} {off : Int} {tgt : Nat} (hd : nD y pc (.ifCond .lt off) 3 p2 o) (ht : (pc : Int) + off = (tgt : Int)) (hc : ¬ a < 0) (k : nG y κ cu su p2 ls st h) : nG y κ cu su pc ls (.int a :: st) h := by
  intro p l e s m args below meth c H locs lsA C R L F
  obtain ⟨hdg, rfl, -⟩ := hd
  exact lv_if_lt C.1 C.2.1 hdg ht (fun q => absurd q hc) (fun q => k p l e s m args below meth c H locs lsA C R L F)
theorem x_if_lt {a : Int32} {off : Int} {tgt : Nat} (hd : nD y pc (.ifCond .lt off) 3 p2 o) (ht : (pc : Int) + off = (tgt : Int)) (k1 : a < 0 → nG y κ cu su tgt ls st h) (k2 : ¬ a < 0 → nG y κ cu su p2 ls st h) : nG y κ cu su pc ls (.int a :: st) h := by
  by_cases hc : a < 0
  · exact x_if_ltT hd ht hc (k1 hc)
  · exact x_if_ltF hd ht hc (k2 hc)
theorem x_icmp_geT {a b : Int32} {off : Int} {tgt : Nat} (hd : nD y pc (.if_icmp .ge off) 3 p2 o) (ht : (pc : Int) + off = (tgt : Int)) (hc : b ≤ a) (k : nG y κ cu su tgt ls st h) : nG y κ cu su pc ls (.int b :: .int a :: st) h := by
  intro p l e s m args below meth c H locs lsA C R L F
  obtain ⟨hdg, rfl, -⟩ := hd
  exact lv_icmp_ge C.1 C.2.1 hdg ht (fun q => k p l e s m args below meth c H locs lsA C R L F) (fun q => absurd hc q)
theorem x_icmp_geF {a b : Int32} {off : Int} {tgt : Nat} (hd : nD y pc (.if_icmp .ge off) 3 p2 o) (ht : (pc : Int) + off = (tgt : Int)) (hc : ¬ b ≤ a) (k : nG y κ cu su p2 ls st h) : nG y κ cu su pc ls (.int b :: .int a :: st) h := by
  intro p l e s m args below meth c H locs lsA C R L F
  obtain ⟨hdg, rfl, -⟩ := hd
  exact lv_icmp_ge C.1 C.2.1 hdg ht (fun q => absurd q hc) (fun q => k p l e s m args below meth c H locs lsA C R L F)
theorem x_icmp_ge {a b : Int32} {off : Int} {tgt : Nat} (hd : nD y pc (.if_icmp .ge off) 3 p2 o) (ht : (pc : Int) + off = (tgt : Int)) (k1 : b ≤ a → nG y κ cu su tgt ls st h) (k2 : ¬ b ≤ a → nG y κ cu su p2 ls st h) : nG y κ cu su pc ls (.int b :: .int a :: st) h := by
  by_cases hc : b ≤ a
  · exact x_icmp_geT hd ht hc (k1 hc)
  · exact x_icmp_geF hd ht hc (k2 hc)
theorem x_if_geT {a : Int32} {off : Int} {tgt : Nat} (hd : nD y pc (.ifCond .ge off) 3 p2 o) (ht : (pc : Int) + off = (tgt : Int)) (hc : 0 ≤ a) (k : nG y κ cu su tgt ls st h) : nG y κ cu su pc ls (.int a :: st) h := by
  intro p l e s m args below meth c H locs lsA C R L F
  obtain ⟨hdg, rfl, -⟩ := hd
  exact lv_if_ge C.1 C.2.1 hdg ht (fun q => k p l e s m args below meth c H locs lsA C R L F) (fun q => absurd hc q)
theorem x_if_geF {a : Int32} {off : Int} {tgt : Nat} (hd : nD y pc (.ifCond .ge off) 3 p2 o) (ht : (pc : Int) + off = (tgt : Int)) (hc : ¬ 0 ≤ a) (k : nG y κ cu su p2 ls st h) : nG y κ cu su pc ls (.int a :: st) h := by
  intro p l e s m args below meth c H locs lsA C R L F
  obtain ⟨hdg, rfl, -⟩ := hd
  exact lv_if_ge C.1 C.2.1 hdg ht (fun q => absurd q hc) (fun q => k p l e s m args below meth c H locs lsA C R L F)
theorem x_if_ge {a : Int32} {off : Int} {tgt : Nat} (hd : nD y pc (.ifCond .ge off) 3 p2 o) (ht : (pc : Int) + off = (tgt : Int)) (k1 : 0 ≤ a → nG y κ cu su tgt ls st h) (k2 : ¬ 0 ≤ a → nG y κ cu su p2 ls st h) : nG y κ cu su pc ls (.int a :: st) h := by
  by_cases hc : 0 ≤ a
  · exact x_if_geT hd ht hc (k1 hc)
  · exact x_if_geF hd ht hc (k2 hc)
theorem x_icmp_gtT {a b : Int32} {off : Int} {tgt : Nat} (hd : nD y pc (.if_icmp .gt off) 3 p2 o) (ht : (pc : Int) + off = (tgt : Int)) (hc : b < a) (k : nG y κ cu su tgt ls st h) : nG y κ cu su pc ls (.int b :: .int a :: st) h := by
  intro p l e s m args below meth c H locs lsA C R L F
  obtain ⟨hdg, rfl, -⟩ := hd
  exact lv_icmp_gt C.1 C.2.1 hdg ht (fun q => k p l e s m args below meth c H locs lsA C R L F) (fun q => absurd hc q)
theorem x_icmp_gtF {a b : Int32} {off : Int} {tgt : Nat} (hd : nD y pc (.if_icmp .gt off) 3 p2 o) (ht : (pc : Int) + off = (tgt : Int)) (hc : ¬ b < a) (k : nG y κ cu su p2 ls st h) : nG y κ cu su pc ls (.int b :: .int a :: st) h := by
  intro p l e s m args below meth c H locs lsA C R L F
  obtain ⟨hdg, rfl, -⟩ := hd
  exact lv_icmp_gt C.1 C.2.1 hdg ht (fun q => absurd q hc) (fun q => k p l e s m args below meth c H locs lsA C R L F)
theorem x_icmp_gt {a b : Int32} {off : Int} {tgt : Nat} (hd : nD y pc (.if_icmp .gt off) 3 p2 o) (ht : (pc : Int) + off = (tgt : Int)) (k1 : b < a → nG y κ cu su tgt ls st h) (k2 : ¬ b < a → nG y κ cu su p2 ls st h) : nG y κ cu su pc ls (.int b :: .int a :: st) h := by
  by_cases hc : b < a
  · exact x_icmp_gtT hd ht hc (k1 hc)
  · exact x_icmp_gtF hd ht hc (k2 hc)
theorem x_if_gtT {a : Int32} {off : Int} {tgt : Nat} (hd : nD y pc (.ifCond .gt off) 3 p2 o) (ht : (pc : Int) + off = (tgt : Int)) (hc : 0 < a) (k : nG y κ cu su tgt ls st h) : nG y κ cu su pc ls (.int a :: st) h := by
  intro p l e s m args below meth c H locs lsA C R L F
  obtain ⟨hdg, rfl, -⟩ := hd
  exact lv_if_gt C.1 C.2.1 hdg ht (fun q => k p l e s m args below meth c H locs lsA C R L F) (fun q => absurd hc q)
theorem x_if_gtF {a : Int32} {off : Int} {tgt : Nat} (hd : nD y pc (.ifCond .gt off) 3 p2 o) (ht : (pc : Int) + off = (tgt : Int)) (hc : ¬ 0 < a) (k : nG y κ cu su p2 ls st h) : nG y κ cu su pc ls (.int a :: st) h := by
  intro p l e s m args below meth c H locs lsA C R L F
  obtain ⟨hdg, rfl, -⟩ := hd
  exact lv_if_gt C.1 C.2.1 hdg ht (fun q => absurd q hc) (fun q => k p l e s m args below meth c H locs lsA C R L F)
theorem x_if_gt {a : Int32} {off : Int} {tgt : Nat} (hd : nD y pc (.ifCond .gt off) 3 p2 o) (ht : (pc : Int) + off = (tgt : Int)) (k1 : 0 < a → nG y κ cu su tgt ls st h) (k2 : ¬ 0 < a → nG y κ cu su p2 ls st h) : nG y κ cu su pc ls (.int a :: st) h := by
  by_cases hc : 0 < a
  · exact x_if_gtT hd ht hc (k1 hc)
  · exact x_if_gtF hd ht hc (k2 hc)
theorem x_icmp_leT {a b : Int32} {off : Int} {tgt : Nat} (hd : nD y pc (.if_icmp .le off) 3 p2 o) (ht : (pc : Int) + off = (tgt : Int)) (hc : a ≤ b) (k : nG y κ cu su tgt ls st h) : nG y κ cu su pc ls (.int b :: .int a :: st) h := by
  intro p l e s m args below meth c H locs lsA C R L F
  obtain ⟨hdg, rfl, -⟩ := hd
  exact lv_icmp_le C.1 C.2.1 hdg ht (fun q => k p l e s m args below meth c H locs lsA C R L F) (fun q => absurd hc q)
theorem x_icmp_leF {a b : Int32} {off : Int} {tgt : Nat} (hd : nD y pc (.if_icmp .le off) 3 p2 o) (ht : (pc : Int) + off = (tgt : Int)) (hc : ¬ a ≤ b) (k : nG y κ cu su p2 ls st h) : nG y κ cu su pc ls (.int b :: .int a :: st) h := by
  intro p l e s m args below meth c H locs lsA C R L F
  obtain ⟨hdg, rfl, -⟩ := hd
  exact lv_icmp_le C.1 C.2.1 hdg ht (fun q => absurd q hc) (fun q => k p l e s m args below meth c H locs lsA C R L F)
theorem x_icmp_le {a b : Int32} {off : Int} {tgt : Nat} (hd : nD y pc (.if_icmp .le off) 3 p2 o) (ht : (pc : Int) + off = (tgt : Int)) (k1 : a ≤ b → nG y κ cu su tgt ls st h) (k2 : ¬ a ≤ b → nG y κ cu su p2 ls st h) : nG y κ cu su pc ls (.int b :: .int a :: st) h := by
  by_cases hc : a ≤ b
  · exact x_icmp_leT hd ht hc (k1 hc)
  · exact x_icmp_leF hd ht hc (k2 hc)
theorem x_if_leT {a : Int32} {off : Int} {tgt : Nat} (hd : nD y pc (.ifCond .le off) 3 p2 o) (ht : (pc : Int) + off = (tgt : Int)) (hc : a ≤ 0) (k : nG y κ cu su tgt ls st h) : nG y κ cu su pc ls (.int a :: st) h := by
  intro p l e s m args below meth c H locs lsA C R L F
  obtain ⟨hdg, rfl, -⟩ := hd
  exact lv_if_le C.1 C.2.1 hdg ht (fun q => k p l e s m args below meth c H locs lsA C R L F) (fun q => absurd hc q)
theorem x_if_leF {a : Int32} {off : Int} {tgt : Nat} (hd : nD y pc (.ifCond .le off) 3 p2 o) (ht : (pc : Int) + off = (tgt : Int)) (hc : ¬ a ≤ 0) (k : nG y κ cu su p2 ls st h) : nG y κ cu su pc ls (.int a :: st) h := by
  intro p l e s m args below meth c H locs lsA C R L F
  obtain ⟨hdg, rfl, -⟩ := hd
  exact lv_if_le C.1 C.2.1 hdg ht (fun q => absurd q hc) (fun q => k p l e s m args below meth c H locs lsA C R L F)
theorem x_if_le {a : Int32} {off : Int} {tgt : Nat} (hd : nD y pc (.ifCond .le off) 3 p2 o) (ht : (pc : Int) + off = (tgt : Int)) (k1 : a ≤ 0 → nG y κ cu su tgt ls st h) (k2 : ¬ a ≤ 0 → nG y κ cu su p2 ls st h) : nG y κ cu su pc ls (.int a :: st) h := by
  by_cases hc : a ≤ 0
  · exact x_if_leT hd ht hc (k1 hc)
  · exact x_if_leF hd ht hc (k2 hc)
theorem x_ifnull {x : Nat} {off : Int} (hd : nD y pc (.ifnull off) 3 p2 o) (k : nG y κ cu su p2 ls st h) : nG y κ cu su pc ls (.ref x :: st) h := by
  intro p l e s m args below meth c H locs lsA C R L F
  obtain ⟨hdg, rfl, -⟩ := hd
  exact lv_ifnull C.1 C.2.1 hdg (k p l e s m args below meth c H locs lsA C R L F)
theorem x_ifnullN {off : Int} {tgt : Nat} (hd : nD y pc (.ifnull off) 3 p2 o) (ht : (pc : Int) + off = (tgt : Int)) (k : nG y κ cu su tgt ls st h) : nG y κ cu su pc ls (.null :: st) h := by
  intro p l e s m args below meth c H locs lsA C R L F
  exact lv_ifnullN C.1 C.2.1 hd.1 ht (k p l e s m args below meth c H locs lsA C R L F)
theorem x_ifnonnull {x : Nat} {off : Int} {tgt : Nat} (hd : nD y pc (.ifnonnull off) 3 p2 o) (ht : (pc : Int) + off = (tgt : Int)) (k : nG y κ cu su tgt ls st h) : nG y κ cu su pc ls (.ref x :: st) h := by
  intro p l e s m args below meth c H locs lsA C R L F
  exact lv_ifnonnull C.1 C.2.1 hd.1 ht (k p l e s m args below meth c H locs lsA C R L F)
theorem x_ifnonnullN {off : Int} (hd : nD y pc (.ifnonnull off) 3 p2 o) (k : nG y κ cu su p2 ls st h) : nG y κ cu su pc ls (.null :: st) h := by
  intro p l e s m args below meth c H locs lsA C R L F
  obtain ⟨hdg, rfl, -⟩ := hd
  exact lv_ifnonnullN C.1 C.2.1 hdg (k p l e s m args below meth c H locs lsA C R L F)
theorem x_tableOut {dflt lo hi : Int} {offs : Array Int} {len tgt : Nat} {x : Int32} (hd : nD y pc (.tableswitch dflt lo hi offs) len p2 o) (hc : x.toInt < lo ∨ hi < x.toInt) (ht : (pc : Int) + dflt = (tgt : Int)) (k : nG y κ cu su tgt ls st h) : nG y κ cu su pc ls (.int x :: st) h := by
  intro p l e s m args below meth c H locs lsA C R L F
  exact lv_tableOut C.1 C.2.1 hd.1 hc ht (k p l e s m args below meth c H locs lsA C R L F)
theorem x_tableIn {dflt lo hi off : Int} {offs : Array Int} {len tgt : Nat} {x : Int32} (hd : nD y pc (.tableswitch dflt lo hi offs) len p2 o) (h1 : ¬ x.toInt < lo) (h2 : ¬ hi < x.toInt) (ho : offs[(x.toInt - lo).toNat]? = some off) (ht : (pc : Int) + off = (tgt : Int)) (k : nG y κ cu su tgt ls st h) : nG y κ cu su pc ls (.int x :: st) h := by
  intro p l e s m args below meth c H locs lsA C R L F
  exact lv_tableIn C.1 C.2.1 hd.1 h1 h2 ho ht (k p l e s m args below meth c H locs lsA C R L F)
theorem x_istore_n {x : Int32} {i : Fin 4} (hd : nD y pc (.istore_n i) 1 p2 o) (hi : i.val < y.2.2.1) (k : nG y κ cu su p2 (nPut ls i.val (.int x)) st h) : nG y κ cu su pc ls (.int x :: st) h := by
  intro p l e s m args below meth c H locs lsA C R L F
  obtain ⟨hdg, rfl, -⟩ := hd
  exact lv_istore_n C.1 C.2.1 hdg rfl (nLs_has L) hi rfl (fun l2 h2 => k p l e s m args below meth c H locs l2 C R (nLs_put h2) F)
theorem x_istore {x : Int32} {i : Nat} (hd : nD y pc (.istore i) 2 p2 o) (hi : i < y.2.2.1) (k : nG y κ cu su p2 (nPut ls i (.int x)) st h) : nG y κ cu su pc ls (.int x :: st) h := by
  intro p l e s m args below meth c H locs lsA C R L F
  obtain ⟨hdg, rfl, -⟩ := hd
  exact lv_istore C.1 C.2.1 hdg (nLs_has L) hi rfl (fun l2 h2 => k p l e s m args below meth c H locs l2 C R (nLs_put h2) F)
theorem x_lstore_n {x : Int64} {i : Fin 4} (hd : nD y pc (.lstore_n i) 1 p2 o) (hi : i.val + 1 < y.2.2.1) (k : nG y κ cu su p2 (nPu2 ls i.val (.long x)) st h) : nG y κ cu su pc ls (.long x :: st) h := by
  intro p l e s m args below meth c H locs lsA C R L F
  obtain ⟨hdg, rfl, -⟩ := hd
  exact lv_lstore_n C.1 C.2.1 hdg rfl (nLs_has L) hi rfl (fun l2 h2 => k p l e s m args below meth c H locs l2 C R (nLs_pu2 h2) F)
theorem x_lstore {x : Int64} {i : Nat} (hd : nD y pc (.lstore i) 2 p2 o) (hi : i + 1 < y.2.2.1) (k : nG y κ cu su p2 (nPu2 ls i (.long x)) st h) : nG y κ cu su pc ls (.long x :: st) h := by
  intro p l e s m args below meth c H locs lsA C R L F
  obtain ⟨hdg, rfl, -⟩ := hd
  exact lv_lstore C.1 C.2.1 hdg (nLs_has L) hi rfl (fun l2 h2 => k p l e s m args below meth c H locs l2 C R (nLs_pu2 h2) F)
theorem x_astore_n {x : Nat} {i : Fin 4} (hd : nD y pc (.astore_n i) 1 p2 o) (hi : i.val < y.2.2.1) (k : nG y κ cu su p2 (nPut ls i.val (.ref x)) st h) : nG y κ cu su pc ls (.ref x :: st) h := by
  intro p l e s m args below meth c H locs lsA C R L F
  obtain ⟨hdg, rfl, -⟩ := hd
  exact lv_astore_n C.1 C.2.1 hdg rfl (nLs_has L) hi rfl (fun l2 h2 => k p l e s m args below meth c H locs l2 C R (nLs_put h2) F)
theorem x_astore {x : Nat} {i : Nat} (hd : nD y pc (.astore i) 2 p2 o) (hi : i < y.2.2.1) (k : nG y κ cu su p2 (nPut ls i (.ref x)) st h) : nG y κ cu su pc ls (.ref x :: st) h := by
  intro p l e s m args below meth c H locs lsA C R L F
  obtain ⟨hdg, rfl, -⟩ := hd
  exact lv_astore C.1 C.2.1 hdg (nLs_has L) hi rfl (fun l2 h2 => k p l e s m args below meth c H locs l2 C R (nLs_put h2) F)
theorem x_astore_nN {i : Fin 4} (hd : nD y pc (.astore_n i) 1 p2 o) (hi : i.val < y.2.2.1) (k : nG y κ cu su p2 (nPut ls i.val (.null)) st h) : nG y κ cu su pc ls (.null :: st) h := by
  intro p l e s m args below meth c H locs lsA C R L F
  obtain ⟨hdg, rfl, -⟩ := hd
  exact lv_astore_nN C.1 C.2.1 hdg rfl (nLs_has L) hi rfl (fun l2 h2 => k p l e s m args below meth c H locs l2 C R (nLs_put h2) F)
theorem x_astoreN {i : Nat} (hd : nD y pc (.astore i) 2 p2 o) (hi : i < y.2.2.1) (k : nG y κ cu su p2 (nPut ls i (.null)) st h) : nG y κ cu su pc ls (.null :: st) h := by
  intro p l e s m args below meth c H locs lsA C R L F
  obtain ⟨hdg, rfl, -⟩ := hd
  exact lv_astoreN C.1 C.2.1 hdg (nLs_has L) hi rfl (fun l2 h2 => k p l e s m args below meth c H locs l2 C R (nLs_put h2) F)
theorem x_iinc {i : Nat} {n : Int} {x : Int32} (hd : nD y pc (.iinc i n) 3 p2 o) (hl : ls[i]? = some (some (.int x))) (hi : i < y.2.2.1) (k : nG y κ cu su p2 (nPut ls i (.int (x + Int32.ofInt n))) st h) : nG y κ cu su pc ls st h := by
  intro p l e s m args below meth c H locs lsA C R L F
  obtain ⟨hdg, rfl, -⟩ := hd
  obtain ⟨j, hj⟩ := List.getElem?_of_mem (nAs_mem.mpr hl)
  exact lv_iinc C.1 C.2.1 hdg (nLs_has L) hj rfl hi rfl (fun l2 h2 => k p l e s m args below meth c H locs l2 C R (nLs_put h2) F)
end NG
