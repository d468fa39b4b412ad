/-! THE PLAIN WORLD: rows for cells, calls and ends. -/
def nUp {α : Type} (f : Nat → α) (j : Nat) (v : α) : Nat → α := fun q => if q = j then v else f q
def nIx (i : Int32) (n j : Nat) : Prop := vp_in i n ∧ i.toNatClampNeg = j
theorem nIx_nI {j n : Nat} (h : j < n) (hn : n < 2 ^ 31) : nIx (nI j) n j := ⟨vp_in_nI h (by omega), nI_clamp (by omega)⟩
theorem nRC.kept {D : va_G} {U : State} {H H2 : Heap} {a : Nat} {e : nPC} (h : nRC D U H a e) (hq : H2[a]? = H[a]?) : nRC D U H2 a e := by
  match e, h with
  | .inl x, h =>
    obtain ⟨cA, h1, h2⟩ := h
    exact ⟨cA, hq.trans h1, h2⟩
  | .inr (.inl o), h => exact va_at.kept (q := (a, .inr o)) h hq
  | .inr (.inr x), h => exact va_X.kept (b := a) h hq
theorem nRC.lt {D : va_G} {U : State} {H : Heap} {a : Nat} {e : nPC} (h : nRC D U H a e) : a < H.size := by
  match e, h with
  | .inl x, h =>
    obtain ⟨cA, h1, h2⟩ := h
    exact (Array.getElem?_eq_some_iff.mp h1).1
  | .inr (.inl o), h => exact va_at.lt (q := (a, .inr o)) h
  | .inr (.inr x), h =>
    obtain ⟨scr, h1, -⟩ := h
    exact (Array.getElem?_eq_some_iff.mp h1).1
theorem nRC.moved {D : va_G} {u U : State} {H : Heap} {a : Nat} {e : nPC} (hvm : u.vm.Alike U.vm) (h : nRC D u H a e) : nRC D U H a e := by
  match e, h with
  | .inl x, h =>
    obtain ⟨cA, h1, h2, h3⟩ := h
    exact ⟨cA, h1, arrOfT_moved hvm h2, h3.moved hvm⟩
  | .inr (.inl o), h => exact h
  | .inr (.inr x), h => exact va_X.moved hvm h
theorem nRep.moved {h : nPH} {u U : State} {H : Heap} (hvm : u.vm.Alike U.vm) (R : nRep h u H) : nRep h U H := ⟨R.1, fun a e he => (R.2 a e he).moved hvm⟩
theorem nRep_st {h : nPH} {U : State} {H H2 : Heap} {a : Nat} {e : nPC} (R : nRep h U H) (z : H2.size = H.size) (oq : ∀ q : Nat, q ≠ a → H2[q]? = H[q]?) (he : nRC h.1 U H2 a e) : nRep (nSt h a e) U H2 := by
  refine ⟨z.trans R.1, fun q e2 hq => ?_⟩
  by_cases hqa : q = a
  · subst hqa
    have : some e = some e2 := by simpa [nSt] using hq
    cases this
    exact he
  · have : h.2.2.2 q = some e2 := by simpa [nSt, hqa] using hq
    exact (R.2 q e2 this).kept (oq q hqa)
theorem nRep_nw {h : nPH} {U : State} {H H2 : Heap} {e : nPC} (R : nRep h U H) (z : H2.size = H.size + 1) (oq : ∀ q : Nat, q < H.size → H2[q]? = H[q]?) (he : nRC h.1 U H2 H.size e) : nRep (nNw h e) U H2 := by
  have hz : h.2.2.1 = H.size := R.1.symm
  refine ⟨by show _ = h.2.2.1 + 1; rw [z, hz], fun q e2 hq => ?_⟩
  by_cases hqa : q = h.2.2.1
  · subst hqa
    have : some e = some e2 := by simpa [nNw] using hq
    cases this
    rw [hz]
    exact he
  · have : h.2.2.2 q = some e2 := by simpa [nNw, hqa] using hq
    have h1 := R.2 q e2 this
    exact h1.kept (oq q h1.lt)
theorem nK.moved {D : va_G} {s U : State} (hW : s.WarmedH U.vm) (h : nK D s) : nK D U := by
  obtain ⟨h1, h2, h3, h4, h5, h6⟩ := h
  exact ⟨va_K.moved hW.alike h1, fun q hq => va_Nw.warmM hW (h2 q hq), va_AO.moved hW.alike h3, va_AO.moved hW.alike h4, over_moved hW.alike h5, over_moved hW.alike h6⟩
theorem nK.call {D : va_G} {U : State} (g : JFrame) (mk : MethodId) (a : Array Value) (h : nK D U) : nK D (U.calling g mk a) := by
  obtain ⟨h1, h2, h3, h4, h5, h6⟩ := h
  exact ⟨va_K.moved (u := U) (U := U.calling g mk a) (Vm.Alike.refl U.vm) h1, fun q hq => va_Nw.same rfl (show U.vm = (U.calling g mk a).vm from rfl) (h2 q hq), va_AO.moved (u := U) (U := U.calling g mk a) (Vm.Alike.refl U.vm) h3, va_AO.moved (u := U) (U := U.calling g mk a) (Vm.Alike.refl U.vm) h4, over_moved (u := U) (E := U.calling g mk a) (Vm.Alike.refl U.vm) h5, over_moved (u := U) (E := U.calling g mk a) (Vm.Alike.refl U.vm) h6⟩
theorem nPc_blind (h : nPH) (av : List Value) : FrameBlind (nPc h av) := fun a U g mk q =>
  ⟨q.1, nRep.moved (u := U) (U := U.calling g mk a) (Vm.Alike.refl U.vm) q.2.1, q.2.2.call g mk a⟩
/-- what a field's place says: class c, its field k -/
def nF (o idx c k : Nat) : Prop := ∃ q : vw_C, vwCl[c]? = some q ∧ k < q.2.2 ∧ Cond.fieldLink (cNm o) idx (q.2.1 k).1 (q.2.1 k).2.1 (q.2.1 k).2.2.1 ∈ nWs
def nCo (c : Nat) : Prop := ∀ q : vw_C, vwCl[c]? = some q → (∀ w ∈ u_ws q.1 q.2.1 q.2.2, w ∈ nWs) ∧ (∀ a, a < q.2.2 → ∀ b, b < q.2.2 → a ≠ b → (q.2.1 a).2.1 ≠ (q.2.1 b).2.1) ∧ ∃ ty : Nat → FieldType, ∀ k, k < q.2.2 → parseFieldDescriptor (q.2.1 k).2.2.1 = some (ty k)
/-- a field's type, and whether it is final -/
def nFt (c k : Nat) (ty : FieldType) (fin : Bool) : Prop := ∀ q : vw_C, vwCl[c]? = some q → parseFieldDescriptor (q.2.1 k).2.2.1 = some ty ∧ (q.2.1 k).2.2.2 = fin ∧ (q.2.1 k).1 = cNm c
section NH
variable {y : nM} {κ : nKp} {cu su pc p2 o : Nat} {ls : List (Option Value)} {st : List Value} {h : nPH}
theorem nOne {D : va_G} {H : Heap} {q : Nat × va_E} (hq : va_at D vwCl q H) : va_P D vwCl [q] H := fun k x hx => by
  have hk : k < 1 := (List.getElem?_eq_some_iff.mp hx).1
  rw [show k = 0 by omega] at hx
  cases hx
  exact hq
theorem x_getf (hco : ∀ c, nCo c) {idx c k a : Nat} {fs : List Value} {v : Value} (hd : nD y pc (.getfield idx) 3 p2 o) (hf : nF o idx c k) (hat : nAt h a = some (nOb c fs)) (hv : fs[k]? = some v) (kk : nG y κ cu su p2 ls (v :: st) h) : nG y κ cu su pc ls (.ref a :: st) h := by
  intro p l e s m args below meth cd H locs lsA C R L F
  obtain ⟨hdg, rfl, rfl⟩ := hd
  obtain ⟨q, hq, hk, hl⟩ := hf
  have K := kk p l e s m args below meth cd H locs lsA C R L F
  obtain ⟨hx, hb, hml, hown, hts, hr, hlk, hnm, hK⟩ := C
  exact va_get hx hb hts (hco c q hq).1 hown hK.1 (nOne (q := (a, .inr (c, fs))) (R.2 a _ hat)) 0 rfl hq k hk (hts _ hl) (fun x hx => hx) hv hdg K
theorem nPutAt {D : va_G} {H2 : Heap} {s : State} {c k a : Nat} {fs : List Value} {v : Value} {q : vw_C} {cell : Cell} (hq : vwCl[c]? = some q) (hap : ∀ x y, x < q.2.2 → y < q.2.2 → x ≠ y → (D.2 c) x ≠ (D.2 c) y) (hk : k < q.2.2) (hl : k < fs.length)
    (q2 : cell.cls = D.1 c) (q3 : cell.vm = .none) (q4 : ∀ k, k < q.2.2 → cell.slots[D.2 c k]? = some (vp_V fs k)) (e1 : H2[a]? = some (cell.setSlot (D.2 c k) v)) : nRC D s H2 a (nOb c (fs.set k v)) :=
  ⟨q, hq, t_OB.to (V := updV (vp_V fs) k v) ⟨_, e1, q2, q3, t_set q4 hap hk v⟩ (fun j _ => vp_updV_set hl v j)⟩
theorem x_putf (hco : ∀ c, nCo c) {idx c k a : Nat} {fs : List Value} {v : Value} {ty : FieldType} (hd : nD y pc (.putfield idx) 3 p2 o) (hf : nF o idx c k) (ht : nFt c k ty false) (hat : nAt h a = some (nOb c fs)) (hl : k < fs.length) (hn : narrow ty v = v) (hfit : fits ty v = true) (hB : h.2.1 ≤ a)
    (kk : nG y κ cu su p2 ls st (nSt h a (nOb c (fs.set k v)))) : nG y κ cu su pc ls (v :: .ref a :: st) h := by
  intro p l e s m args below meth cd H locs lsA C R L F
  obtain ⟨hdg, rfl, rfl⟩ := hd
  obtain ⟨q, hq, hk, hl2⟩ := hf
  obtain ⟨ht1, ht2, -⟩ := ht q hq
  have K := fun H2 => kk p l e s m args below meth cd H2 (locs ++ [⟨a, h.1.2 c k⟩]) lsA C
  obtain ⟨hx, hb, hml, hown, hts, hr, hlk, hnm, hK⟩ := C
  obtain ⟨hin, hnmd, ty0, hty⟩ := hco c q hq
  have hap := va_apart (own := q.1) hts hin ty0 hty hnmd hK.1 hq
  obtain ⟨r, h1, cell, q1, q2, q3, q4⟩ := R.2 a _ hat
  have hr0 : r = q := Option.some.inj (h1.symm.trans hq)
  subst hr0
  obtain ⟨hS, hfc, kC, hkC, hkind⟩ := hK.1.1 c _ hq
  obtain ⟨cf, kf, fi, f, hi, hsl⟩ := hS k hk
  have hlay := hts _ (hin _ (u_in_lay hk))
  unfold u_lay at hlay
  rw [if_neg (by rw [ht2]; decide)] at hlay
  have hst := (u_facts hfc hkC (u_lays hts hin hk) hi).1
  have h6 := u_store hfc hkC hkind hlay hi ht1 hn hfit
  refine W.putK hx hb (f := f) ⟨hown, hts _ hl2, ⟨_, _, _, hi⟩, hst⟩ (by rw [q2]; exact h6) q1 q3 (by rw [hsl]; exact k2_hasslot (q4 k hk)) rfl rfl hdg fun H2 e1 e2 e3 => ?_
  rw [hsl] at e1 ⊢
  refine K H2 (nRep_st R e2 e3 (nPutAt hq hap hk hl q2 q3 q4 e1)) L (fun z hz => ?_)
  rcases List.mem_append.mp hz with hz | hz
  · exact F z hz
  · rw [List.mem_singleton.mp hz]
    exact hB
theorem x_putF (hco : ∀ c, nCo c) {idx c k a : Nat} {fs : List Value} {v : Value} {ty : FieldType} (hd : nD y pc (.putfield idx) 3 p2 o) (hf : nF o idx c k) (ht : nFt c k ty true) (hoc : o = c) (hin2 : y.1.name = "<init>") (hat : nAt h a = some (nOb c fs)) (hl : k < fs.length) (hn : narrow ty v = v) (hfit : fits ty v = true) (hB : h.2.1 ≤ a)
    (kk : nG y κ cu su p2 ls st (nSt h a (nOb c (fs.set k v)))) : nG y κ cu su pc ls (v :: .ref a :: st) h := by
  intro p l e s m args below meth cd H locs lsA C R L F
  subst hoc
  obtain ⟨hdg, rfl, rfl⟩ := hd
  obtain ⟨q, hq, hk, hl2⟩ := hf
  obtain ⟨ht1, ht2, ht3⟩ := ht q hq
  have K := fun H2 => kk p l e s m args below meth cd H2 (locs ++ [⟨a, h.1.2 y.2.2.2.2.1 k⟩]) lsA C
  obtain ⟨hx, hb, hml, hown, hts, hr, hlk, hnm, hK⟩ := C
  obtain ⟨hin, hnmd, ty0, hty⟩ := hco _ q hq
  have hap := va_apart (own := q.1) hts hin ty0 hty hnmd hK.1 hq
  obtain ⟨r, h1, cell, q1, q2, q3, q4⟩ := R.2 a _ hat
  have hr0 : r = q := Option.some.inj (h1.symm.trans hq)
  subst hr0
  obtain ⟨hS, hfc, kC, hkC, hkind⟩ := hK.1.1 _ _ hq
  obtain ⟨cf, kf, fi, f, hi, hsl⟩ := hS k hk
  have hlay := hts _ (hin _ (u_in_lay hk))
  unfold u_lay at hlay
  rw [if_pos ht2] at hlay
  have hst := (u_facts hfc hkC (u_lays hts hin hk) hi).1
  have hcf : m.cls = cf := by
    obtain ⟨_, _, c', _, _, _, -, -, hf', -, -, -, hown2, -⟩ := Cond.laysFinal_spec hlay
    have e1 : c' = cf := by have := hi.symm.trans hf'; simp at this; exact this.1.symm
    rw [ht3] at hown2
    rw [← e1]; exact Option.some.inj (hown.symm.trans hown2)
  have h6 := u_fits hfc hkC hkind (Or.inr hlay) hi ht1 hn hfit
  refine W.putFinK hx hb hown (hts _ hl2) hi hst hcf (hnm.trans hin2) (by rw [q2]; exact h6) q1 q3 (by rw [hsl]; exact k2_hasslot (q4 k hk)) rfl rfl hdg fun H2 e1 e2 e3 => ?_
  rw [hsl] at e1 ⊢
  refine K H2 (nRep_st R e2 e3 (nPutAt hq hap hk hl q2 q3 q4 e1)) L (fun z hz => ?_)
  rcases List.mem_append.mp hz with hz | hz
  · exact F z hz
  · rw [List.mem_singleton.mp hz]
    exact hB
theorem x_iaload {a n j : Nat} {f : Nat → Int32} {i : Int32} (hd : nD y pc .iaload 1 p2 o) (hat : nAt h a = some (nAi n f)) (hi : nIx i n j) (kk : nG y κ cu su p2 ls (.int (f j) :: st) h) : nG y κ cu su pc ls (.int i :: .ref a :: st) h := by
  intro p l e s m args below meth cd H locs lsA C R L F
  obtain ⟨hdg, rfl, -⟩ := hd
  obtain ⟨hi, rfl⟩ := hi
  obtain ⟨cA, h1, h2, h3⟩ := R.2 a _ hat
  have hlt : i.toNatClampNeg < n := Nat.not_le.mp fun q => hi (Or.inr q)
  exact W.iald (v := .int (f i.toNatClampNeg)) C.1 C.2.1 h1 (h2 n (fun j => .int (f j))) (fun q => by cases q) (by show ¬ (i < 0 ∨ (arrV _ _ _).slots.size ≤ _); rw [arrV_size]; exact hi) (by show (arrV _ _ _).slots[_]? = _; rw [arrV_read _ _ hlt]) rfl rfl hdg (kk p l e s m args below meth cd H locs lsA C R L F)
theorem x_baload {a n j : Nat} {f : Nat → Int32} {i : Int32} (hd : nD y pc .baload 1 p2 o) (hat : nAt h a = some (nAz n f)) (hi : nIx i n j) (kk : nG y κ cu su p2 ls (.int (f j) :: st) h) : nG y κ cu su pc ls (.int i :: .ref a :: st) h := by
  intro p l e s m args below meth cd H locs lsA C R L F
  obtain ⟨hdg, rfl, -⟩ := hd
  obtain ⟨hi, rfl⟩ := hi
  obtain ⟨cA, h1, h2, h3⟩ := R.2 a _ hat
  have hlt : i.toNatClampNeg < n := Nat.not_le.mp fun q => hi (Or.inr q)
  exact W.zald (v := .int (f i.toNatClampNeg)) C.1 C.2.1 h1 (h2 n (fun j => .int (f j))) (fun q => by cases q) (by show ¬ (i < 0 ∨ (arrV _ _ _).slots.size ≤ _); rw [arrV_size]; exact hi) (by show (arrV _ _ _).slots[_]? = _; rw [arrV_read _ _ hlt]) rfl rfl hdg (kk p l e s m args below meth cd H locs lsA C R L F)
theorem x_laload {a n j : Nat} {f : Nat → Int64} {i : Int32} (hd : nD y pc .laload 1 p2 o) (hat : nAt h a = some (nAl n f)) (hi : nIx i n j) (kk : nG y κ cu su p2 ls (.long (f j) :: st) h) : nG y κ cu su pc ls (.int i :: .ref a :: st) h := by
  intro p l e s m args below meth cd H locs lsA C R L F
  obtain ⟨hdg, rfl, -⟩ := hd
  obtain ⟨hi, rfl⟩ := hi
  obtain ⟨cA, h1, h2, h3⟩ := R.2 a _ hat
  have hlt : i.toNatClampNeg < n := Nat.not_le.mp fun q => hi (Or.inr q)
  exact W.lald (v := .long (f i.toNatClampNeg)) C.1 C.2.1 h1 (h2 n (fun j => .long (f j))) (fun q => by cases q) (by show ¬ (i < 0 ∨ (arrV _ _ _).slots.size ≤ _); rw [arrV_size]; exact hi) (by show (arrV _ _ _).slots[_]? = _; rw [arrV_read _ _ hlt]) rfl rfl hdg (kk p l e s m args below meth cd H locs lsA C R L F)
theorem x_aaloadV {a n j : Nat} {ty : FieldType} {f : Nat → Option Nat} {i : Int32} (hd : nD y pc .aaload 1 p2 o) (hat : nAt h a = some (nAr ty n f)) (hty : ty.isReference = true) (hi : nIx i n j) (kk : nG y κ cu su p2 ls (va_rf (f j) :: st) h) : nG y κ cu su pc ls (.int i :: .ref a :: st) h := by
  intro p l e s m args below meth cd H locs lsA C R L F
  obtain ⟨hdg, rfl, -⟩ := hd
  obtain ⟨hi, rfl⟩ := hi
  obtain ⟨cA, h1, h2, h3⟩ := R.2 a _ hat
  have hlt : i.toNatClampNeg < n := Nat.not_le.mp fun q => hi (Or.inr q)
  exact W.aald (v := va_rf (f i.toNatClampNeg)) (ty := ty) C.1 C.2.1 h1 (h2 n (fun j => va_rf (f j))) hty (fun q => by cases q) (by show ¬ (i < 0 ∨ (arrV _ _ _).slots.size ≤ _); rw [arrV_size]; exact hi) (by show (arrV _ _ _).slots[_]? = _; rw [arrV_read _ _ hlt]) rfl rfl hdg (kk p l e s m args below meth cd H locs lsA C R L F)
theorem x_aaload {a n j b : Nat} {ty : FieldType} {f : Nat → Option Nat} {i : Int32} (hd : nD y pc .aaload 1 p2 o) (hat : nAt h a = some (nAr ty n f)) (hty : ty.isReference = true) (hi : nIx i n j) (hf : f j = some b) (kk : nG y κ cu su p2 ls (.ref b :: st) h) : nG y κ cu su pc ls (.int i :: .ref a :: st) h :=
  x_aaloadV hd hat hty hi (by rw [hf]; exact kk)
theorem nLoc {a i B : Nat} {locs : List Loc} (F : ∀ q ∈ locs, B ≤ q.base) (hB : B ≤ a) : ∀ q ∈ locs ++ [(⟨a, i⟩ : Loc)], B ≤ q.base := fun z hz => by
  rcases List.mem_append.mp hz with hz | hz
  · exact F z hz
  · rw [List.mem_singleton.mp hz]
    exact hB
theorem x_iastore {a n j : Nat} {f : Nat → Int32} {i x : Int32} (hd : nD y pc .iastore 1 p2 o) (hat : nAt h a = some (nAi n f)) (hi : nIx i n j) (hB : h.2.1 ≤ a) (kk : nG y κ cu su p2 ls st (nSt h a (nAi n (nUp f j x)))) : nG y κ cu su pc ls (.int x :: .int i :: .ref a :: st) h := by
  intro p l e s m args below meth cd H locs lsA C R L F
  obtain ⟨hdg, rfl, -⟩ := hd
  obtain ⟨hi, rfl⟩ := hi
  obtain ⟨cA, h1, h2, h3⟩ := R.2 a _ hat
  refine W.iast C.1 C.2.1 h1 (h2 n (fun j => .int (f j))) (fun q => by cases q) (by show ¬ (i < 0 ∨ (arrV _ _ _).slots.size ≤ _); rw [arrV_size]; exact hi) rfl rfl hdg fun H1 e1 z oq => ?_
  refine kk p l e s m args below meth cd H1 _ lsA C (nRep_st R z oq ⟨cA, ?_, h2, h3⟩) L (nLoc F hB)
  rw [e1, vp_cell_i, vp_cell_i, arrV_store]
  congr 2
  funext q
  by_cases hq : q = i.toNatClampNeg <;> simp [updV, nUp, hq]
theorem x_bastore {a n j : Nat} {f : Nat → Int32} {i x z : Int32} (hd : nD y pc .bastore 1 p2 o) (hat : nAt h a = some (nAz n f)) (hi : nIx i n j) (hz : narrow .boolean (.int x) = .int z) (hB : h.2.1 ≤ a) (kk : nG y κ cu su p2 ls st (nSt h a (nAz n (nUp f j z)))) : nG y κ cu su pc ls (.int x :: .int i :: .ref a :: st) h := by
  intro p l e s m args below meth cd H locs lsA C R L F
  obtain ⟨hdg, rfl, -⟩ := hd
  obtain ⟨hi, rfl⟩ := hi
  obtain ⟨cA, h1, h2, h3⟩ := R.2 a _ hat
  refine W.zast C.1 C.2.1 h1 (h2 n (fun j => .int (f j))) (fun q => by cases q) (by show ¬ (i < 0 ∨ (arrV _ _ _).slots.size ≤ _); rw [arrV_size]; exact hi) rfl rfl hdg fun H1 e1 zz oq => ?_
  refine kk p l e s m args below meth cd H1 _ lsA C (nRep_st R zz oq ⟨cA, ?_, h2, h3⟩) L (nLoc F hB)
  rw [e1, hz, vp_cell_i, vp_cell_i, arrV_store]
  congr 2
  funext q
  by_cases hq : q = i.toNatClampNeg <;> simp [updV, nUp, hq]
theorem x_lastore {a n j : Nat} {f : Nat → Int64} {i : Int32} {x : Int64} (hd : nD y pc .lastore 1 p2 o) (hat : nAt h a = some (nAl n f)) (hi : nIx i n j) (hB : h.2.1 ≤ a) (kk : nG y κ cu su p2 ls st (nSt h a (nAl n (nUp f j x)))) : nG y κ cu su pc ls (.long x :: .int i :: .ref a :: st) h := by
  intro p l e s m args below meth cd H locs lsA C R L F
  obtain ⟨hdg, rfl, -⟩ := hd
  obtain ⟨hi, rfl⟩ := hi
  obtain ⟨cA, h1, h2, h3⟩ := R.2 a _ hat
  refine W.last C.1 C.2.1 h1 (h2 n (fun j => .long (f j))) (fun q => by cases q) (by show ¬ (i < 0 ∨ (arrV _ _ _).slots.size ≤ _); rw [arrV_size]; exact hi) rfl rfl hdg fun H1 e1 z oq => ?_
  refine kk p l e s m args below meth cd H1 _ lsA C (nRep_st R z oq ⟨cA, ?_, h2, h3⟩) L (nLoc F hB)
  rw [e1, vp_cell_l, vp_cell_l, arrV_store]
  congr 2
  funext q
  by_cases hq : q = i.toNatClampNeg <;> simp [updV, nUp, hq]
theorem x_aastore {a n j v ci : Nat} {r : vw_C} {vs : List Value} {f : Nat → Option Nat} {i : Int32} (hd : nD y pc .aastore 1 p2 o) (hc : vwCl[ci]? = some r) (hat : nAt h a = some (nAr (.object r.1) n f)) (hv : nAt h v = some (nOb ci vs)) (hi : nIx i n j) (hB : h.2.1 ≤ a) (kk : nG y κ cu su p2 ls st (nSt h a (nAr (.object r.1) n (nUp f j (some v))))) : nG y κ cu su pc ls (.ref v :: .int i :: .ref a :: st) h := by
  intro p l e s m args below meth cd H locs lsA C R L F
  obtain ⟨hdg, rfl, -⟩ := hd
  obtain ⟨hi, rfl⟩ := hi
  obtain ⟨cA, h1, h2, h3⟩ := R.2 a _ hat
  have hlt : i.toNatClampNeg < n := Nat.not_le.mp fun q => hi (Or.inr q)
  have h0 : ¬ i < 0 := fun q => hi (Or.inl q)
  obtain ⟨r', hr', cellV, g1, g2, g3, -⟩ := R.2 v _ hv
  have hcls := (C.2.2.2.2.2.2.2.2.1.1 ci r hc).2
  obtain ⟨kA, comp, k1, k2, k3, -⟩ := id h3
  have hcomp : comp = h.1.1 ci := Option.some.inj (k3.symm.trans hcls.1)
  subst hcomp
  obtain ⟨kC, hkC, -⟩ := hcls.2
  refine W.aast C.1 C.2.1 h1 (fun q h => by cases h) (fun h => by cases h) k1 k2 rfl hkC ⟨h0, by show _ < (arrV _ _ _).slots.size; rw [arrV_size]; exact hlt⟩ g1 (fun q h => by rw [g3] at h; cases h) (by rw [g2]; exact hkC) (by rw [g2]; exact va_assign hcls) rfl rfl hdg fun H1 e1 z oq => ?_
  refine kk p l e s m args below meth cd H1 _ lsA C (nRep_st R z oq ⟨cA, ?_, h2, h3⟩) L (nLoc F hB)
  rw [e1, vp_cell_q, vp_cell_q, arrV_store]
  congr 2
  funext q
  by_cases hq : q = i.toNatClampNeg <;> simp [updV, nUp, hq, va_rf]
theorem x_sld {a n j : Nat} {f : Nat → Int32} {i : Int32} (hd : nD y pc .iaload 1 p2 o) (hat : nAt h a = some (.inr (.inr (n, f)))) (hi : nIx i n j) (kk : nG y κ cu su p2 ls (.int (f j) :: st) h) : nG y κ cu su pc ls (.int i :: .ref a :: st) h := by
  intro p l e s m args below meth cd H locs lsA C R L F
  obtain ⟨hdg, rfl, -⟩ := hd
  obtain ⟨hi, rfl⟩ := hi
  obtain ⟨scr, h1, h2, h3, h4, h5⟩ := R.2 a _ hat
  have hlt : i.toNatClampNeg < n := Nat.not_le.mp fun q => hi (Or.inr q)
  exact W.iald (v := .int (f i.toNatClampNeg)) C.1 C.2.1 h1 h2 h3 (by rw [h4]; exact hi) (h5 _ hlt) rfl rfl hdg (kk p l e s m args below meth cd H locs lsA C R L F)
theorem x_slen {a n : Nat} {f : Nat → Int32} (hd : nD y pc .arraylength 1 p2 o) (hat : nAt h a = some (.inr (.inr (n, f)))) (kk : nG y κ cu su p2 ls (.int (nI n) :: st) h) : nG y κ cu su pc ls (.ref a :: st) h := by
  intro p l e s m args below meth cd H locs lsA C R L F
  obtain ⟨hdg, rfl, -⟩ := hd
  obtain ⟨scr, h1, h2, h3, h4, h5⟩ := R.2 a _ hat
  exact W.alen (n := nI n) C.1 C.2.1 h1 h2 (by rw [h4]; rfl) rfl rfl hdg (kk p l e s m args below meth cd H locs lsA C R L F)
end NH
