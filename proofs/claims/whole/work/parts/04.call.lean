/-! THE PLAIN WORLD: what is made, calls, ends, and a method's contract out of its walk. -/
def nN (o idx c N : Nat) : Prop := ∃ q : vw_C, vwCl[c]? = some q ∧ q.2.2 = N ∧ Cond.classLink (cNm o) idx q.1 ∈ nWs ∧ Cond.instantiable q.1 N ∈ nWs ∧ Cond.initialized q.1 ∈ nWs
def nDf (c : Nat) (fs : List Value) : Prop := ∀ q : vw_C, vwCl[c]? = some q → ∃ ty : Nat → FieldType, (∀ k, k < q.2.2 → parseFieldDescriptor (q.2.1 k).2.2.1 = some (ty k)) ∧ ∀ j, j < q.2.2 → defaultValue (ty j) = vp_V fs j
def nMo (z : nM) (n : Nat) : Prop := Cond.code z.1 z.2.1 z.2.2.1 z.2.2.2.1 ∈ nWs ∧ Cond.initialized z.1.cls ∈ nWs ∧ (z.1.cls ≠ "java/lang/invoke/MethodHandle" ∧ z.1.cls ≠ "java/lang/invoke/VarHandle") ∧ (parseMethodDescriptor z.1.desc).map (fun d => d.parameters.length) = some n
def nLk (o idx : Nat) (z : nM) : Prop := Cond.methodLink (cNm o) idx z.1 ∈ nWs
def nLn (o idx : Nat) (z : nM) : Prop := (cNm o, idx, z.1, "NetLoft") ∈ nNL
def nVi (z : nM) : Prop := Cond.instanceMethod z.1 ∈ nWs ∧ Cond.selects z.1.cls z.1 z.1 ∈ nWs
def nSc (z : nM) : Prop := Cond.static z.1 ∈ nWs
def nIi (z : nM) : Prop := Cond.instanceMethod z.1 ∈ nWs ∧ z.1.name = "<init>"
abbrev nCe (z : nM) : Nat := z.2.2.2.2.2.2.1
abbrev nSl (z : nM) : Nat := z.2.2.2.2.2.2.2.1
/-- the room for a call: frames and words -/
def nRo (κ : nKp) (z : nM) : Prop := z.2.2.2.2.2.1 + 1 ≤ κ.1.frames ∧ 8 + (z.2.2.1 + 11) + z.2.2.2.2.2.2.2.2 ≤ κ.1.locals
theorem nWs_good {w : Cond} (h : w ∈ nWs) : (w.onTables && w.keeps) = true ∨ ∃ ty, w = .arrayClass ty := good_of_word (List.mem_filter.mp h).2
theorem nGood {z : nM} {n : Nat} (hm : nMo z n) : GoodIn nWs (nWy z) := fun w hw => by
  rcases List.mem_cons.mp hw with rfl | hw
  · exact ⟨hm.1, nWs_good hm.1⟩
  · exact ⟨hw, nWs_good hw⟩
section NX
variable {y : nM} {κ : nKp} {cu su pc p2 o : Nat} {ls : List (Option Value)} {st : List Value} {h : nPH}
theorem x_new (hco : ∀ c, nCo c) {idx c N : Nat} {fs : List Value} (hd : nD y pc (.new idx) 3 p2 o) (hn : nN o idx c N) (hdf : nDf c fs) (hc : cu + 1 ≤ κ.1.cells) (hs : su + N ≤ κ.1.slots) (kk : nG y κ (cu + 1) (su + N) p2 ls (.ref h.2.2.1 :: st) (nNw h (nOb c fs))) : nG y κ cu su pc ls st h := by
  intro p l e s m args below meth cd H locs lsA C R L F
  obtain ⟨hdg, rfl, rfl⟩ := hd
  obtain ⟨q, hq, rfl, w1, w2, w3⟩ := hn
  obtain ⟨ty, hty, hfs⟩ := hdf q hq
  have K := fun H2 => kk p l e s m args below meth cd H2 locs lsA C
  obtain ⟨hx, hb, hml, hown, hts, hr, hlk, hnm, hK⟩ := C
  have hKn := hK.1.1 c _ hq
  refine W.newcK hx hb hown (hts _ w1) (hts _ w2) (hts _ w3) rfl hdg hc hs hKn.2.1 rfl fun H1 kC hkC e1 z1 o1 => ?_
  have K2 := K H1 (nRep_nw R z1 o1 ⟨q, hq, (u_born ty hts (hco c q hq).1 hKn hkC e1 hty).to hfs⟩) L F
  rw [← R.1] at K2
  exact K2
theorem x_newa {idx N : Nat} {n : Int32} {at_ : ArrayType} {x : vp_A} (hd : nD y pc (.newarray at_) 2 p2 o) (hw : Cond.arrayClass (newarray.typeOf at_) ∈ nWs) (hn : ¬ n < 0) (hN : n.toNatClampNeg = N) (hb : N * componentBytes (newarray.typeOf at_) ≤ 536870912) (hx : ∀ cA : ClassId, vp_cell cA x = arrV cA N (fun _ => defaultValue (newarray.typeOf at_))) (hc : cu + 1 ≤ κ.1.cells) (hs : su + N ≤ κ.1.slots)
    (kk : nG y κ (cu + 1) (su + N) p2 ls (.ref h.2.2.1 :: st) (nNw h (.inl (newarray.typeOf at_, x)))) : nG y κ cu su pc ls (.int n :: st) h := by
  intro p l e s m args below meth cd H locs lsA C R L F
  obtain ⟨hdg, rfl, rfl⟩ := hd
  have K := fun H2 => kk p l e s m args below meth cd H2 locs lsA C
  refine va_newaK C.1 C.2.1 (C.2.2.2.2.1 _ hw) rfl hdg rfl hn hN hb hc hs rfl fun H1 cA e1 z1 o1 hAr hNm => ?_
  have K2 := K H1 (nRep_nw R z1 o1 ⟨cA, e1.trans (congrArg some (hx cA).symm), hAr, by cases at_ <;> exact hNm⟩) L F
  rw [← R.1] at K2
  exact K2
theorem x_newaI {N : Nat} {n : Int32} (hd : nD y pc (.newarray .int) 2 p2 o) (hw : Cond.arrayClass .int ∈ nWs) (hn : ¬ n < 0) (hN : n.toNatClampNeg = N) (hb : N * 4 ≤ 536870912) (hc : cu + 1 ≤ κ.1.cells) (hs : su + N ≤ κ.1.slots) (kk : nG y κ (cu + 1) (su + N) p2 ls (.ref h.2.2.1 :: st) (nNw h (nAi N (fun _ => 0)))) : nG y κ cu su pc ls (.int n :: st) h :=
  x_newa (idx := 0) (x := (N, .inl (fun _ => 0))) hd hw hn hN hb (fun _ => rfl) hc hs kk
theorem x_newaZ {N : Nat} {n : Int32} (hd : nD y pc (.newarray .boolean) 2 p2 o) (hw : Cond.arrayClass .boolean ∈ nWs) (hn : ¬ n < 0) (hN : n.toNatClampNeg = N) (hb : N * 1 ≤ 536870912) (hc : cu + 1 ≤ κ.1.cells) (hs : su + N ≤ κ.1.slots) (kk : nG y κ (cu + 1) (su + N) p2 ls (.ref h.2.2.1 :: st) (nNw h (nAz N (fun _ => 0)))) : nG y κ cu su pc ls (.int n :: st) h :=
  x_newa (idx := 0) (x := (N, .inl (fun _ => 0))) hd hw hn hN hb (fun _ => rfl) hc hs kk
theorem x_newaL {N : Nat} {n : Int32} (hd : nD y pc (.newarray .long) 2 p2 o) (hw : Cond.arrayClass .long ∈ nWs) (hn : ¬ n < 0) (hN : n.toNatClampNeg = N) (hb : N * 8 ≤ 536870912) (hc : cu + 1 ≤ κ.1.cells) (hs : su + N ≤ κ.1.slots) (kk : nG y κ (cu + 1) (su + N) p2 ls (.ref h.2.2.1 :: st) (nNw h (nAl N (fun _ => 0)))) : nG y κ cu su pc ls (.int n :: st) h :=
  x_newa (idx := 0) (x := (N, .inr (.inl (fun _ => 0)))) hd hw hn hN hb (fun _ => rfl) hc hs kk
theorem x_newq {idx N : Nat} {n : Int32} {Cn : String} (hd : nD y pc (.anewarray idx) 3 p2 o) (hw : Cond.classLink (cNm o) idx Cn ∈ nWs) (ho : Cn = "NetLoft$Panel" ∨ Cn = "NetLoft$Row") (hn : ¬ n < 0) (hN : n.toNatClampNeg = N) (hb : N * 4 ≤ 536870912) (hc : cu + 1 ≤ κ.1.cells) (hs : su + N ≤ κ.1.slots) (kk : nG y κ (cu + 1) (su + N) p2 ls (.ref h.2.2.1 :: st) (nNw h (nAr (.object Cn) N (fun _ => none)))) : nG y κ cu su pc ls (.int n :: st) h := by
  intro p l e s m args below meth cd H locs lsA C R L F
  obtain ⟨hdg, rfl, rfl⟩ := hd
  subst hN
  have K := fun H2 => kk p l e s m args below meth cd H2 locs lsA C
  have hov : va_AO Cn s := by
    rcases ho with rfl | rfl
    · exact C.2.2.2.2.2.2.2.2.2.2.1
    · exact C.2.2.2.2.2.2.2.2.2.2.2.1
  refine W.anew C.1 C.2.1 C.2.2.2.1 (C.2.2.2.2.1 _ hw) (va_AO.use hov) rfl hdg rfl hn hb hc hs fun cA kA comp f1 f2 f3 f4 => ?_
  generalize hH1 : H.push ({ cls := cA, slots := Array.replicate n.toNatClampNeg .null, vm := .none } : Cell) = H1
  have z1 : H1.size = H.size + 1 := by rw [← hH1, Array.size_push]
  have e1 : H1[H.size]? = some (arrV cA n.toNatClampNeg (fun _ => .null)) := by rw [← hH1, Array.getElem?_push_size, ← arrV_new]
  have o1 : ∀ q : Nat, q < H.size → H1[q]? = H[q]? := fun q hq => by rw [← hH1, Array.getElem?_push, if_neg (Nat.ne_of_lt hq)]
  have hAr : ArrOfT s cA (.object Cn) := fun N z => ⟨(fun k h => by cases h), kA, f2, comp, f3⟩
  have K2 := K H1 (nRep_nw R z1 o1 ⟨cA, e1, hAr, kA, comp, f2, f3, f4, f1⟩) L F
  rw [← R.1] at K2
  exact K2
theorem nAfter {mc ms : Nat} {st0 rest : List Value} {Post : Option Value → nPH → Prop} {p : Program} {l : Launch} {e : Env} {s : State} {m : MethodId} {args : Array Value} {below : List Frame} {meth : Method} {cd : Code} {H : Heap} {locs : List Loc} {lsA : Array Slot} {aa : Array Value}
    (C : nCx y h.1 p s m args meth cd) (L : nLs lsA y.2.2.1 ls) (F : ∀ q ∈ locs, h.2.1 ≤ q.base)
    (hr : va_Run p l e κ.1 s m args below meth cd H locs cu su mc ms (F0 m pc lsA st0) rest (nQc h.1 h.2.1 Post aa) (fun q => h.2.1 ≤ q))
    (kk : ∀ (v : Option Value) (h2 : nPH), Post v h2 → h2.1 = h.1 → h2.2.1 = h.2.1 → nG y κ (cu + mc) (su + ms) (pc + 3) ls (v.toList ++ rest) h2) : W p l e κ.1 s m args below meth cd H locs cu su (κ.2 below args s) (F0 m pc lsA st0) := by
  intro T hT X
  obtain ⟨v, st₀, t, T', L2, h0, X', hL, e1, e2, ⟨v', h2, hv, hpost, hd1, hb1, hrep⟩, stp⟩ := hr T hT X
  cases hv
  have hal : s.vm.Alike t.vm := by rw [← e2]; exact X'.warmed.alike
  obtain ⟨t2, a1, b1⟩ := kk v h2 hpost hd1 hb1 p l e s m args below meth cd T'.heap (locs ++ L2) lsA (by rw [hd1]; exact C) (by rw [e1]; exact hrep.moved hal.symm) L (fun q hq => by
    rw [hb1]
    rcases List.mem_append.mp hq with hq | hq
    · exact F q hq
    · exact hL q hq) T' rfl X'
  exact ⟨t2, stp t2 a1, b1⟩
theorem nCallB {z : nM} {n idx : Nat} {p : Program} {s : State} {m : MethodId} {args : Array Value} {meth : Method} {cd : Code} (hl : nLk y.2.2.2.2.1 idx z) (hm : nMo z n) (hro : nRo κ z) (C : nCx y h.1 p s m args meth cd) : CallB κ.1 s args (cNm y.2.2.2.2.1) idx z.1 z.2.1 z.2.2.1 z.2.2.2.1 (nWy z) (nRm z) (nCe z) (nSl z) n :=
  callB_of n C.2.2.2.2.1 (nGood hm) rfl rfl rfl (C.2.2.2.2.1 _ hm.2.1) (C.2.2.2.2.1 _ hl) ⟨hm.2.2.1.1, hm.2.2.1.2, hm.2.2.2⟩ hro
theorem nPreS {z : nM} {av : List Value} {Post : Option Value → nPH → Prop} {p : Program} {s : State} {m : MethodId} {args : Array Value} {meth : Method} {cd : Code} {H : Heap} (C : nCx y h.1 p s m args meth cd) (R : nRep h s H) : PreS s H (nPc h av) av :=
  ⟨nPc_blind h av, fun U hU hW => ⟨rfl, by rw [hU]; exact R.moved hW.alike, nK.moved hW C.2.2.2.2.2.2.2.2⟩⟩
theorem x_callV {z : nM} {idx n c b : Nat} {As rest st0 fs : List Value} {Post : Option Value → nPH → Prop} (hd : nD y pc (.invokevirtual idx) 3 p2 o) (hl : nLk o idx z) (hm : nMo z n) (hv : nVi z) (hz : nSp z (.ref b :: As) h Post) (hat : nAt h b = some (nOb c fs)) (hcn : ∃ q : vw_C, vwCl[c]? = some q ∧ q.1 = z.1.cls) (hn : As.length = n) (hro : nRo κ z) (hrc : cu + nCe z ≤ κ.1.cells) (hrs : su + nSl z ≤ κ.1.slots) (hw : (rest.map fun v => v.category).sum ≤ 8) (hst : As.reverse ++ .ref b :: rest = st0)
    (kk : ∀ (v : Option Value) (h2 : nPH), Post v h2 → h2.1 = h.1 → h2.2.1 = h.2.1 → nG y κ (cu + nCe z) (su + nSl z) p2 ls (v.toList ++ rest) h2) : nG y κ cu su pc ls st0 h := by
  intro p l e s m args below meth cd H locs lsA C R L F
  obtain ⟨hdg, rfl, rfl⟩ := hd
  obtain ⟨q, hq, hqc⟩ := hcn
  subst hst
  refine nAfter C L F (va_runV (As := As) (rest := rest) ⟨C.1, C.2.1, C.2.2.1, C.2.2.2.1, C.2.2.2.2.1⟩ (hz l) ⟨nCallB hl hm hro C, C.2.2.2.2.1 _ hv.1, C.2.2.2.2.1 _ hv.2⟩ ⟨nPc_blind h _, ?_, (nPreS (z := z) (Post := Post) C R).2⟩ rfl hn L.1 rfl (lv_room hw) hdg ⟨hrc, hrs⟩) kk
  obtain ⟨r, h1, cell, g1, g2, g3, -⟩ := R.2 b _ hat
  refine ⟨cell, g1, by rw [g3]; rfl, ?_⟩
  rw [g2, ← hqc]
  exact (C.2.2.2.2.2.2.2.2.1.1 c q hq).2.1
theorem x_callS {z : nM} {idx n : Nat} {As rest st0 : List Value} {Post : Option Value → nPH → Prop} (hd : nD y pc (.invokestatic idx) 3 p2 o) (hl : nLk o idx z) (hm : nMo z n) (hv : nSc z) (hz : nSp z As h Post) (hn : As.length = n) (hro : nRo κ z) (hrc : cu + nCe z ≤ κ.1.cells) (hrs : su + nSl z ≤ κ.1.slots) (hw : (rest.map fun v => v.category).sum ≤ 8) (hst : As.reverse ++ rest = st0)
    (kk : ∀ (v : Option Value) (h2 : nPH), Post v h2 → h2.1 = h.1 → h2.2.1 = h.2.1 → nG y κ (cu + nCe z) (su + nSl z) p2 ls (v.toList ++ rest) h2) : nG y κ cu su pc ls st0 h := by
  intro p l e s m args below meth cd H locs lsA C R L F
  obtain ⟨hdg, rfl, rfl⟩ := hd
  subst hst
  exact nAfter C L F (va_runS (As := As) (rest := rest) ⟨C.1, C.2.1, C.2.2.1, C.2.2.2.1, C.2.2.2.2.1⟩ (hz l) ⟨nCallB hl hm hro C, C.2.2.2.2.1 _ hv⟩ (nPreS (z := z) (Post := Post) C R) rfl hn L.1 rfl (lv_room hw) hdg ⟨hrc, hrs⟩) kk
theorem x_callI {z : nM} {idx n b : Nat} {As rest st0 : List Value} {Post : Option Value → nPH → Prop} (hd : nD y pc (.invokespecial idx) 3 p2 o) (hl : nLk o idx z) (hm : nMo z n) (hv : nIi z) (hret : z.2.2.2.1 = none) (hz : nSp z (.ref b :: As) h Post) (hn : As.length = n) (hro : nRo κ z) (hrc : cu + nCe z ≤ κ.1.cells) (hrs : su + nSl z ≤ κ.1.slots) (hw : (rest.map fun v => v.category).sum ≤ 8) (hst : As.reverse ++ .ref b :: rest = st0)
    (kk : ∀ (v : Option Value) (h2 : nPH), Post v h2 → h2.1 = h.1 → h2.2.1 = h.2.1 → nG y κ (cu + nCe z) (su + nSl z) p2 ls (v.toList ++ rest) h2) : nG y κ cu su pc ls st0 h := by
  intro p l e s m args below meth cd H locs lsA C R L F
  obtain ⟨hdg, rfl, rfl⟩ := hd
  subst hst
  have cb := nCallB hl hm hro C
  rw [hret] at cb
  exact nAfter C L F (va_runI (As := As) (rest := rest) ⟨C.1, C.2.1, C.2.2.1, C.2.2.2.1, C.2.2.2.2.1⟩ (hz l) ⟨cb, hv.2, C.2.2.2.2.1 _ hv.1⟩ (nPreS (z := z) (Post := Post) C R) rfl hn L.1 rfl (lv_room hw) hdg ⟨hrc, hrs⟩) kk
theorem x_callSN {z : nM} {idx n : Nat} {As rest st0 : List Value} {Post : Option Value → nPH → Prop} (hd : nD y pc (.invokestatic idx) 3 p2 o) (hl : nLn o idx z) (hm : nMo z n) (hv : nSc z) (hz : nSp z As h Post) (hn : As.length = n) (hro : nRo κ z) (hrc : cu + nCe z ≤ κ.1.cells) (hrs : su + nSl z ≤ κ.1.slots) (hw : (rest.map fun v => v.category).sum ≤ 8) (hst : As.reverse ++ rest = st0)
    (kk : ∀ (v : Option Value) (h2 : nPH), Post v h2 → h2.1 = h.1 → h2.2.1 = h.2.1 → nG y κ (cu + nCe z) (su + nSl z) p2 ls (v.toList ++ rest) h2) : nG y κ cu su pc ls st0 h := by
  intro p l e s m args below meth cd H locs lsA C R L F
  obtain ⟨hdg, rfl, rfl⟩ := hd
  subst hst
  have hN := C.2.2.2.2.2.2.2.2.2.1 _ hl
  exact nAfter C L F (va_runSN (As := As) (rest := rest) ⟨C.1, C.2.1, C.2.2.1, C.2.2.2.1, C.2.2.2.2.1⟩ (hz l) ⟨va_cnB n C.2.2.2.2.1 (nGood hm) rfl rfl rfl hN (C.2.2.2.2.1 _ hm.2.1) ⟨hm.2.2.1.1, hm.2.2.1.2, hm.2.2.2⟩ hro, C.2.2.2.2.1 _ hv, trivial⟩ (nPreS (z := z) (Post := Post) C R) rfl hn L.1 rfl (lv_room hw) hdg ⟨hrc, hrs⟩) kk
theorem x_callIN {z : nM} {idx n b : Nat} {As rest st0 : List Value} {Post : Option Value → nPH → Prop} (hd : nD y pc (.invokespecial idx) 3 p2 o) (hl : nLn o idx z) (hm : nMo z n) (hv : nIi z) (hret : z.2.2.2.1 = none) (hz : nSp z (.ref b :: As) h Post) (hn : As.length = n) (hro : nRo κ z) (hrc : cu + nCe z ≤ κ.1.cells) (hrs : su + nSl z ≤ κ.1.slots) (hw : (rest.map fun v => v.category).sum ≤ 8) (hst : As.reverse ++ .ref b :: rest = st0)
    (kk : ∀ (v : Option Value) (h2 : nPH), Post v h2 → h2.1 = h.1 → h2.2.1 = h.2.1 → nG y κ (cu + nCe z) (su + nSl z) p2 ls (v.toList ++ rest) h2) : nG y κ cu su pc ls st0 h := by
  intro p l e s m args below meth cd H locs lsA C R L F
  obtain ⟨hdg, rfl, rfl⟩ := hd
  subst hst
  have hN := C.2.2.2.2.2.2.2.2.2.1 _ hl
  have cb : va_CN κ.1 s args (cNm y.2.2.2.2.1) idx z.1 "NetLoft" z.2.1 z.2.2.1 z.2.2.2.1 (nWy z) (nRm z) (nCe z) (nSl z) n := va_cnB n C.2.2.2.2.1 (nGood hm) rfl rfl rfl hN (C.2.2.2.2.1 _ hm.2.1) ⟨hm.2.2.1.1, hm.2.2.1.2, hm.2.2.2⟩ hro
  rw [hret] at cb
  exact nAfter C L F (va_runIN (As := As) (rest := rest) ⟨C.1, C.2.1, C.2.2.1, C.2.2.2.1, C.2.2.2.2.1⟩ (hz l) ⟨cb, hv.2, C.2.2.2.2.1 _ hv.1⟩ (nPreS (z := z) (Post := Post) C R) rfl hn L.1 rfl (lv_room hw) hdg ⟨hrc, hrs⟩) kk
theorem x_objI {idx a : Nat} (hob : Cond.instanceMethod Lib.objectInit ∈ nWs ∧ Cond.code Lib.objectInit ⟨#[0xb1]⟩ 1 none ∈ nWs) (hd : nD y pc (.invokespecial idx) 3 p2 o) (hl : Cond.methodLink (cNm o) idx Lib.objectInit ∈ nWs) (hf : 1 ≤ κ.1.frames) (hlo : (st.map fun v => v.category).sum + 12 ≤ κ.1.locals) (kk : nG y κ cu su p2 ls st h) : nG y κ cu su pc ls (.ref a :: st) h := by
  intro p l e s m args below meth cd H locs lsA C R L F
  obtain ⟨hdg, rfl, rfl⟩ := hd
  exact W.objInit C.1 C.2.1 C.2.2.2.1 (C.2.2.2.2.1 _ hl) (C.2.2.2.2.1 _ hob.1) (C.2.2.2.2.1 _ hob.2) rfl (by rw [C.2.2.1]; exact L.1) rfl hdg hf (by show 2 * 0 + _ + 12 ≤ _; omega) (kk p l e s m args below meth cd H locs lsA C R L F)
theorem x_ldc {idx : Nat} {v : Int32} (hd : nD y pc (.ldc idx) 2 p2 o) (hc : Cond.constant (cNm o) idx v ∈ nWs) (kk : nG y κ cu su p2 ls (.int v :: st) h) : nG y κ cu su pc ls st h := by
  intro p l e s m args below meth cd H locs lsA C R L F
  obtain ⟨hdg, rfl, rfl⟩ := hd
  exact lv_ldc C.1 C.2.1 C.2.2.2.1 (C.2.2.2.2.1 _ hc) hdg (kk p l e s m args below meth cd H locs lsA C R L F)
theorem x_ldcw {idx : Nat} {v : Int32} (hd : nD y pc (.ldc_w idx) 3 p2 o) (hc : Cond.constant (cNm o) idx v ∈ nWs) (kk : nG y κ cu su p2 ls (.int v :: st) h) : nG y κ cu su pc ls st h := by
  intro p l e s m args below meth cd H locs lsA C R L F
  obtain ⟨hdg, rfl, rfl⟩ := hd
  exact lv_ldcw C.1 C.2.1 C.2.2.2.1 (C.2.2.2.2.1 _ hc) hdg (kk p l e s m args below meth cd H locs lsA C R L F)
theorem x_ldc2 {idx : Nat} {v : Int64} (hd : nD y pc (.ldc2_w idx) 3 p2 o) (hc : Cond.constantLong (cNm o) idx v ∈ nWs) (kk : nG y κ cu su p2 ls (.long v :: st) h) : nG y κ cu su pc ls st h := by
  intro p l e s m args below meth cd H locs lsA C R L F
  obtain ⟨hdg, rfl, rfl⟩ := hd
  exact lv_ldc2 C.1 C.2.1 C.2.2.2.1 (C.2.2.2.2.1 _ hc) hdg (kk p l e s m args below meth cd H locs lsA C R L F)
theorem x_ireturn {D : va_G} {B : Nat} {Post : Option Value → nPH → Prop} {v : Int32} {ty : FieldType} (hd : nD y pc .ireturn 1 p2 o) (hr : y.2.2.2.1 = some ty) (hn : narrow ty (.int v) = .int v) (hD : h.1 = D) (hB : h.2.1 = B) (hc : cu ≤ nCe y) (hs : su ≤ nSl y) (hp : Post (some (.int v)) h) : nG y (nKy y D B Post) cu su pc ls [.int v] h := by
  intro p l e s m args below meth cd H locs lsA C R L F
  subst hD; subst hB
  refine W.widen hc hs ?_
  have hlk := C.2.2.2.2.2.2.1
  exact W.zret C.1 C.2.1 (C.2.2.2.2.2.1.trans hr) hn (fun t ht hW => ⟨_, h, rfl, hp, rfl, rfl, by rw [ht]; exact R.moved hW.alike⟩) F hd.1 (hlocks := hlk)
theorem x_lreturn {D : va_G} {B : Nat} {Post : Option Value → nPH → Prop} {v : Int64} (hd : nD y pc .lreturn 1 p2 o) (hr : y.2.2.2.1 = some .long) (hD : h.1 = D) (hB : h.2.1 = B) (hc : cu ≤ nCe y) (hs : su ≤ nSl y) (hp : Post (some (.long v)) h) : nG y (nKy y D B Post) cu su pc ls [.long v] h := by
  intro p l e s m args below meth cd H locs lsA C R L F
  subst hD; subst hB
  refine W.widen hc hs ?_
  have hlk := C.2.2.2.2.2.2.1
  exact W.lret C.1 C.2.1 (C.2.2.2.2.2.1.trans hr) (fun t ht hW => ⟨_, h, rfl, hp, rfl, rfl, by rw [ht]; exact R.moved hW.alike⟩) F hd.1 (hlocks := hlk)
theorem x_areturn {D : va_G} {B : Nat} {Post : Option Value → nPH → Prop} {v : Value} {rt : FieldType} (hd : nD y pc .areturn 1 p2 o) (hr : y.2.2.2.1 = some rt) (hrt : (∃ n, rt = .object n) ∨ ∃ t, rt = .array t) (hv : v = .null ∨ ∃ a, v = .ref a) (hD : h.1 = D) (hB : h.2.1 = B) (hc : cu ≤ nCe y) (hs : su ≤ nSl y) (hp : Post (some v) h) : nG y (nKy y D B Post) cu su pc ls [v] h := by
  intro p l e s m args below meth cd H locs lsA C R L F
  subst hD; subst hB
  refine W.widen hc hs ?_
  have hlk := C.2.2.2.2.2.2.1
  exact W.aret C.1 C.2.1 (C.2.2.2.2.2.1.trans hr) hrt hv (fun t ht hW => ⟨_, h, rfl, hp, rfl, rfl, by rw [ht]; exact R.moved hW.alike⟩) F hd.1 (hlocks := hlk)
theorem x_return {D : va_G} {B : Nat} {Post : Option Value → nPH → Prop} (hd : nD y pc .return_ 1 p2 o) (hr : y.2.2.2.1 = none) (hD : h.1 = D) (hB : h.2.1 = B) (hc : cu ≤ nCe y) (hs : su ≤ nSl y) (hp : Post none h) : nG y (nKy y D B Post) cu su pc ls [] h := by
  intro p l e s m args below meth cd H locs lsA C R L F
  subst hD; subst hB
  refine W.widen hc hs ?_
  have hlk := C.2.2.2.2.2.2.1
  exact W.vret C.1 C.2.1 (C.2.2.2.2.2.1.trans hr) (fun t ht hW => ⟨_, h, rfl, hp, rfl, rfl, by rw [ht]; exact R.moved hW.alike⟩) F hd.1 (hlocks := hlk)
end NX
def nEv : List Value → List (Option Value)
  | [] => []
  | v :: vs => if v.category = 2 then some v :: none :: nEv vs else some v :: nEv vs
theorem nEv_at : ∀ (vs : List Value) (n i j : Nat) (v : Value), (nEv vs ++ List.replicate n none)[i]? = some (some v) → (j + i, v) ∈ lv_args j vs
  | [], n, i, j, v, h => by
    simp [nEv, List.getElem?_replicate] at h
  | x :: vs, n, i, j, v, h => by
    unfold nEv at h
    unfold lv_args
    by_cases hc : x.category = 2
    · rw [if_pos hc] at h ⊢
      match i, h with
      | 0, h =>
        simp at h
        subst h
        exact List.mem_cons_self
      | 1, h => simp at h
      | i + 2, h =>
        have := nEv_at vs n i (j + 2) v (by simpa using h)
        rw [show j + (i + 2) = j + 2 + i by omega]
        exact List.mem_cons_of_mem _ this
    · rw [if_neg hc] at h ⊢
      match i, h with
      | 0, h =>
        simp at h
        subst h
        exact List.mem_cons_self
      | i + 1, h =>
        have := nEv_at vs n i (j + 1) v (by simpa using h)
        rw [show j + (i + 1) = j + 1 + i by omega]
        exact List.mem_cons_of_mem _ this
theorem nSp_of {y : nM} {av : List Value} {h : nPH} {Post : Option Value → nPH → Prop} {ls : List (Option Value)} (hpl : plainName y.1.cls = true) (hcn : cNm y.2.2.2.2.1 = y.1.cls) (hlen : (lg_sl av).length ≤ y.2.2.1) (hls : nSub ls (nEv av ++ List.replicate y.2.2.1 none)) (k : nG y (nKy y h.1 h.2.1 Post) 0 0 0 ls [] h) : nSp y av h Post := by
  intro l
  refine Met.ofW (cc := y.2.1) (maxL := y.2.2.1) (ret := y.2.2.2.1) hpl rfl ?_
  intro p e s m args below meth c s₁ B hml hv
  obtain ⟨rfl, hR, hK⟩ := hv
  have hts := atoms_spec (ws := nWy y) B.pre
  have he := lv_entry av (n := y.2.2.1) hlen
  rw [lg_entry_eq]
  refine k p l e s m _ below meth c s.heap [] _ ⟨B.exec, B.bytes, hml, by rw [hcn]; exact findClass_of_methodNamed B.named, fun w hw => hts w (List.mem_cons_of_mem _ hw), B.returns, B.notSynchronized, (name_of_methodNamed B.named B.method).1, hK⟩ hR ⟨he.1, he.2.1, fun i v hi => ?_⟩ (fun q hq => by cases hq)
  have h1 := nEv_at av _ i 0 v (nSub_at hls i v hi)
  rw [Nat.zero_add] at h1
  exact he.2.2 (i, v) h1
theorem nSp.mono {y : nM} {av : List Value} {h : nPH} {P Q : Option Value → nPH → Prop} (hs : nSp y av h P) (hPQ : ∀ v h2, P v h2 → Q v h2) : nSp y av h Q := by
  intro l p e ha hc hk s m args below hf happ hpre hkk
  obtain ⟨k, o, h1, h2, h3, ⟨⟨v, h4, g1, g2, g3⟩, hL⟩⟩ := hs l p e ha hc hk s m args below hf happ hpre hkk
  exact ⟨k, o, h1, h2, h3, ⟨⟨v, h4, g1, hPQ v h4 g2, g3⟩, hL⟩⟩
