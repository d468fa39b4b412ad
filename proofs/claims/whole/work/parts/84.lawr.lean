/-! the law: its rows, each of its calls -/
def R_law : String := "NetLoftLaw"
def lw_P (b : Addr) (xs : List Int32) (args : Array Value) (s : State) : Prop := args = #[.ref b] ∧ s.IntsAt b xs ∧ xs.length ≤ 3072 ∧ (Jvm.Cond.and given_1 narrow_1).before args s = true
def lw_Q (_ : Array Value) (s : State) (o : Outcome) (t : State) : Prop := o = .returned (some (.int 1)) ∧ Framed s o t [] 600000 7302250
def lw_Z (below : List Frame) (a : Array Value) (s : State) : State → Prop := fun t => ∃ o, t.status = .running ∧ Ended t below o ∧ lw_Q a s o t
/-- the law's own end, with 1 on the stack, nothing written that was there before, its room as the claim has it -/
theorem lw_ret {p : Program} {l : Launch} {e : Env} {s : State} {m : MethodId} {below : List Frame} {meth : Method} {c : Code} {b : Nat} (hx : p.tables.exec = Jvm.exec) (hb : c.code = code) (hr : meth.sig.returnType = ret) (hlocks : meth.locks = false) {pc : Nat} {H : Heap} {ls : Array Slot} (hdg : decode code pc = .ok (.ireturn, 1)) : W p l e room_1 s m #[Value.ref b] below meth c H [] 600000 7302250 (lw_Z below #[Value.ref b] s) (F0 m pc ls [.int 1]) := by
  intro T hT X
  obtain ⟨fs, hret, hrun, hended, hW, hframe⟩ := X.leave (v := some (.int 1)) (hlocks := hlocks) (fun h => by rw [hr] at h; cases h)
  have hmeth' : T.vm.method? m = some meth := X.method'
  refine ⟨T.setFrames fs, ?_, .returned (some (.int 1)), hrun, hended, rfl, ⟨_, rfl⟩, hW, hframe⟩
  jvm_step X.here [X.here.top, hx, hb, hdg, hmeth', hr, ret, narrow_b1]
  (try refine ⟨rfl, ?_⟩); (try refine ⟨rfl, ?_⟩)
  first | (intro acts; rw [hret _ acts rfl rfl rfl]) | rw [hret _ _ rfl rfl rfl]
  exact Steps.refl _
def hyL (sc L : Nat) (xs : Nat → Int32) (B : Nat) (args : Array Value) (s : State) : Prop := args = #[Value.ref sc] ∧ s.heap.size = B ∧ va_X sc L xs s s.heap ∧ sc < s.heap.size
def κL (sc L : Nat) (xs : Nat → Int32) (B : Nat) : nKp := (room_1, fun below args s t => hyL sc L xs B args s → lw_Z below args s t)
/-- a cell of the start is as it was -/
theorem stand_old {p : Program} {l : Launch} {e : Env} {R : Room} {s : State} {m : MethodId} {args : Array Value} {below : List Frame} {meth : Method} {c : Code} {T : State} {locs : List Loc} {cells slots : Nat} (X : Stand p l e R s m args below meth c T locs cells slots) {a : Addr} {cell : Cell} (h1 : s.heap[a]? = some cell) (hl : ∀ q ∈ locs, s.heap.size ≤ q.base) (ha : a < s.heap.size) : T.heap[a]? = some cell := by
  obtain ⟨-, -, -, -, -, hh⟩ := X.same
  obtain ⟨c2, g1, g2, g3, g4⟩ := hh a cell h1
  have e : c2.slots = cell.slots := Array.ext_getElem? (fun i => g4 i (fun hm => by
    have := hl _ hm
    exact absurd ha (Nat.not_lt.mpr this)))
  rw [e] at g2
  have e2 : c2 = cell := g2
  rw [← e2]
  exact g1
section LAW
variable {sc L B cu su pc p2 o : Nat} {xs : Nat → Int32} {ls : List (Option Value)} {st : List Value} {h : nPH}
theorem hyL_no {p : Program} {l : Launch} {e : Env} {s : State} {m : MethodId} {args : Array Value} {below : List Frame} {meth : Method} {c : Code} {H : Heap} {locs : List Loc} {g : JFrame} (hn : ¬ hyL sc L xs B args s) : W p l e (κL sc L xs B).1 s m args below meth c H locs cu su ((κL sc L xs B).2 below args s) g := fun T _ _ => ⟨T.setTop g, Steps.refl _, fun z => absurd z hn⟩
theorem x_lsld {j : Nat} {i : Int32} (hd : nD YL_law pc .iaload 1 p2 o) (hB : h.2.1 = B) (hi : nIx i L j) (kk : nG YL_law (κL sc L xs B) cu su p2 ls (.int (xs j) :: st) h) : nG YL_law (κL sc L xs B) cu su pc ls (.int i :: .ref sc :: st) h := by
  intro p l e s m args below meth cd H locs lsA C R Ls F
  obtain ⟨hdg, rfl, -⟩ := hd
  by_cases hy : hyL sc L xs B args s
  · obtain ⟨-, e2, ⟨scr, h1, h2, h3, h4, h5⟩, e4⟩ := id hy
    obtain ⟨hi, rfl⟩ := hi
    have hlt : i.toNatClampNeg < L := Nat.not_le.mp fun q => hi (Or.inr q)
    have K : H[sc]? = some scr → W p l e (κL sc L xs B).1 s m args below meth cd H locs cu su ((κL sc L xs B).2 below args s) (F0 m pc lsA (.int i :: .ref sc :: st)) := fun g1 => W.iald (v := .int (xs i.toNatClampNeg)) C.1 C.2.1 g1 h2 h3 (by rw [h4]; exact hi) (h5 _ hlt) rfl rfl hdg (kk p l e s m args below meth cd H locs lsA C R Ls F)
    exact fun T hT X => K (by rw [← hT]; exact stand_old X h1 (fun q hq => by have := F q hq; omega) e4) T hT X
  · exact hyL_no hy
theorem x_lslen (hd : nD YL_law pc .arraylength 1 p2 o) (hB : h.2.1 = B) (kk : nG YL_law (κL sc L xs B) cu su p2 ls (.int (nI L) :: st) h) : nG YL_law (κL sc L xs B) cu su pc ls (.ref sc :: st) h := by
  intro p l e s m args below meth cd H locs lsA C R Ls F
  obtain ⟨hdg, rfl, -⟩ := hd
  by_cases hy : hyL sc L xs B args s
  · obtain ⟨-, e2, ⟨scr, h1, h2, h3, h4, h5⟩, e4⟩ := id hy
    have K : H[sc]? = some scr → W p l e (κL sc L xs B).1 s m args below meth cd H locs cu su ((κL sc L xs B).2 below args s) (F0 m pc lsA (.ref sc :: st)) := fun g1 => W.alen (n := nI L) C.1 C.2.1 g1 h2 (by rw [h4]; rfl) rfl rfl hdg (kk p l e s m args below meth cd H locs lsA C R Ls F)
    exact fun T hT X => K (by rw [← hT]; exact stand_old X h1 (fun q hq => by have := F q hq; omega) e4) T hT X
  · exact hyL_no hy
theorem x_lret (hd : nD YL_law pc .ireturn 1 p2 o) (hB : h.2.1 = B) (hc : cu ≤ 600000) (hs : su ≤ 7302250) : nG YL_law (κL sc L xs B) cu su pc ls [.int (nI 1)] h := by
  intro p l e s m args below meth cd H locs lsA C R Ls F
  obtain ⟨hdg, -, -⟩ := hd
  by_cases hy : hyL sc L xs B args s
  · obtain ⟨e1, e2, -, e4⟩ := id hy
    subst e1
    refine va_forget (fun q hq => by have := F q hq; omega) (W.widen hc hs ?_)
    intro T hT X
    obtain ⟨t, a1, b1⟩ := lw_ret C.1 C.2.1 C.2.2.2.2.2.1 C.2.2.2.2.2.2.1 hdg T hT X
    exact ⟨t, a1, fun _ => b1⟩
  · exact hyL_no hy
end LAW
theorem lg_cmp_s (v : Int64) : lg_cmp v v = 0 := by
  unfold lg_cmp
  rw [if_neg (by rw [gt_iff_lt, Int64.lt_iff_toInt_lt]; omega), if_pos rfl]
theorem and31 (v : Int32) : ∃ j : Nat, j ≤ 31 ∧ v &&& nI 31 = nI j := by
  refine ⟨(v.toBitVec &&& (nI 31).toBitVec).toNat, ?_, ?_⟩
  · rw [BitVec.toNat_and]
    exact Nat.le_trans Nat.and_le_right (by decide)
  · refine Int32.toBitVec_inj.mp ?_
    rw [Int32.toBitVec_and]
    show _ = (Int32.ofNat _).toBitVec
    rw [Int32.toBitVec_ofNat', BitVec.ofNat_toNat, BitVec.setWidth_eq]
