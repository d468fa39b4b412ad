/-! what is made: an object with its cells right behind it -/
def nBld (h0 h : nPH) (a c : Nat) (fs : List Value) (cs : List nPC) : Prop := h.1 = h0.1 ∧ h.2.1 = h0.2.1 ∧ h.2.2.1 = a + 1 + cs.length ∧ nAt h a = some (nOb c fs) ∧ (∀ (i : Nat) (e : nPC), cs[i]? = some e → nAt h (a + 1 + i) = some e) ∧ (∀ q, q < a → nAt h q = nAt h0 q) ∧ nWF h ∧ h.2.1 ≤ a
theorem nBld.new {h0 h : nPH} {a c : Nat} {fs : List Value} {cs : List nPC} (B : nBld h0 h a c fs cs) (e : nPC) : nBld h0 (nNw h e) a c fs (cs ++ [e]) := by
  obtain ⟨b1, b2, b3, b4, b5, b6, b7, b8⟩ := B
  refine ⟨b1, b2, ?_, ?_, fun i x hx => ?_, fun q hq => ?_, ⟨?_, fun q hq => ?_⟩, b8⟩
  · show h.2.2.1 + 1 = _
    rw [b3, List.length_append]
    simp
    omega
  · rw [nAt_nn (by omega)]; exact b4
  · by_cases hi : i < cs.length
    · rw [List.getElem?_append_left hi] at hx
      rw [nAt_nn (by omega)]
      exact b5 i x hx
    · rw [List.getElem?_append_right (by omega)] at hx
      have hz : i - cs.length < 1 := (List.getElem?_eq_some_iff.mp hx).1
      rw [show i - cs.length = 0 by omega] at hx
      cases hx
      rw [show a + 1 + i = h.2.2.1 by omega]
      exact nAt_nw
  · rw [nAt_nn (by omega)]; exact b6 q hq
  · show h.2.1 ≤ h.2.2.1 + 1
    have := b7.1
    omega
  · have hq2 : h.2.2.1 + 1 ≤ q := hq
    rw [nAt_nn (by omega)]
    exact b7.2 q (by omega)
theorem nBld.put {h0 h : nPH} {a c : Nat} {fs : List Value} {cs : List nPC} (B : nBld h0 h a c fs cs) (fs2 : List Value) : nBld h0 (nSt h a (nOb c fs2)) a c fs2 cs := by
  obtain ⟨b1, b2, b3, b4, b5, b6, b7, b8⟩ := B
  refine ⟨b1, b2, b3, nAt_eq, fun i x hx => ?_, fun q hq => ?_, ⟨b7.1, fun q hq => ?_⟩, b8⟩
  · rw [nAt_ne (by omega)]; exact b5 i x hx
  · rw [nAt_ne (by omega)]; exact b6 q hq
  · have hq2 : h.2.2.1 ≤ q := hq
    rw [nAt_ne (by omega)]
    exact b7.2 q hq
theorem nBld.o {h0 h : nPH} {a c : Nat} {fs : List Value} {cs : List nPC} (B : nBld h0 h a c fs cs) : nAt h a = some (nOb c fs) := B.2.2.2.1
theorem nBld.at {h0 h : nPH} {a c : Nat} {fs : List Value} {cs : List nPC} (B : nBld h0 h a c fs cs) (i : Nat) {e : nPC} (hi : cs[i]? = some e) : nAt h (a + 1 + i) = some e := B.2.2.2.2.1 i e hi
theorem nBld.b {h0 h : nPH} {a c : Nat} {fs : List Value} {cs : List nPC} (B : nBld h0 h a c fs cs) : h.2.1 ≤ a := B.2.2.2.2.2.2.2
/-- h2 is h with n cells more from a on -/
def nMk (h h2 : nPH) (a n : Nat) : Prop := h2.1 = h.1 ∧ h2.2.1 = h.2.1 ∧ h2.2.2.1 = a + n ∧ (∀ q, q < a → nAt h2 q = nAt h q) ∧ nWF h2
theorem nBld.mk {h0 h : nPH} {a c : Nat} {fs : List Value} {cs : List nPC} (B : nBld h0 h a c fs cs) : nMk h0 h a (1 + cs.length) := ⟨B.1, B.2.1, by rw [B.2.2.1]; omega, B.2.2.2.2.2.1, B.2.2.2.2.2.2.1⟩
theorem nMk.fr {h h2 h3 : nPH} {a n : Nat} (M : nMk h h2 a n) (F : nFr (nIv a n) h2 h3) : nMk h h3 a n := ⟨F.1.trans M.1, F.2.1.trans M.2.1, F.2.2.1.trans M.2.2.1, fun q hq => (F.2.2.2.2 q (fun z => by have := z.1; omega)).trans (M.2.2.2.1 q hq), F.2.2.2.1 M.2.2.2.2⟩
/-- right behind 'new' -/
theorem nBld_new {h : nPH} (hw : nWF h) (c : Nat) (fs : List Value) : nBld (nNw h (nOb c fs)) (nNw h (nOb c fs)) h.2.2.1 c fs [] :=
  ⟨rfl, rfl, rfl, nAt_nw, fun i e hi => by simp at hi, fun _ _ => rfl, ⟨Nat.le_succ_of_le hw.1, fun q hq => by
    have hq2 : h.2.2.1 + 1 ≤ q := hq
    rw [nAt_nn (by omega)]; exact hw.2 q (by omega)⟩, hw.1⟩
theorem nMk_new {h h2 : nPH} {c n : Nat} {fs : List Value} (M : nMk (nNw h (nOb c fs)) h2 h.2.2.1 n) : nMk h h2 h.2.2.1 n := ⟨M.1, M.2.1, M.2.2.1, fun q hq => (M.2.2.2.1 q hq).trans (nAt_nn (by omega)), M.2.2.2.2⟩
section NM
variable {y : nM} {κ : nKp} {cu su pc p2 o : Nat} {ls : List (Option Value)} {st : List Value} {h : nPH}
theorem x_newaIz {N z : Nat} (hd : nD y pc (.newarray .int) 2 p2 o) (hN : N < 2 ^ 20) (hz : h.2.2.1 = z) (hc : cu + 1 ≤ κ.1.cells) (hs : su + N ≤ κ.1.slots) (kk : nG y κ (cu + 1) (su + N) p2 ls (.ref z :: st) (nNw h (nAi N (fun _ => 0)))) : nG y κ cu su pc ls (.int (nI N) :: st) h := by
  subst hz
  exact x_newaI hd aw_int (nI_pos (by omega)) (nI_clamp (by omega)) (by omega) hc hs kk
theorem x_newaZz {N z : Nat} (hd : nD y pc (.newarray .boolean) 2 p2 o) (hN : N < 2 ^ 20) (hz : h.2.2.1 = z) (hc : cu + 1 ≤ κ.1.cells) (hs : su + N ≤ κ.1.slots) (kk : nG y κ (cu + 1) (su + N) p2 ls (.ref z :: st) (nNw h (nAz N (fun _ => 0)))) : nG y κ cu su pc ls (.int (nI N) :: st) h := by
  subst hz
  exact x_newaZ hd aw_boolean (nI_pos (by omega)) (nI_clamp (by omega)) (by omega) hc hs kk
theorem x_newaLz {N z : Nat} (hd : nD y pc (.newarray .long) 2 p2 o) (hN : N < 2 ^ 20) (hz : h.2.2.1 = z) (hc : cu + 1 ≤ κ.1.cells) (hs : su + N ≤ κ.1.slots) (kk : nG y κ (cu + 1) (su + N) p2 ls (.ref z :: st) (nNw h (nAl N (fun _ => 0)))) : nG y κ cu su pc ls (.int (nI N) :: st) h := by
  subst hz
  exact x_newaL hd aw_long (nI_pos (by omega)) (nI_clamp (by omega)) (by omega) hc hs kk
theorem x_newqz {idx N z : Nat} {Cn : String} (hd : nD y pc (.anewarray idx) 3 p2 o) (hw : Cond.classLink (cNm o) idx Cn ∈ nWs) (ho : Cn = "NetLoft$Panel" ∨ Cn = "NetLoft$Row") (hN : N < 2 ^ 20) (hz : h.2.2.1 = z) (hc : cu + 1 ≤ κ.1.cells) (hs : su + N ≤ κ.1.slots) (kk : nG y κ (cu + 1) (su + N) p2 ls (.ref z :: st) (nNw h (nAr (.object Cn) N (fun _ => none)))) : nG y κ cu su pc ls (.int (nI N) :: st) h := by
  subst hz
  exact x_newq hd hw ho (nI_pos (by omega)) (nI_clamp (by omega)) (by omega) hc hs kk
theorem x_copy {idx a0 a n0 n1 N : Nat} {f g : Nat → Int32} (hd : nD y pc (.invokestatic idx) 3 p2 o) (hl : Cond.methodLink (cNm o) idx arraycopyName ∈ nWs) (hnt : Cond.native arraycopyName ∈ nWs ∧ Cond.static arraycopyName ∈ nWs ∧ Cond.initialized "java/lang/System" ∈ nWs) (h0 : nAt h a0 = some (nAi n0 f)) (h1 : nAt h a = some (nAi n1 g)) (hN0 : N ≤ n0) (hN1 : N ≤ n1) (hN : N < 2 ^ 31) (hB : h.2.1 ≤ a) (hf : 1 ≤ κ.1.frames) (hlo : (st.map fun v => v.category).sum + (nativeFrameWords "java/lang/System" "arraycopy" 5 + 11) ≤ κ.1.locals)
    (kk : nG y κ cu su p2 ls st (nSt h a (nAi n1 (fun i => if i < N then f i else g i)))) : nG y κ cu su pc ls (.int (nI N) :: .int (nI 0) :: .ref a :: .int (nI 0) :: .ref a0 :: st) h := by
  intro p l e s m args below meth cd H locs lsA C R L F
  obtain ⟨hdg, rfl, rfl⟩ := hd
  obtain ⟨c0, hc0, z0, -⟩ := R.2 a0 _ h0
  obtain ⟨c1, hc1, z1, z1r⟩ := R.2 a _ h1
  obtain ⟨-, k0, hk0, cm0, hkk0⟩ := z0 n0 (fun j => .int (f j))
  obtain ⟨-, k1, hk1, cm1, hkk1⟩ := z1 n1 (fun j => .int (g j))
  have e0 : (nI 0).toInt = 0 := by decide
  have eN : (nI N).toInt = (N : Int) := nI_toInt hN
  have cN : (nI N).toNatClampNeg = N := nI_clamp hN
  have c00 : (nI 0).toNatClampNeg = 0 := by decide
  intro T hT X
  have hc0' : T.heap[a0]? = some (vp_cell c0 (n0, .inl f)) := by rw [hT]; exact hc0
  have hc1' : T.heap[a]? = some (vp_cell c1 (n1, .inl g)) := by rw [hT]; exact hc1
  obtain ⟨vm', X', step⟩ := X.arraycopy C.1 C.2.2.2.1 (C.2.2.2.2.1 _ hl) (C.2.2.2.2.1 _ hnt.1) (C.2.2.2.2.1 _ hnt.2.1) (C.2.2.2.2.1 _ hnt.2.2) (src := a0) (dst := a) (cs := vp_cell c0 (n0, .inl f)) (cd := vp_cell c1 (n1, .inl g)) (srcPos := nI 0) (destPos := nI 0) (n := nI N) hc0' hc1'
    (fun _ h => by cases h) (fun _ h => by cases h) (fun h => by cases h) (fun h => by cases h) hk0 hk1 hkk0 hkk1 (by simp [refKind]) (by decide) (by decide) (nI_pos hN)
    (by rw [e0, eN]; show ¬ _ > ((arrV c0 n0 (fun j => .int (f j))).slots.size : Int); rw [arrV_size]; omega)
    (by rw [e0, eN]; show ¬ _ > ((arrV c1 n1 (fun j => .int (g j))).slots.size : Int); rw [arrV_size]; omega)
    (fun vm₁ _ i hi => by
      rw [cN] at hi
      have e : (vp_cell c0 (n0, .inl f)).slots.getD ((nI 0).toNatClampNeg + i) .null = .int (f (0 + i)) := by
        rw [c00]
        show (arrV c0 n0 (fun j => .int (f j))).slots.getD _ _ = _
        rw [Array.getD_eq_getD_getElem?, arrV_read _ _ (by omega)]
        rfl
      refine ⟨?_, ?_⟩
      · rw [e]; rfl
      · rw [e]; exact trivial)
    (g := F0 m pc lsA (.int (nI N) :: .int (nI 0) :: .ref a :: .int (nI 0) :: .ref a0 :: st)) rfl (by rw [C.2.2.1]; exact L.1) (rest := st) rfl (by rw [C.2.1]; exact hdg) hf (by show 2 * 0 + _ + _ ≤ _; omega)
  have e1 : copied (vp_cell c0 (n0, .inl f)) (vp_cell c1 (n1, .inl g)) (nI 0) (nI 0) (nI N) = vp_cell c1 (n1, .inl (va_cpy f g (nI 0).toNatClampNeg (nI 0).toNatClampNeg (nI N).toNatClampNeg)) := va_copied (fun z => .int z) c0 c1 f g (by rw [c00, cN]; omega)
  rw [e1, c00, cN] at X' step
  have hl2 : a < H.size := (Array.getElem?_eq_some_iff.mp hc1).1
  have hheap : ((T.setVm vm').setCell a (vp_cell c1 (n1, .inl (va_cpy f g 0 0 N)))).heap = H.setIfInBounds a (vp_cell c1 (n1, .inl (va_cpy f g 0 0 N))) := by rw [← hT]; rfl
  have oq : ∀ q : Nat, q ≠ a → (H.setIfInBounds a (vp_cell c1 (n1, .inl (va_cpy f g 0 0 N))))[q]? = H[q]? := fun q hq => by simp [Array.getElem?_setIfInBounds, Ne.symm hq]
  have ef : va_cpy f g 0 0 N = fun i => if i < N then f i else g i := by
    funext i
    unfold va_cpy
    by_cases hi : i < N <;> simp [hi]
  obtain ⟨t, a1, b1⟩ := kk p l e s m args below meth cd _ _ lsA C (nRep_st R (by simp) oq ⟨c1, (show (H.setIfInBounds a _)[a]? = some (vp_cell c1 (n1, .inl (va_cpy f g 0 0 N))) by simp [Array.getElem?_setIfInBounds, hl2]).trans (by rw [ef]), z1, z1r⟩) L (fun q hq => by
      rcases List.mem_append.mp hq with h | h
      · exact F q h
      · obtain ⟨z, -, hz⟩ := List.mem_map.mp h
        rw [← hz]
        exact hB) _ hheap X'
  exact ⟨t, step t a1, b1⟩
end NM
