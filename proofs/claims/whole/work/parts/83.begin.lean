/-! what is made at the beginning -/
theorem arrV_cg (c : ClassId) {N : Nat} {f g : Nat → Value} (h : ∀ j, j < N → f j = g j) : arrV c N f = arrV c N g := by
  unfold arrV
  rw [show (fun j : Fin N => f j.val) = fun j => g j.val from funext fun j => h j.1 j.2]
theorem out_V (c : ClassId) (N h0 : Nat) : ∀ i, i ≤ N → Jvm.Free.Multi.outerC c N h0 i = arrV c N (fun j => if j < i then .ref (h0 + 1 + j) else .null) := by
  intro i
  induction i with
  | zero =>
    intro _
    show ({ cls := c, slots := Array.replicate N .null, vm := .none } : Cell) = _
    rw [arrV_new]
    exact arrV_cg c (fun j _ => (if_neg (Nat.not_lt_zero j)).symm)
  | succ i ih =>
    intro hi
    show (Jvm.Free.Multi.outerC c N h0 i).setSlot i (.ref (h0 + 1 + i)) = _
    rw [ih (by omega), arrV_store]
    refine arrV_cg c (fun j _ => ?_)
    by_cases e : j = i
    · subst e
      simp [updV]
    · by_cases h : j < i
      · simp [updV, e, h, Nat.lt_succ_of_lt h]
      · simp [updV, e, h, show ¬ j < i + 1 by omega]
/-- N rows at once, and the row of them -/
def nMn (h : nPH) (ty : FieldType) (N : Nat) (z : vp_A) : nPH := (h.1, h.2.1, h.2.2.1 + 1 + N, fun q => if q = h.2.2.1 then some (nAr (.array ty) N (fun i => some (h.2.2.1 + 1 + i))) else if h.2.2.1 < q ∧ q < h.2.2.1 + 1 + N then some (.inl (ty, z)) else h.2.2.2 q)
theorem nBld.mna {h0 h : nPH} {a c : Nat} {fs : List Value} {cs : List nPC} (B : nBld h0 h a c fs cs) {ty : FieldType} {N w : Nat} {z : vp_A} (hw : h.2.2.1 = w) : nBld h0 (nMn h ty N z) a c fs (cs ++ (nAr (.array ty) N (fun i => some (w + 1 + i)) :: List.replicate N (.inl (ty, z)))) := by
  subst hw
  obtain ⟨b1, b2, b3, b4, b5, b6, b7, b8⟩ := B
  have old : ∀ q, q < h.2.2.1 → nAt (nMn h ty N z) q = nAt h q := fun q hq => by
    show (if q = h.2.2.1 then _ else if h.2.2.1 < q ∧ q < h.2.2.1 + 1 + N then _ else h.2.2.2 q) = _
    rw [if_neg (by omega), if_neg (by omega)]
  refine ⟨b1, b2, ?_, (old a (by omega)).trans b4, fun i x hx => ?_, fun q hq => (old q (by omega)).trans (b6 q hq), ⟨?_, fun q hq => ?_⟩, b8⟩
  · show h.2.2.1 + 1 + N = _
    rw [List.length_append, List.length_cons, List.length_replicate]
    omega
  · by_cases hi : i < cs.length
    · rw [List.getElem?_append_left hi] at hx
      exact (old _ (by omega)).trans (b5 i x hx)
    · rw [List.getElem?_append_right (by omega)] at hx
      obtain ⟨j, hj⟩ : ∃ j, i - cs.length = j := ⟨_, rfl⟩
      rw [hj] at hx
      show (if a + 1 + i = h.2.2.1 then _ else if h.2.2.1 < a + 1 + i ∧ a + 1 + i < h.2.2.1 + 1 + N then _ else h.2.2.2 (a + 1 + i)) = _
      rcases j with _ | j
      · rw [if_pos (by omega)]
        exact hx
      · rw [List.getElem?_cons_succ, List.getElem?_replicate] at hx
        by_cases hjN : j < N
        · rw [if_pos hjN] at hx
          rw [if_neg (by omega), if_pos (by omega)]
          exact hx
        · rw [if_neg hjN] at hx
          cases hx
  · show h.2.1 ≤ h.2.2.1 + 1 + N
    have := b7.1
    omega
  · have hq2 : h.2.2.1 + 1 + N ≤ q := hq
    show (if q = h.2.2.1 then _ else if h.2.2.1 < q ∧ q < h.2.2.1 + 1 + N then _ else h.2.2.2 q) = none
    rw [if_neg (by omega), if_neg (by omega)]
    exact b7.2 q (by omega)
theorem rep_at {α : Type} (cs : List α) (x e : α) (N : Nat) (tl : List α) {r : Nat} (hr : r < N) : ((cs ++ x :: List.replicate N e) ++ tl)[cs.length + 1 + r]? = some e := by
  rw [List.getElem?_append_left (by simp; omega), List.getElem?_append_right (by omega), show cs.length + 1 + r - cs.length = r + 1 by omega, List.getElem?_cons_succ, List.getElem?_replicate, if_pos hr]
section MNA
variable {y : nM} {κ : nKp} {cu su pc p2 o : Nat} {ls : List (Option Value)} {st : List Value} {h : nPH}
theorem x_mna {idx N K w : Nat} {ty : FieldType} {z : vp_A} {nm : String} (hd : nD y pc (.multianewarray idx 2) 4 p2 o) (hw : Cond.classLink (cNm o) idx nm ∈ nWs) (hnm : nm = "[" ++ (FieldType.array ty).toString) (ha : Cond.arrayClass ty ∈ nWs) (hov : ty = .int ∨ ty = .long) (hN : N < 2 ^ 20) (hK : K < 2 ^ 20) (hdf : fits ty (defaultValue ty) = true) (hdd : (defaultValue ty).isDefault = true) (hts : (FieldType.array ty).toString = "[" ++ ty.toString) (hz : ∀ c : ClassId, vp_cell c z = arrV c K (fun _ => defaultValue ty)) (hcb : componentBytes ty ≤ 8) (hzw : h.2.2.1 = w) (hc : cu + (1 + N) ≤ κ.1.cells) (hs : su + (N + N * K) ≤ κ.1.slots) (kk : nG y κ (cu + 1 + N) (su + N + N * K) p2 ls (.ref w :: st) (nMn h ty N z)) : nG y κ cu su pc ls (.int (nI K) :: .int (nI N) :: st) h := by
  subst hnm
  subst hzw
  intro p l e s m args below meth cd H locs lsA C R L F
  obtain ⟨hdg, rfl, rfl⟩ := hd
  have cN : (nI N).toNatClampNeg = N := nI_clamp (by omega)
  have cK : (nI K).toNatClampNeg = K := nI_clamp (by omega)
  have hover : (Cond.arrayOver (.array ty)).before args s = true := by
    rcases hov with rfl | rfl
    · exact C.2.2.2.2.2.2.2.2.2.2.2.2.1
    · exact C.2.2.2.2.2.2.2.2.2.2.2.2.2
  have K0 := fun H2 => kk p l e s m args below meth cd H2 locs lsA C
  intro T hT Xs
  have hb2 : K * componentBytes ty ≤ 536870912 := Nat.le_trans (Nat.mul_le_mul (Nat.le_of_lt hK) hcb) (by decide)
  obtain ⟨vm₁, cA, comp, -, fA, fC, hO, hI, X', step⟩ := Xs.multianewarray2F C.1 C.2.2.2.1 (C.2.2.2.2.1 _ hw) hover (C.2.2.2.2.1 _ ha) (g := F0 m pc lsA (.int (nI K) :: .int (nI N) :: st)) rfl (by rw [C.2.1]; exact hdg) rfl (nI_pos (by omega)) (nI_pos (by omega)) (by rw [cN]; omega) (by rw [cK]; exact hb2) (by rw [cK]; omega) hdf hdd (by rw [cN]; exact hc) (by rw [cN, cK]; exact hs)
  rw [cN, cK] at X' step
  have hTh : (T.setVm vm₁).heap = H := hT
  obtain ⟨f1, f2, -, -⟩ := Jvm.Free.Multi.fill_facts (T.setVm vm₁) cA comp N K (defaultValue ty) N
  have f3 := fun (a : Addr) (ha : a < (T.setVm vm₁).heap.size) => Jvm.Free.Multi.fill_old (T.setVm vm₁) cA comp N K (defaultValue ty) ha N
  have f4 := Jvm.Free.Multi.fill_inner (T.setVm vm₁) cA comp N K (defaultValue ty) N
  rw [hTh] at f1 f2 f3 f4
  generalize Jvm.Free.Multi.fill (T.setVm vm₁) cA comp N K (defaultValue ty) N = Fl at X' step f1 f2 f3 f4
  have hAo : ArrOfT s cA (.array ty) := fun n9 z9 => by
    obtain ⟨-, k9, hk9, cm9, hkk9⟩ := (hO 0 0 0).1
    exact ⟨(fun q hq => by cases hq), k9, hk9, cm9, hkk9⟩
  have hAi : ArrOfT s comp ty := fun n9 z9 => by
    obtain ⟨-, k9, hk9, cm9, hkk9⟩ := (hI 0 (defaultValue ty)).1
    exact ⟨(fun q hq => by cases hq), k9, hk9, cm9, hkk9⟩
  have hRi : va_RA s comp ty := by
    rw [hts] at fC
    rcases hov with rfl | rfl
    · exact fC
    · exact fC
  have hHz := R.1
  have R2 : nRep (nMn h ty N z) s Fl.heap := by
    refine ⟨f1.trans (by rw [hHz]; rfl), fun a e ha => ?_⟩
    have ha2 : (if a = h.2.2.1 then some (nAr (.array ty) N (fun i => some (h.2.2.1 + 1 + i))) else if h.2.2.1 < a ∧ a < h.2.2.1 + 1 + N then some (.inl (ty, z)) else h.2.2.2 a) = some e := ha
    by_cases e1 : a = h.2.2.1
    · rw [if_pos e1] at ha2
      cases ha2
      refine ⟨cA, ?_, hAo, fA⟩
      rw [e1, ← hHz, f2, out_V cA N H.size N (Nat.le_refl N)]
      refine congrArg some ((arrV_cg cA (fun j hj => ?_)).trans (vp_cell_q cA N _).symm)
      rw [if_pos hj, hHz]
      rfl
    · rw [if_neg e1] at ha2
      by_cases e2 : h.2.2.1 < a ∧ a < h.2.2.1 + 1 + N
      · rw [if_pos e2] at ha2
        cases ha2
        refine ⟨comp, ?_, hAi, hRi⟩
        have := f4 (a - h.2.2.1 - 1) (by omega)
        rw [hHz, show h.2.2.1 + 1 + (a - h.2.2.1 - 1) = a by omega] at this
        rw [this, hz]
        exact congrArg some (arrV_new comp K (defaultValue ty))
      · rw [if_neg e2] at ha2
        have h1 := R.2 a e ha2
        exact h1.kept (f3 a h1.lt)
  have e : T.heap.size = h.2.2.1 := by rw [hT]; exact hHz
  obtain ⟨t, a1, b1⟩ := K0 Fl.heap R2 L F Fl rfl X'
  rw [e] at step
  exact ⟨t, step t a1, b1⟩
end MNA
theorem nMk_tr {h h2 h3 : nPH} {a n m : Nat} (M : nMk h h2 a n) (M2 : nMk h2 h3 (a + n) m) : nMk h h3 a (n + m) := ⟨M2.1.trans M.1, M2.2.1.trans M.2.1, by rw [M2.2.2.1]; omega, fun q hq => (M2.2.2.2.1 q (by omega)).trans (M.2.2.2.1 q hq), M2.2.2.2.2⟩
theorem sp_holeInit {h : nPH} {a : Nat} (B : nBld h h a 0 [.int 0, .int 0, .int 0, .int 0, .null, .null, .null, .null, .int 0] []) : nWv YX0_init [.ref a] h none (fun h2 => nMk h h2 a 25 ∧ o0 h2 a (fun _ _ => 0)) := by
  refine nSp_of (by decide +kernel) rfl (Nat.le_of_ble_eq_true rfl) (ls := [some (.ref (a))]) (by exact (And.intro rfl True.intro)) ?_
  refine x_aload_n rfl d_X0_init_0 ?_
  refine x_objI ob_init d_X0_init_1 lk_0_3 (Nat.le_of_ble_eq_true rfl) (Nat.le_of_ble_eq_true rfl) ?_
  refine x_aload_n rfl d_X0_init_4 ?_
  refine x_sipush (v := nI 480) (by decide) d_X0_init_5 ?_
  refine x_newaIz (z := a + 1) d_X0_init_8 (by decide) B.2.2.1 (Nat.le_of_ble_eq_true rfl) (Nat.le_of_ble_eq_true rfl) ?_
  have B_1 := B.new (nAi 480 (fun _ => 0))
  refine x_putF co_all d_X0_init_10 fk_0_9 ft_0_4 rfl rfl B_1.o (Nat.le_of_ble_eq_true rfl) rfl rfl B_1.b ?_
  have B_2 := B_1.put [.int 0, .int 0, .int 0, .int 0, .ref (a + 1), .null, .null, .null, .int 0]
  refine x_aload_n rfl d_X0_init_13 ?_
  refine x_sipush (v := nI 480) (by decide) d_X0_init_14 ?_
  refine x_newaIz (z := a + 2) d_X0_init_17 (by decide) B_2.2.2.1 (Nat.le_of_ble_eq_true rfl) (Nat.le_of_ble_eq_true rfl) ?_
  have B_3 := B_2.new (nAi 480 (fun _ => 0))
  refine x_putF co_all d_X0_init_19 fk_0_15 ft_0_5 rfl rfl B_3.o (Nat.le_of_ble_eq_true rfl) rfl rfl B_3.b ?_
  have B_4 := B_3.put [.int 0, .int 0, .int 0, .int 0, .ref (a + 1), .ref (a + 2), .null, .null, .int 0]
  refine x_aload_n rfl d_X0_init_22 ?_
  refine x_bipush (v := nI 20) (by decide) d_X0_init_23 ?_
  refine x_bipush (v := nI 24) (by decide) d_X0_init_25 ?_
  refine x_mna (ty := .int) (z := (24, .inl (fun _ => 0))) (w := a + 3) d_X0_init_27 kl_0_18 (by decide +kernel) aw_int (Or.inl rfl) (by decide) (by decide) (by decide +kernel) (by decide +kernel) (by decide +kernel) (fun _ => rfl) (by decide) B_4.2.2.1 (Nat.le_of_ble_eq_true rfl) (Nat.le_of_ble_eq_true rfl) ?_
  have B_5 := B_4.mna (ty := .int) (N := 20) (z := (24, .inl (fun _ => 0))) B_4.2.2.1
  refine x_putF co_all d_X0_init_31 fk_0_20 ft_0_6 rfl rfl B_5.o (Nat.le_of_ble_eq_true rfl) rfl rfl B_5.b ?_
  have B_6 := B_5.put [.int 0, .int 0, .int 0, .int 0, .ref (a + 1), .ref (a + 2), .ref (a + 3), .null, .int 0]
  refine x_aload_n rfl d_X0_init_34 ?_
  refine x_sipush (v := nI 480) (by decide) d_X0_init_35 ?_
  refine x_newaIz (z := a + 24) d_X0_init_38 (by decide) B_6.2.2.1 (Nat.le_of_ble_eq_true rfl) (Nat.le_of_ble_eq_true rfl) ?_
  have B_7 := B_6.new (nAi 480 (fun _ => 0))
  refine x_putF co_all d_X0_init_40 fk_0_23 ft_0_7 rfl rfl B_7.o (Nat.le_of_ble_eq_true rfl) rfl rfl B_7.b ?_
  have B_8 := B_7.put [.int 0, .int 0, .int 0, .int 0, .ref (a + 1), .ref (a + 2), .ref (a + 3), .ref (a + 24), .int 0]
  refine x_return d_X0_init_43 rfl B_8.1 B_8.2.1 (Nat.le_of_ble_eq_true rfl) (Nat.le_of_ble_eq_true rfl) (⟨rfl, B_8.mk, B_8.b, B_8.o, B_8.at 0 rfl, B_8.at 1 rfl, (B_8.at 2 rfl).trans (congrArg (fun f => some (nAr (.array .int) 20 f)) (funext fun r => congrArg some (show a + 3 + 1 + r = a + (4 + r) by omega))), fun r hr => ?_, B_8.at 23 rfl⟩)
  have z := B_8.at (3 + r) (rep_at [nAi 480 (fun _ => 0), nAi 480 (fun _ => 0)] _ (.inl (.int, (24, .inl (fun _ => 0)))) 20 [nAi 480 (fun _ => 0)] hr)
  rw [show a + 1 + (3 + r) = a + (4 + r) by omega] at z
  exact z
theorem sp_loadsInit {h : nPH} {a : Nat} (B : nBld h h a 1 [.long 0, .long 0, .null, .null] []) : nWv YX1_init [.ref a] h none (fun h2 => nMk h h2 a 23 ∧ o1 h2 a (fun _ _ => 0)) := by
  refine nSp_of (by decide +kernel) rfl (Nat.le_of_ble_eq_true rfl) (ls := [some (.ref (a))]) (by exact (And.intro rfl True.intro)) ?_
  refine x_aload_n rfl d_X1_init_0 ?_
  refine x_objI ob_init d_X1_init_1 lk_1_3 (Nat.le_of_ble_eq_true rfl) (Nat.le_of_ble_eq_true rfl) ?_
  refine x_aload_n rfl d_X1_init_4 ?_
  refine x_bipush (v := nI 20) (by decide) d_X1_init_5 ?_
  refine x_bipush (v := nI 24) (by decide) d_X1_init_7 ?_
  refine x_mna (ty := .long) (z := (24, .inr (.inl (fun _ => 0)))) (w := a + 1) d_X1_init_9 kl_1_9 (by decide +kernel) aw_long (Or.inr rfl) (by decide) (by decide) (by decide +kernel) (by decide +kernel) (by decide +kernel) (fun _ => rfl) (by decide) B.2.2.1 (Nat.le_of_ble_eq_true rfl) (Nat.le_of_ble_eq_true rfl) ?_
  have B_1 := B.mna (ty := .long) (N := 20) (z := (24, .inr (.inl (fun _ => 0)))) B.2.2.1
  refine x_putF co_all d_X1_init_13 fk_1_11 ft_1_2 rfl rfl B_1.o (Nat.le_of_ble_eq_true rfl) rfl rfl B_1.b ?_
  have B_2 := B_1.put [.long 0, .long 0, .ref (a + 1), .null]
  refine x_aload_n rfl d_X1_init_16 ?_
  refine x_bipush (v := nI 24) (by decide) d_X1_init_17 ?_
  refine x_newaIz (z := a + 22) d_X1_init_19 (by decide) B_2.2.2.1 (Nat.le_of_ble_eq_true rfl) (Nat.le_of_ble_eq_true rfl) ?_
  have B_3 := B_2.new (nAi 24 (fun _ => 0))
  refine x_putF co_all d_X1_init_21 fk_1_16 ft_1_3 rfl rfl B_3.o (Nat.le_of_ble_eq_true rfl) rfl rfl B_3.b ?_
  have B_4 := B_3.put [.long 0, .long 0, .ref (a + 1), .ref (a + 22)]
  refine x_return d_X1_init_24 rfl B_4.1 B_4.2.1 (Nat.le_of_ble_eq_true rfl) (Nat.le_of_ble_eq_true rfl) (⟨rfl, B_4.mk, B_4.b, B_4.o, (B_4.at 0 rfl).trans (congrArg (fun f => some (nAr (.array .long) 20 f)) (funext fun r => congrArg some (show a + 1 + 1 + r = a + (2 + r) by omega))), fun r hr => ?_, B_4.at 21 rfl⟩)
  have z := B_4.at (1 + r) (show (([] ++ (_ : nPC) :: List.replicate 20 (.inl (.long, (24, .inr (.inl (fun _ => 0)))))) ++ [nAi 24 (fun _ => 0)])[1 + r]? = _ from by have := rep_at [] (nAr (.array .long) 20 (fun i => some (a + 1 + 1 + i))) (.inl (.long, (24, .inr (.inl (fun _ => 0)))) : nPC) 20 [nAi 24 (fun _ => 0)] hr; rw [List.length_nil, Nat.zero_add] at this; exact this)
  rw [show a + 1 + (1 + r) = a + (2 + r) by omega] at z
  exact z
def mIn : Nat → Nat → Nat := fun f _ => if f = 12 then 1 else if f = 16 then 102 else 0
theorem sp_modelInit {h : nPH} {a : Nat} (B : nBld h h a 8 [.int 0, .int 0, .null, .null, .null, .null, .null, .null, .null, .null, .null, .null, .null, .null, .null, .null, .int 0, .null, .null, .null, .int 0, .int 0, .int 0, .int 0, .int 0, .int 0, .null, .null, .int 0, .null, .null, .int 0, .int 0, .int 0, .int 0, .null, .null, .long 0, .long 0] []) : nWv YX8_init [.ref a] h none (fun h2 => nMk h h2 a 24 ∧ o8 h2 a mIn) := by
  refine nSp_of (by decide +kernel) rfl (Nat.le_of_ble_eq_true rfl) (ls := [some (.ref (a))]) (by exact (And.intro rfl True.intro)) ?_
  refine x_aload_n rfl d_X8_init_0 ?_
  refine x_objI ob_init d_X8_init_1 lk_8_7 (Nat.le_of_ble_eq_true rfl) (Nat.le_of_ble_eq_true rfl) ?_
  refine x_aload_n rfl d_X8_init_4 ?_
  refine x_bipush (v := nI 12) (by decide) d_X8_init_5 ?_
  refine x_newaIz (z := a + 1) d_X8_init_7 (by decide) B.2.2.1 (Nat.le_of_ble_eq_true rfl) (Nat.le_of_ble_eq_true rfl) ?_
  have B_1 := B.new (nAi 12 (fun _ => 0))
  refine x_putF co_all d_X8_init_9 fk_8_13 ft_8_2 rfl rfl B_1.o (Nat.le_of_ble_eq_true rfl) rfl rfl B_1.b ?_
  have B_2 := B_1.put [.int 0, .int 0, .ref (a + 1), .null, .null, .null, .null, .null, .null, .null, .null, .null, .null, .null, .null, .null, .int 0, .null, .null, .null, .int 0, .int 0, .int 0, .int 0, .int 0, .int 0, .null, .null, .int 0, .null, .null, .int 0, .int 0, .int 0, .int 0, .null, .null, .long 0, .long 0]
  refine x_aload_n rfl d_X8_init_12 ?_
  refine x_bipush (v := nI 12) (by decide) d_X8_init_13 ?_
  refine x_newaIz (z := a + 2) d_X8_init_15 (by decide) B_2.2.2.1 (Nat.le_of_ble_eq_true rfl) (Nat.le_of_ble_eq_true rfl) ?_
  have B_3 := B_2.new (nAi 12 (fun _ => 0))
  refine x_putF co_all d_X8_init_17 fk_8_17 ft_8_3 rfl rfl B_3.o (Nat.le_of_ble_eq_true rfl) rfl rfl B_3.b ?_
  have B_4 := B_3.put [.int 0, .int 0, .ref (a + 1), .ref (a + 2), .null, .null, .null, .null, .null, .null, .null, .null, .null, .null, .null, .null, .int 0, .null, .null, .null, .int 0, .int 0, .int 0, .int 0, .int 0, .int 0, .null, .null, .int 0, .null, .null, .int 0, .int 0, .int 0, .int 0, .null, .null, .long 0, .long 0]
  refine x_aload_n rfl d_X8_init_20 ?_
  refine x_bipush (v := nI 12) (by decide) d_X8_init_21 ?_
  refine x_newaIz (z := a + 3) d_X8_init_23 (by decide) B_4.2.2.1 (Nat.le_of_ble_eq_true rfl) (Nat.le_of_ble_eq_true rfl) ?_
  have B_5 := B_4.new (nAi 12 (fun _ => 0))
  refine x_putF co_all d_X8_init_25 fk_8_20 ft_8_4 rfl rfl B_5.o (Nat.le_of_ble_eq_true rfl) rfl rfl B_5.b ?_
  have B_6 := B_5.put [.int 0, .int 0, .ref (a + 1), .ref (a + 2), .ref (a + 3), .null, .null, .null, .null, .null, .null, .null, .null, .null, .null, .null, .int 0, .null, .null, .null, .int 0, .int 0, .int 0, .int 0, .int 0, .int 0, .null, .null, .int 0, .null, .null, .int 0, .int 0, .int 0, .int 0, .null, .null, .long 0, .long 0]
  refine x_aload_n rfl d_X8_init_28 ?_
  refine x_bipush (v := nI 12) (by decide) d_X8_init_29 ?_
  refine x_newaIz (z := a + 4) d_X8_init_31 (by decide) B_6.2.2.1 (Nat.le_of_ble_eq_true rfl) (Nat.le_of_ble_eq_true rfl) ?_
  have B_7 := B_6.new (nAi 12 (fun _ => 0))
  refine x_putF co_all d_X8_init_33 fk_8_23 ft_8_5 rfl rfl B_7.o (Nat.le_of_ble_eq_true rfl) rfl rfl B_7.b ?_
  have B_8 := B_7.put [.int 0, .int 0, .ref (a + 1), .ref (a + 2), .ref (a + 3), .ref (a + 4), .null, .null, .null, .null, .null, .null, .null, .null, .null, .null, .int 0, .null, .null, .null, .int 0, .int 0, .int 0, .int 0, .int 0, .int 0, .null, .null, .int 0, .null, .null, .int 0, .int 0, .int 0, .int 0, .null, .null, .long 0, .long 0]
  refine x_aload_n rfl d_X8_init_36 ?_
  refine x_bipush (v := nI 12) (by decide) d_X8_init_37 ?_
  refine x_newaIz (z := a + 5) d_X8_init_39 (by decide) B_8.2.2.1 (Nat.le_of_ble_eq_true rfl) (Nat.le_of_ble_eq_true rfl) ?_
  have B_9 := B_8.new (nAi 12 (fun _ => 0))
  refine x_putF co_all d_X8_init_41 fk_8_26 ft_8_6 rfl rfl B_9.o (Nat.le_of_ble_eq_true rfl) rfl rfl B_9.b ?_
  have B_10 := B_9.put [.int 0, .int 0, .ref (a + 1), .ref (a + 2), .ref (a + 3), .ref (a + 4), .ref (a + 5), .null, .null, .null, .null, .null, .null, .null, .null, .null, .int 0, .null, .null, .null, .int 0, .int 0, .int 0, .int 0, .int 0, .int 0, .null, .null, .int 0, .null, .null, .int 0, .int 0, .int 0, .int 0, .null, .null, .long 0, .long 0]
  refine x_aload_n rfl d_X8_init_44 ?_
  refine x_sipush (v := nI 288) (by decide) d_X8_init_45 ?_
  refine x_newaIz (z := a + 6) d_X8_init_48 (by decide) B_10.2.2.1 (Nat.le_of_ble_eq_true rfl) (Nat.le_of_ble_eq_true rfl) ?_
  have B_11 := B_10.new (nAi 288 (fun _ => 0))
  refine x_putF co_all d_X8_init_50 fk_8_29 ft_8_7 rfl rfl B_11.o (Nat.le_of_ble_eq_true rfl) rfl rfl B_11.b ?_
  have B_12 := B_11.put [.int 0, .int 0, .ref (a + 1), .ref (a + 2), .ref (a + 3), .ref (a + 4), .ref (a + 5), .ref (a + 6), .null, .null, .null, .null, .null, .null, .null, .null, .int 0, .null, .null, .null, .int 0, .int 0, .int 0, .int 0, .int 0, .int 0, .null, .null, .int 0, .null, .null, .int 0, .int 0, .int 0, .int 0, .null, .null, .long 0, .long 0]
  refine x_aload_n rfl d_X8_init_53 ?_
  refine x_sipush (v := nI 240) (by decide) d_X8_init_54 ?_
  refine x_newaIz (z := a + 7) d_X8_init_57 (by decide) B_12.2.2.1 (Nat.le_of_ble_eq_true rfl) (Nat.le_of_ble_eq_true rfl) ?_
  have B_13 := B_12.new (nAi 240 (fun _ => 0))
  refine x_putF co_all d_X8_init_59 fk_8_32 ft_8_8 rfl rfl B_13.o (Nat.le_of_ble_eq_true rfl) rfl rfl B_13.b ?_
  have B_14 := B_13.put [.int 0, .int 0, .ref (a + 1), .ref (a + 2), .ref (a + 3), .ref (a + 4), .ref (a + 5), .ref (a + 6), .ref (a + 7), .null, .null, .null, .null, .null, .null, .null, .int 0, .null, .null, .null, .int 0, .int 0, .int 0, .int 0, .int 0, .int 0, .null, .null, .int 0, .null, .null, .int 0, .int 0, .int 0, .int 0, .null, .null, .long 0, .long 0]
  refine x_aload_n rfl d_X8_init_62 ?_
  refine x_sipush (v := nI 240) (by decide) d_X8_init_63 ?_
  refine x_newaZz (z := a + 8) d_X8_init_66 (by decide) B_14.2.2.1 (Nat.le_of_ble_eq_true rfl) (Nat.le_of_ble_eq_true rfl) ?_
  have B_15 := B_14.new (nAz 240 (fun _ => 0))
  refine x_putF co_all d_X8_init_68 fk_8_35 ft_8_9 rfl rfl B_15.o (Nat.le_of_ble_eq_true rfl) rfl rfl B_15.b ?_
  have B_16 := B_15.put [.int 0, .int 0, .ref (a + 1), .ref (a + 2), .ref (a + 3), .ref (a + 4), .ref (a + 5), .ref (a + 6), .ref (a + 7), .ref (a + 8), .null, .null, .null, .null, .null, .null, .int 0, .null, .null, .null, .int 0, .int 0, .int 0, .int 0, .int 0, .int 0, .null, .null, .int 0, .null, .null, .int 0, .int 0, .int 0, .int 0, .null, .null, .long 0, .long 0]
  refine x_aload_n rfl d_X8_init_71 ?_
  refine x_sipush (v := nI 5760) (by decide) d_X8_init_72 ?_
  refine x_newaIz (z := a + 9) d_X8_init_75 (by decide) B_16.2.2.1 (Nat.le_of_ble_eq_true rfl) (Nat.le_of_ble_eq_true rfl) ?_
  have B_17 := B_16.new (nAi 5760 (fun _ => 0))
  refine x_putF co_all d_X8_init_77 fk_8_39 ft_8_10 rfl rfl B_17.o (Nat.le_of_ble_eq_true rfl) rfl rfl B_17.b ?_
  have B_18 := B_17.put [.int 0, .int 0, .ref (a + 1), .ref (a + 2), .ref (a + 3), .ref (a + 4), .ref (a + 5), .ref (a + 6), .ref (a + 7), .ref (a + 8), .ref (a + 9), .null, .null, .null, .null, .null, .int 0, .null, .null, .null, .int 0, .int 0, .int 0, .int 0, .int 0, .int 0, .null, .null, .int 0, .null, .null, .int 0, .int 0, .int 0, .int 0, .null, .null, .long 0, .long 0]
  refine x_aload_n rfl d_X8_init_80 ?_
  refine x_sipush (v := nI 5760) (by decide) d_X8_init_81 ?_
  refine x_newaIz (z := a + 10) d_X8_init_84 (by decide) B_18.2.2.1 (Nat.le_of_ble_eq_true rfl) (Nat.le_of_ble_eq_true rfl) ?_
  have B_19 := B_18.new (nAi 5760 (fun _ => 0))
  refine x_putF co_all d_X8_init_86 fk_8_42 ft_8_11 rfl rfl B_19.o (Nat.le_of_ble_eq_true rfl) rfl rfl B_19.b ?_
  have B_20 := B_19.put [.int 0, .int 0, .ref (a + 1), .ref (a + 2), .ref (a + 3), .ref (a + 4), .ref (a + 5), .ref (a + 6), .ref (a + 7), .ref (a + 8), .ref (a + 9), .ref (a + 10), .null, .null, .null, .null, .int 0, .null, .null, .null, .int 0, .int 0, .int 0, .int 0, .int 0, .int 0, .null, .null, .int 0, .null, .null, .int 0, .int 0, .int 0, .int 0, .null, .null, .long 0, .long 0]
  refine x_aload_n rfl d_X8_init_89 ?_
  refine x_sipush (v := nI 5760) (by decide) d_X8_init_90 ?_
  refine x_newaIz (z := a + 11) d_X8_init_93 (by decide) B_20.2.2.1 (Nat.le_of_ble_eq_true rfl) (Nat.le_of_ble_eq_true rfl) ?_
  have B_21 := B_20.new (nAi 5760 (fun _ => 0))
  refine x_putF co_all d_X8_init_95 fk_8_45 ft_8_12 rfl rfl B_21.o (Nat.le_of_ble_eq_true rfl) rfl rfl B_21.b ?_
  have B_22 := B_21.put [.int 0, .int 0, .ref (a + 1), .ref (a + 2), .ref (a + 3), .ref (a + 4), .ref (a + 5), .ref (a + 6), .ref (a + 7), .ref (a + 8), .ref (a + 9), .ref (a + 10), .ref (a + 11), .null, .null, .null, .int 0, .null, .null, .null, .int 0, .int 0, .int 0, .int 0, .int 0, .int 0, .null, .null, .int 0, .null, .null, .int 0, .int 0, .int 0, .int 0, .null, .null, .long 0, .long 0]
  refine x_aload_n rfl d_X8_init_98 ?_
  refine x_sipush (v := nI 5760) (by decide) d_X8_init_99 ?_
  refine x_newaIz (z := a + 12) d_X8_init_102 (by decide) B_22.2.2.1 (Nat.le_of_ble_eq_true rfl) (Nat.le_of_ble_eq_true rfl) ?_
  have B_23 := B_22.new (nAi 5760 (fun _ => 0))
  refine x_putF co_all d_X8_init_104 fk_8_48 ft_8_13 rfl rfl B_23.o (Nat.le_of_ble_eq_true rfl) rfl rfl B_23.b ?_
  have B_24 := B_23.put [.int 0, .int 0, .ref (a + 1), .ref (a + 2), .ref (a + 3), .ref (a + 4), .ref (a + 5), .ref (a + 6), .ref (a + 7), .ref (a + 8), .ref (a + 9), .ref (a + 10), .ref (a + 11), .ref (a + 12), .null, .null, .int 0, .null, .null, .null, .int 0, .int 0, .int 0, .int 0, .int 0, .int 0, .null, .null, .int 0, .null, .null, .int 0, .int 0, .int 0, .int 0, .null, .null, .long 0, .long 0]
  refine x_aload_n rfl d_X8_init_107 ?_
  refine x_sipush (v := nI 5760) (by decide) d_X8_init_108 ?_
  refine x_newaIz (z := a + 13) d_X8_init_111 (by decide) B_24.2.2.1 (Nat.le_of_ble_eq_true rfl) (Nat.le_of_ble_eq_true rfl) ?_
  have B_25 := B_24.new (nAi 5760 (fun _ => 0))
  refine x_putF co_all d_X8_init_113 fk_8_51 ft_8_14 rfl rfl B_25.o (Nat.le_of_ble_eq_true rfl) rfl rfl B_25.b ?_
  have B_26 := B_25.put [.int 0, .int 0, .ref (a + 1), .ref (a + 2), .ref (a + 3), .ref (a + 4), .ref (a + 5), .ref (a + 6), .ref (a + 7), .ref (a + 8), .ref (a + 9), .ref (a + 10), .ref (a + 11), .ref (a + 12), .ref (a + 13), .null, .int 0, .null, .null, .null, .int 0, .int 0, .int 0, .int 0, .int 0, .int 0, .null, .null, .int 0, .null, .null, .int 0, .int 0, .int 0, .int 0, .null, .null, .long 0, .long 0]
  refine x_aload_n rfl d_X8_init_116 ?_
  refine x_sipush (v := nI 5760) (by decide) d_X8_init_117 ?_
  refine x_newaZz (z := a + 14) d_X8_init_120 (by decide) B_26.2.2.1 (Nat.le_of_ble_eq_true rfl) (Nat.le_of_ble_eq_true rfl) ?_
  have B_27 := B_26.new (nAz 5760 (fun _ => 0))
  refine x_putF co_all d_X8_init_122 fk_8_54 ft_8_15 rfl rfl B_27.o (Nat.le_of_ble_eq_true rfl) rfl rfl B_27.b ?_
  have B_28 := B_27.put [.int 0, .int 0, .ref (a + 1), .ref (a + 2), .ref (a + 3), .ref (a + 4), .ref (a + 5), .ref (a + 6), .ref (a + 7), .ref (a + 8), .ref (a + 9), .ref (a + 10), .ref (a + 11), .ref (a + 12), .ref (a + 13), .ref (a + 14), .int 0, .null, .null, .null, .int 0, .int 0, .int 0, .int 0, .int 0, .int 0, .null, .null, .int 0, .null, .null, .int 0, .int 0, .int 0, .int 0, .null, .null, .long 0, .long 0]
  refine x_aload_n rfl d_X8_init_125 ?_
  refine x_bipush (v := nI 101) (by decide) d_X8_init_126 ?_
  refine x_newaIz (z := a + 15) d_X8_init_128 (by decide) B_28.2.2.1 (Nat.le_of_ble_eq_true rfl) (Nat.le_of_ble_eq_true rfl) ?_
  have B_29 := B_28.new (nAi 101 (fun _ => 0))
  refine x_putF co_all d_X8_init_130 fk_8_57 ft_8_17 rfl rfl B_29.o (Nat.le_of_ble_eq_true rfl) rfl rfl B_29.b ?_
  have B_30 := B_29.put [.int 0, .int 0, .ref (a + 1), .ref (a + 2), .ref (a + 3), .ref (a + 4), .ref (a + 5), .ref (a + 6), .ref (a + 7), .ref (a + 8), .ref (a + 9), .ref (a + 10), .ref (a + 11), .ref (a + 12), .ref (a + 13), .ref (a + 14), .int 0, .ref (a + 15), .null, .null, .int 0, .int 0, .int 0, .int 0, .int 0, .int 0, .null, .null, .int 0, .null, .null, .int 0, .int 0, .int 0, .int 0, .null, .null, .long 0, .long 0]
  refine x_aload_n rfl d_X8_init_133 ?_
  refine x_sipush (v := nI 480) (by decide) d_X8_init_134 ?_
  refine x_newaZz (z := a + 16) d_X8_init_137 (by decide) B_30.2.2.1 (Nat.le_of_ble_eq_true rfl) (Nat.le_of_ble_eq_true rfl) ?_
  have B_31 := B_30.new (nAz 480 (fun _ => 0))
  refine x_putF co_all d_X8_init_139 fk_8_60 ft_8_18 rfl rfl B_31.o (Nat.le_of_ble_eq_true rfl) rfl rfl B_31.b ?_
  have B_32 := B_31.put [.int 0, .int 0, .ref (a + 1), .ref (a + 2), .ref (a + 3), .ref (a + 4), .ref (a + 5), .ref (a + 6), .ref (a + 7), .ref (a + 8), .ref (a + 9), .ref (a + 10), .ref (a + 11), .ref (a + 12), .ref (a + 13), .ref (a + 14), .int 0, .ref (a + 15), .ref (a + 16), .null, .int 0, .int 0, .int 0, .int 0, .int 0, .int 0, .null, .null, .int 0, .null, .null, .int 0, .int 0, .int 0, .int 0, .null, .null, .long 0, .long 0]
  refine x_aload_n rfl d_X8_init_142 ?_
  refine x_sipush (v := nI 480) (by decide) d_X8_init_143 ?_
  refine x_newaIz (z := a + 17) d_X8_init_146 (by decide) B_32.2.2.1 (Nat.le_of_ble_eq_true rfl) (Nat.le_of_ble_eq_true rfl) ?_
  have B_33 := B_32.new (nAi 480 (fun _ => 0))
  refine x_putF co_all d_X8_init_148 fk_8_63 ft_8_19 rfl rfl B_33.o (Nat.le_of_ble_eq_true rfl) rfl rfl B_33.b ?_
  have B_34 := B_33.put [.int 0, .int 0, .ref (a + 1), .ref (a + 2), .ref (a + 3), .ref (a + 4), .ref (a + 5), .ref (a + 6), .ref (a + 7), .ref (a + 8), .ref (a + 9), .ref (a + 10), .ref (a + 11), .ref (a + 12), .ref (a + 13), .ref (a + 14), .int 0, .ref (a + 15), .ref (a + 16), .ref (a + 17), .int 0, .int 0, .int 0, .int 0, .int 0, .int 0, .null, .null, .int 0, .null, .null, .int 0, .int 0, .int 0, .int 0, .null, .null, .long 0, .long 0]
  refine x_aload_n rfl d_X8_init_151 ?_
  refine x_sipush (v := nI 480) (by decide) d_X8_init_152 ?_
  refine x_newaIz (z := a + 18) d_X8_init_155 (by decide) B_34.2.2.1 (Nat.le_of_ble_eq_true rfl) (Nat.le_of_ble_eq_true rfl) ?_
  have B_35 := B_34.new (nAi 480 (fun _ => 0))
  refine x_putF co_all d_X8_init_157 fk_8_66 ft_8_26 rfl rfl B_35.o (Nat.le_of_ble_eq_true rfl) rfl rfl B_35.b ?_
  have B_36 := B_35.put [.int 0, .int 0, .ref (a + 1), .ref (a + 2), .ref (a + 3), .ref (a + 4), .ref (a + 5), .ref (a + 6), .ref (a + 7), .ref (a + 8), .ref (a + 9), .ref (a + 10), .ref (a + 11), .ref (a + 12), .ref (a + 13), .ref (a + 14), .int 0, .ref (a + 15), .ref (a + 16), .ref (a + 17), .int 0, .int 0, .int 0, .int 0, .int 0, .int 0, .ref (a + 18), .null, .int 0, .null, .null, .int 0, .int 0, .int 0, .int 0, .null, .null, .long 0, .long 0]
  refine x_aload_n rfl d_X8_init_160 ?_
  refine x_sipush (v := nI 480) (by decide) d_X8_init_161 ?_
  refine x_newaZz (z := a + 19) d_X8_init_164 (by decide) B_36.2.2.1 (Nat.le_of_ble_eq_true rfl) (Nat.le_of_ble_eq_true rfl) ?_
  have B_37 := B_36.new (nAz 480 (fun _ => 0))
  refine x_putF co_all d_X8_init_166 fk_8_69 ft_8_27 rfl rfl B_37.o (Nat.le_of_ble_eq_true rfl) rfl rfl B_37.b ?_
  have B_38 := B_37.put [.int 0, .int 0, .ref (a + 1), .ref (a + 2), .ref (a + 3), .ref (a + 4), .ref (a + 5), .ref (a + 6), .ref (a + 7), .ref (a + 8), .ref (a + 9), .ref (a + 10), .ref (a + 11), .ref (a + 12), .ref (a + 13), .ref (a + 14), .int 0, .ref (a + 15), .ref (a + 16), .ref (a + 17), .int 0, .int 0, .int 0, .int 0, .int 0, .int 0, .ref (a + 18), .ref (a + 19), .int 0, .null, .null, .int 0, .int 0, .int 0, .int 0, .null, .null, .long 0, .long 0]
  refine x_aload_n rfl d_X8_init_169 ?_
  refine x_sipush (v := nI 1200) (by decide) d_X8_init_170 ?_
  refine x_newaIz (z := a + 20) d_X8_init_173 (by decide) B_38.2.2.1 (Nat.le_of_ble_eq_true rfl) (Nat.le_of_ble_eq_true rfl) ?_
  have B_39 := B_38.new (nAi 1200 (fun _ => 0))
  refine x_putF co_all d_X8_init_175 fk_8_72 ft_8_29 rfl rfl B_39.o (Nat.le_of_ble_eq_true rfl) rfl rfl B_39.b ?_
  have B_40 := B_39.put [.int 0, .int 0, .ref (a + 1), .ref (a + 2), .ref (a + 3), .ref (a + 4), .ref (a + 5), .ref (a + 6), .ref (a + 7), .ref (a + 8), .ref (a + 9), .ref (a + 10), .ref (a + 11), .ref (a + 12), .ref (a + 13), .ref (a + 14), .int 0, .ref (a + 15), .ref (a + 16), .ref (a + 17), .int 0, .int 0, .int 0, .int 0, .int 0, .int 0, .ref (a + 18), .ref (a + 19), .int 0, .ref (a + 20), .null, .int 0, .int 0, .int 0, .int 0, .null, .null, .long 0, .long 0]
  refine x_aload_n rfl d_X8_init_178 ?_
  refine x_sipush (v := nI 480) (by decide) d_X8_init_179 ?_
  refine x_newaZz (z := a + 21) d_X8_init_182 (by decide) B_40.2.2.1 (Nat.le_of_ble_eq_true rfl) (Nat.le_of_ble_eq_true rfl) ?_
  have B_41 := B_40.new (nAz 480 (fun _ => 0))
  refine x_putF co_all d_X8_init_184 fk_8_75 ft_8_30 rfl rfl B_41.o (Nat.le_of_ble_eq_true rfl) rfl rfl B_41.b ?_
  have B_42 := B_41.put [.int 0, .int 0, .ref (a + 1), .ref (a + 2), .ref (a + 3), .ref (a + 4), .ref (a + 5), .ref (a + 6), .ref (a + 7), .ref (a + 8), .ref (a + 9), .ref (a + 10), .ref (a + 11), .ref (a + 12), .ref (a + 13), .ref (a + 14), .int 0, .ref (a + 15), .ref (a + 16), .ref (a + 17), .int 0, .int 0, .int 0, .int 0, .int 0, .int 0, .ref (a + 18), .ref (a + 19), .int 0, .ref (a + 20), .ref (a + 21), .int 0, .int 0, .int 0, .int 0, .null, .null, .long 0, .long 0]
  refine x_aload_n rfl d_X8_init_187 ?_
  refine x_bipush (v := nI 24) (by decide) d_X8_init_188 ?_
  refine x_newaIz (z := a + 22) d_X8_init_190 (by decide) B_42.2.2.1 (Nat.le_of_ble_eq_true rfl) (Nat.le_of_ble_eq_true rfl) ?_
  have B_43 := B_42.new (nAi 24 (fun _ => 0))
  refine x_putF co_all d_X8_init_192 fk_8_78 ft_8_35 rfl rfl B_43.o (Nat.le_of_ble_eq_true rfl) rfl rfl B_43.b ?_
  have B_44 := B_43.put [.int 0, .int 0, .ref (a + 1), .ref (a + 2), .ref (a + 3), .ref (a + 4), .ref (a + 5), .ref (a + 6), .ref (a + 7), .ref (a + 8), .ref (a + 9), .ref (a + 10), .ref (a + 11), .ref (a + 12), .ref (a + 13), .ref (a + 14), .int 0, .ref (a + 15), .ref (a + 16), .ref (a + 17), .int 0, .int 0, .int 0, .int 0, .int 0, .int 0, .ref (a + 18), .ref (a + 19), .int 0, .ref (a + 20), .ref (a + 21), .int 0, .int 0, .int 0, .int 0, .ref (a + 22), .null, .long 0, .long 0]
  refine x_aload_n rfl d_X8_init_195 ?_
  refine x_sipush (v := nI 480) (by decide) d_X8_init_196 ?_
  refine x_newaLz (z := a + 23) d_X8_init_199 (by decide) B_44.2.2.1 (Nat.le_of_ble_eq_true rfl) (Nat.le_of_ble_eq_true rfl) ?_
  have B_45 := B_44.new (nAl 480 (fun _ => 0))
  refine x_putF co_all d_X8_init_201 fk_8_81 ft_8_36 rfl rfl B_45.o (Nat.le_of_ble_eq_true rfl) rfl rfl B_45.b ?_
  have B_46 := B_45.put [.int 0, .int 0, .ref (a + 1), .ref (a + 2), .ref (a + 3), .ref (a + 4), .ref (a + 5), .ref (a + 6), .ref (a + 7), .ref (a + 8), .ref (a + 9), .ref (a + 10), .ref (a + 11), .ref (a + 12), .ref (a + 13), .ref (a + 14), .int 0, .ref (a + 15), .ref (a + 16), .ref (a + 17), .int 0, .int 0, .int 0, .int 0, .int 0, .int 0, .ref (a + 18), .ref (a + 19), .int 0, .ref (a + 20), .ref (a + 21), .int 0, .int 0, .int 0, .int 0, .ref (a + 22), .ref (a + 23), .long 0, .long 0]
  refine x_aload_n rfl d_X8_init_204 ?_
  refine x_bipush (v := nI 101) (by decide) d_X8_init_205 ?_
  refine x_putf co_all d_X8_init_207 fk_8_85 ft_8_16 B_46.o (Nat.le_of_ble_eq_true rfl) rfl rfl B_46.b ?_
  have B_47 := B_46.put [.int 0, .int 0, .ref (a + 1), .ref (a + 2), .ref (a + 3), .ref (a + 4), .ref (a + 5), .ref (a + 6), .ref (a + 7), .ref (a + 8), .ref (a + 9), .ref (a + 10), .ref (a + 11), .ref (a + 12), .ref (a + 13), .ref (a + 14), .int (nI (101)), .ref (a + 15), .ref (a + 16), .ref (a + 17), .int 0, .int 0, .int 0, .int 0, .int 0, .int 0, .ref (a + 18), .ref (a + 19), .int 0, .ref (a + 20), .ref (a + 21), .int 0, .int 0, .int 0, .int 0, .ref (a + 22), .ref (a + 23), .long 0, .long 0]
  exact x_return d_X8_init_210 rfl B_47.1 B_47.2.1 (Nat.le_of_ble_eq_true rfl) (Nat.le_of_ble_eq_true rfl) (⟨rfl, B_47.mk, B_47.b, B_47.o.trans (by rw [show nI (101) = nV (mIn 16 0) from (nV_s 101).symm]; rfl), B_47.at 0 rfl, B_47.at 1 rfl, B_47.at 2 rfl, B_47.at 3 rfl, B_47.at 4 rfl, B_47.at 5 rfl, B_47.at 6 rfl, B_47.at 7 rfl, B_47.at 8 rfl, B_47.at 9 rfl, (B_47.at 10 rfl).trans (by rw [show (fun i : Nat => nV (mIn 12 i)) = fun _ => 0 from funext fun _ => by show nV 1 = 0; decide]), B_47.at 11 rfl, B_47.at 12 rfl, B_47.at 13 rfl, B_47.at 14 rfl, B_47.at 15 rfl, B_47.at 16 rfl, B_47.at 17 rfl, B_47.at 18 rfl, B_47.at 19 rfl, B_47.at 20 rfl, B_47.at 21 rfl, B_47.at 22 rfl⟩)
def vIn : Nat → Nat → Nat := fun f _ => if f = 3 then 102 else 0
def zIn : Nat → Nat → Nat := fun _ _ => 0
theorem sp_loftInit {h : nPH} {a : Nat} (B : nBld h h a 7 [.null, .int 0, .null, .int 0, .null, .null, .null, .null, .null, .null] []) : nWv YX7_init [.ref a] h none (fun h2 => nMk h h2 a 82 ∧ cF h2 a vIn zIn zIn zIn zIn) := by
  refine nSp_of (by decide +kernel) rfl (Nat.le_of_ble_eq_true rfl) (ls := [some (.ref (a))]) (by exact (And.intro rfl True.intro)) ?_
  refine x_aload_n rfl d_X7_init_0 ?_
  refine x_objI ob_init d_X7_init_1 lk_7_3 (Nat.le_of_ble_eq_true rfl) (Nat.le_of_ble_eq_true rfl) ?_
  refine x_aload_n rfl d_X7_init_4 ?_
  refine x_bipush (v := nI 12) (by decide) d_X7_init_5 ?_
  refine x_newqz (z := a + 1) d_X7_init_7 kl_7_9 (Or.inl rfl) (by decide) B.2.2.1 (Nat.le_of_ble_eq_true rfl) (Nat.le_of_ble_eq_true rfl) ?_
  have B_1 := B.new (nAr (.object "NetLoft$Panel") 12 (fun _ => none))
  refine x_putF co_all d_X7_init_10 fk_7_11 ft_7_0 rfl rfl B_1.o (Nat.le_of_ble_eq_true rfl) rfl rfl B_1.b ?_
  have B_2 := B_1.put [.ref (a + 1), .int 0, .null, .int 0, .null, .null, .null, .null, .null, .null]
  refine x_aload_n rfl d_X7_init_13 ?_
  refine x_bipush (v := nI 101) (by decide) d_X7_init_14 ?_
  refine x_newaIz (z := a + 2) d_X7_init_16 (by decide) B_2.2.2.1 (Nat.le_of_ble_eq_true rfl) (Nat.le_of_ble_eq_true rfl) ?_
  have B_3 := B_2.new (nAi 101 (fun _ => 0))
  refine x_putF co_all d_X7_init_18 fk_7_15 ft_7_2 rfl rfl B_3.o (Nat.le_of_ble_eq_true rfl) rfl rfl B_3.b ?_
  have B_4 := B_3.put [.ref (a + 1), .int 0, .ref (a + 2), .int 0, .null, .null, .null, .null, .null, .null]
  refine x_aload_n rfl d_X7_init_21 ?_
  refine x_bipush (v := nI 101) (by decide) d_X7_init_22 ?_
  refine x_putf co_all d_X7_init_24 fk_7_19 ft_7_3 B_4.o (Nat.le_of_ble_eq_true rfl) rfl rfl B_4.b ?_
  have B_5 := B_4.put [.ref (a + 1), .int 0, .ref (a + 2), .int (nI (101)), .null, .null, .null, .null, .null, .null]
  have M0 := B_5.mk
  have o0_ := B_5.o
  have c1_0 := B_5.at 0 rfl
  have c2_0 := B_5.at 1 rfl
  have hB0 := B_5.b
  clear B_5 B_4 B_3 B_2 B_1
  have P0 := And.intro M0 (And.intro o0_ (And.intro c1_0 (And.intro c2_0 hB0)))
  clear M0 o0_ c1_0 c2_0 hB0
  obtain ⟨g0, eg0, Q0⟩ : ∃ g : nPH, _ = g ∧ (nMk h g a 3 ∧ nAt g a = some (nOb 7 [.ref (a + 1), .int 0, .ref (a + 2), .int (nI (101)), .null, .null, .null, .null, .null, .null]) ∧ nAt g (a + 1) = some (nAr (.object "NetLoft$Panel") 12 (fun _ => none)) ∧ nAt g (a + 2) = some (nAi 101 (fun _ => 0)) ∧ g.2.1 ≤ a) := ⟨_, rfl, P0⟩
  refine nG.eq (h2 := g0) rfl rfl eg0 rfl rfl ?_
  clear eg0 P0
  obtain ⟨M, o, c1, c2, hB⟩ := Q0
  refine x_aload_n rfl d_X7_init_27 ?_
  refine x_new co_all d_X7_init_28 nn_7_23 df_0 (Nat.le_of_ble_eq_true rfl) (Nat.le_of_ble_eq_true rfl) ?_
  have Bi := nBld_new M.2.2.2.2 0 [.int 0, .int 0, .int 0, .int 0, .null, .null, .null, .null, .int 0]
  have ez : g0.2.2.1 = a + 3 := M.2.2.1
  rw [ez] at Bi ⊢
  refine x_dup rfl d_X7_init_31 ?_
  refine x_wvIN d_X7_init_32 lk_7_25 mo_X0_init ii_X0_init rfl (sp_holeInit Bi) rfl ⟨Nat.le_of_ble_eq_true rfl, Nat.le_of_ble_eq_true rfl⟩ (Nat.le_of_ble_eq_true rfl) (Nat.le_of_ble_eq_true rfl) (Nat.le_of_ble_eq_true rfl) rfl (fun h1 hp_ e1_ e2_ => ?_)
  obtain ⟨Mi, Hi⟩ := hp_
  have Mi : nMk g0 h1 (a + 3) 25 := by
    rw [← ez] at Mi ⊢
    exact nMk_new Mi
  have M2 := nMk_tr M Mi
  have o2_ := (Mi.2.2.2.1 a (by omega)).trans o
  have hB2 : h1.2.1 ≤ a := by rw [Mi.2.1]; exact hB
  refine x_putF co_all d_X7_init_35 fk_7_26 ft_7_4 rfl rfl o2_ (Nat.le_of_ble_eq_true rfl) rfl rfl hB2 ?_
  obtain ⟨g1, eg, Q1⟩ : ∃ g : nPH, (nSt h1 a (nOb 7 [.ref (a + 1), .int 0, .ref (a + 2), .int (nI (101)), .ref (a + 3), .null, .null, .null, .null, .null])) = g ∧ (nMk h g a 28 ∧ nAt g a = some (nOb 7 [.ref (a + 1), .int 0, .ref (a + 2), .int (nI (101)), .ref (a + 3), .null, .null, .null, .null, .null]) ∧ nAt g (a + 1) = some (nAr (.object "NetLoft$Panel") 12 (fun _ => none)) ∧ nAt g (a + 2) = some (nAi 101 (fun _ => 0)) ∧ g.2.1 ≤ a ∧ o0 g (a + 3) zIn) := ⟨_, rfl, M2.fr ((nFr.rf (S := nIv a 28) (h := h1)).st (e := nOb 7 [.ref (a + 1), .int 0, .ref (a + 2), .int (nI (101)), .ref (a + 3), .null, .null, .null, .null, .null]) o2_ ⟨by omega, by omega⟩), nAt_eq, (nAt_ne (by omega)).trans ((Mi.2.2.2.1 (a + 1) (by omega)).trans c1), (nAt_ne (by omega)).trans ((Mi.2.2.2.1 (a + 2) (by omega)).trans c2), hB2, o0_kept Hi rfl (fun q q1 q2 => nAt_ne (by omega))⟩
  refine nG.eq (h2 := g1) rfl rfl eg rfl rfl ?_
  clear eg M o c1 c2 hB Bi ez Mi Hi M2 o2_ hB2
  obtain ⟨M, o, c1, c2, hB, H0⟩ := Q1
  refine x_aload_n rfl d_X7_init_38 ?_
  refine x_new co_all d_X7_init_39 nn_7_23 df_0 (Nat.le_of_ble_eq_true rfl) (Nat.le_of_ble_eq_true rfl) ?_
  have Bi := nBld_new M.2.2.2.2 0 [.int 0, .int 0, .int 0, .int 0, .null, .null, .null, .null, .int 0]
  have ez : g1.2.2.1 = a + 28 := M.2.2.1
  rw [ez] at Bi ⊢
  refine x_dup rfl d_X7_init_42 ?_
  refine x_wvIN d_X7_init_43 lk_7_25 mo_X0_init ii_X0_init rfl (sp_holeInit Bi) rfl ⟨Nat.le_of_ble_eq_true rfl, Nat.le_of_ble_eq_true rfl⟩ (Nat.le_of_ble_eq_true rfl) (Nat.le_of_ble_eq_true rfl) (Nat.le_of_ble_eq_true rfl) rfl (fun h2 hp_ e1_ e2_ => ?_)
  obtain ⟨Mi, Hi⟩ := hp_
  have Mi : nMk g1 h2 (a + 28) 25 := by
    rw [← ez] at Mi ⊢
    exact nMk_new Mi
  have M2 := nMk_tr M Mi
  have o2_ := (Mi.2.2.2.1 a (by omega)).trans o
  have hB2 : h2.2.1 ≤ a := by rw [Mi.2.1]; exact hB
  refine x_putF co_all d_X7_init_46 fk_7_30 ft_7_5 rfl rfl o2_ (Nat.le_of_ble_eq_true rfl) rfl rfl hB2 ?_
  obtain ⟨g2, eg, Q2⟩ : ∃ g : nPH, (nSt h2 a (nOb 7 [.ref (a + 1), .int 0, .ref (a + 2), .int (nI (101)), .ref (a + 3), .ref (a + 28), .null, .null, .null, .null])) = g ∧ (nMk h g a 53 ∧ nAt g a = some (nOb 7 [.ref (a + 1), .int 0, .ref (a + 2), .int (nI (101)), .ref (a + 3), .ref (a + 28), .null, .null, .null, .null]) ∧ nAt g (a + 1) = some (nAr (.object "NetLoft$Panel") 12 (fun _ => none)) ∧ nAt g (a + 2) = some (nAi 101 (fun _ => 0)) ∧ g.2.1 ≤ a ∧ o0 g (a + 3) zIn ∧ o0 g (a + 28) zIn) := ⟨_, rfl, M2.fr ((nFr.rf (S := nIv a 53) (h := h2)).st (e := nOb 7 [.ref (a + 1), .int 0, .ref (a + 2), .int (nI (101)), .ref (a + 3), .ref (a + 28), .null, .null, .null, .null]) o2_ ⟨by omega, by omega⟩), nAt_eq, (nAt_ne (by omega)).trans ((Mi.2.2.2.1 (a + 1) (by omega)).trans c1), (nAt_ne (by omega)).trans ((Mi.2.2.2.1 (a + 2) (by omega)).trans c2), hB2, o0_kept H0 Mi.2.1 (fun q q1 q2 => (nAt_ne (by omega)).trans (Mi.2.2.2.1 q (by omega))), o0_kept Hi rfl (fun q q1 q2 => nAt_ne (by omega))⟩
  refine nG.eq (h2 := g2) rfl rfl eg rfl rfl ?_
  clear eg M o c1 c2 hB H0 Bi ez Mi Hi M2 o2_ hB2
  obtain ⟨M, o, c1, c2, hB, H0, H1⟩ := Q2
  refine x_aload_n rfl d_X7_init_49 ?_
  refine x_new co_all d_X7_init_50 nn_7_33 df_6 (Nat.le_of_ble_eq_true rfl) (Nat.le_of_ble_eq_true rfl) ?_
  have Bi := nBld_new M.2.2.2.2 6 [.int 0, .null, .null, .int 0]
  have ez : g2.2.2.1 = a + 53 := M.2.2.1
  rw [ez] at Bi ⊢
  refine x_dup rfl d_X7_init_53 ?_
  refine x_wvIN d_X7_init_54 lk_7_35 mo_X6_init ii_X6_init rfl (sp_wayInit Bi) rfl ⟨Nat.le_of_ble_eq_true rfl, Nat.le_of_ble_eq_true rfl⟩ (Nat.le_of_ble_eq_true rfl) (Nat.le_of_ble_eq_true rfl) (Nat.le_of_ble_eq_true rfl) rfl (fun h3 hp_ e1_ e2_ => ?_)
  obtain ⟨Mi, Hi⟩ := hp_
  have Mi : nMk g2 h3 (a + 53) 3 := by
    rw [← ez] at Mi ⊢
    exact nMk_new Mi
  have M2 := nMk_tr M Mi
  have o2_ := (Mi.2.2.2.1 a (by omega)).trans o
  have hB2 : h3.2.1 ≤ a := by rw [Mi.2.1]; exact hB
  refine x_putF co_all d_X7_init_57 fk_7_36 ft_7_6 rfl rfl o2_ (Nat.le_of_ble_eq_true rfl) rfl rfl hB2 ?_
  obtain ⟨g3, eg, Q3⟩ : ∃ g : nPH, (nSt h3 a (nOb 7 [.ref (a + 1), .int 0, .ref (a + 2), .int (nI (101)), .ref (a + 3), .ref (a + 28), .ref (a + 53), .null, .null, .null])) = g ∧ (nMk h g a 56 ∧ nAt g a = some (nOb 7 [.ref (a + 1), .int 0, .ref (a + 2), .int (nI (101)), .ref (a + 3), .ref (a + 28), .ref (a + 53), .null, .null, .null]) ∧ nAt g (a + 1) = some (nAr (.object "NetLoft$Panel") 12 (fun _ => none)) ∧ nAt g (a + 2) = some (nAi 101 (fun _ => 0)) ∧ g.2.1 ≤ a ∧ o0 g (a + 3) zIn ∧ o0 g (a + 28) zIn ∧ o6 g (a + 53) zIn) := ⟨_, rfl, M2.fr ((nFr.rf (S := nIv a 56) (h := h3)).st (e := nOb 7 [.ref (a + 1), .int 0, .ref (a + 2), .int (nI (101)), .ref (a + 3), .ref (a + 28), .ref (a + 53), .null, .null, .null]) o2_ ⟨by omega, by omega⟩), nAt_eq, (nAt_ne (by omega)).trans ((Mi.2.2.2.1 (a + 1) (by omega)).trans c1), (nAt_ne (by omega)).trans ((Mi.2.2.2.1 (a + 2) (by omega)).trans c2), hB2, o0_kept H0 Mi.2.1 (fun q q1 q2 => (nAt_ne (by omega)).trans (Mi.2.2.2.1 q (by omega))), o0_kept H1 Mi.2.1 (fun q q1 q2 => (nAt_ne (by omega)).trans (Mi.2.2.2.1 q (by omega))), o6_kept Hi rfl (fun q q1 q2 => nAt_ne (by omega))⟩
  refine nG.eq (h2 := g3) rfl rfl eg rfl rfl ?_
  clear eg M o c1 c2 hB H0 H1 Bi ez Mi Hi M2 o2_ hB2
  obtain ⟨M, o, c1, c2, hB, H0, H1, H2⟩ := Q3
  refine x_aload_n rfl d_X7_init_60 ?_
  refine x_new co_all d_X7_init_61 nn_7_40 df_5 (Nat.le_of_ble_eq_true rfl) (Nat.le_of_ble_eq_true rfl) ?_
  have Bi := nBld_new M.2.2.2.2 5 [.int 0, .int 0, .int 0]
  have ez : g3.2.2.1 = a + 56 := M.2.2.1
  rw [ez] at Bi ⊢
  refine x_dup rfl d_X7_init_64 ?_
  refine x_wvIN d_X7_init_65 lk_7_42 mo_X5_init ii_X5_init rfl (sp_taperInit Bi) rfl ⟨Nat.le_of_ble_eq_true rfl, Nat.le_of_ble_eq_true rfl⟩ (Nat.le_of_ble_eq_true rfl) (Nat.le_of_ble_eq_true rfl) (Nat.le_of_ble_eq_true rfl) rfl (fun h4 hp_ e1_ e2_ => ?_)
  obtain ⟨Mi, Hi⟩ := hp_
  have Mi : nMk g3 h4 (a + 56) 1 := by
    rw [← ez] at Mi ⊢
    exact nMk_new Mi
  have M2 := nMk_tr M Mi
  have o2_ := (Mi.2.2.2.1 a (by omega)).trans o
  have hB2 : h4.2.1 ≤ a := by rw [Mi.2.1]; exact hB
  refine x_putF co_all d_X7_init_68 fk_7_43 ft_7_7 rfl rfl o2_ (Nat.le_of_ble_eq_true rfl) rfl rfl hB2 ?_
  obtain ⟨g4, eg, Q4⟩ : ∃ g : nPH, (nSt h4 a (nOb 7 [.ref (a + 1), .int 0, .ref (a + 2), .int (nI (101)), .ref (a + 3), .ref (a + 28), .ref (a + 53), .ref (a + 56), .null, .null])) = g ∧ (nMk h g a 57 ∧ nAt g a = some (nOb 7 [.ref (a + 1), .int 0, .ref (a + 2), .int (nI (101)), .ref (a + 3), .ref (a + 28), .ref (a + 53), .ref (a + 56), .null, .null]) ∧ nAt g (a + 1) = some (nAr (.object "NetLoft$Panel") 12 (fun _ => none)) ∧ nAt g (a + 2) = some (nAi 101 (fun _ => 0)) ∧ g.2.1 ≤ a ∧ o0 g (a + 3) zIn ∧ o0 g (a + 28) zIn ∧ o6 g (a + 53) zIn ∧ o5 g (a + 56) zIn) := ⟨_, rfl, M2.fr ((nFr.rf (S := nIv a 57) (h := h4)).st (e := nOb 7 [.ref (a + 1), .int 0, .ref (a + 2), .int (nI (101)), .ref (a + 3), .ref (a + 28), .ref (a + 53), .ref (a + 56), .null, .null]) o2_ ⟨by omega, by omega⟩), nAt_eq, (nAt_ne (by omega)).trans ((Mi.2.2.2.1 (a + 1) (by omega)).trans c1), (nAt_ne (by omega)).trans ((Mi.2.2.2.1 (a + 2) (by omega)).trans c2), hB2, o0_kept H0 Mi.2.1 (fun q q1 q2 => (nAt_ne (by omega)).trans (Mi.2.2.2.1 q (by omega))), o0_kept H1 Mi.2.1 (fun q q1 q2 => (nAt_ne (by omega)).trans (Mi.2.2.2.1 q (by omega))), o6_kept H2 Mi.2.1 (fun q q1 q2 => (nAt_ne (by omega)).trans (Mi.2.2.2.1 q (by omega))), o5_kept Hi rfl (fun q q1 q2 => nAt_ne (by omega))⟩
  refine nG.eq (h2 := g4) rfl rfl eg rfl rfl ?_
  clear eg M o c1 c2 hB H0 H1 H2 Bi ez Mi Hi M2 o2_ hB2
  obtain ⟨M, o, c1, c2, hB, H0, H1, H2, H3⟩ := Q4
  refine x_aload_n rfl d_X7_init_71 ?_
  refine x_new co_all d_X7_init_72 nn_7_47 df_4 (Nat.le_of_ble_eq_true rfl) (Nat.le_of_ble_eq_true rfl) ?_
  have Bi := nBld_new M.2.2.2.2 4 [.int 0, .null]
  have ez : g4.2.2.1 = a + 57 := M.2.2.1
  rw [ez] at Bi ⊢
  refine x_dup rfl d_X7_init_75 ?_
  refine x_wvIN d_X7_init_76 lk_7_49 mo_X4_init ii_X4_init rfl (sp_seamInit Bi) rfl ⟨Nat.le_of_ble_eq_true rfl, Nat.le_of_ble_eq_true rfl⟩ (Nat.le_of_ble_eq_true rfl) (Nat.le_of_ble_eq_true rfl) (Nat.le_of_ble_eq_true rfl) rfl (fun h5 hp_ e1_ e2_ => ?_)
  obtain ⟨Mi, Hi⟩ := hp_
  have Mi : nMk g4 h5 (a + 57) 2 := by
    rw [← ez] at Mi ⊢
    exact nMk_new Mi
  have M2 := nMk_tr M Mi
  have o2_ := (Mi.2.2.2.1 a (by omega)).trans o
  have hB2 : h5.2.1 ≤ a := by rw [Mi.2.1]; exact hB
  refine x_putF co_all d_X7_init_79 fk_7_50 ft_7_8 rfl rfl o2_ (Nat.le_of_ble_eq_true rfl) rfl rfl hB2 ?_
  obtain ⟨g5, eg, Q5⟩ : ∃ g : nPH, (nSt h5 a (nOb 7 [.ref (a + 1), .int 0, .ref (a + 2), .int (nI (101)), .ref (a + 3), .ref (a + 28), .ref (a + 53), .ref (a + 56), .ref (a + 57), .null])) = g ∧ (nMk h g a 59 ∧ nAt g a = some (nOb 7 [.ref (a + 1), .int 0, .ref (a + 2), .int (nI (101)), .ref (a + 3), .ref (a + 28), .ref (a + 53), .ref (a + 56), .ref (a + 57), .null]) ∧ nAt g (a + 1) = some (nAr (.object "NetLoft$Panel") 12 (fun _ => none)) ∧ nAt g (a + 2) = some (nAi 101 (fun _ => 0)) ∧ g.2.1 ≤ a ∧ o0 g (a + 3) zIn ∧ o0 g (a + 28) zIn ∧ o6 g (a + 53) zIn ∧ o5 g (a + 56) zIn ∧ o4 g (a + 57) zIn) := ⟨_, rfl, M2.fr ((nFr.rf (S := nIv a 59) (h := h5)).st (e := nOb 7 [.ref (a + 1), .int 0, .ref (a + 2), .int (nI (101)), .ref (a + 3), .ref (a + 28), .ref (a + 53), .ref (a + 56), .ref (a + 57), .null]) o2_ ⟨by omega, by omega⟩), nAt_eq, (nAt_ne (by omega)).trans ((Mi.2.2.2.1 (a + 1) (by omega)).trans c1), (nAt_ne (by omega)).trans ((Mi.2.2.2.1 (a + 2) (by omega)).trans c2), hB2, o0_kept H0 Mi.2.1 (fun q q1 q2 => (nAt_ne (by omega)).trans (Mi.2.2.2.1 q (by omega))), o0_kept H1 Mi.2.1 (fun q q1 q2 => (nAt_ne (by omega)).trans (Mi.2.2.2.1 q (by omega))), o6_kept H2 Mi.2.1 (fun q q1 q2 => (nAt_ne (by omega)).trans (Mi.2.2.2.1 q (by omega))), o5_kept H3 Mi.2.1 (fun q q1 q2 => (nAt_ne (by omega)).trans (Mi.2.2.2.1 q (by omega))), o4_kept Hi rfl (fun q q1 q2 => nAt_ne (by omega))⟩
  refine nG.eq (h2 := g5) rfl rfl eg rfl rfl ?_
  clear eg M o c1 c2 hB H0 H1 H2 H3 Bi ez Mi Hi M2 o2_ hB2
  obtain ⟨M, o, c1, c2, hB, H0, H1, H2, H3, H4⟩ := Q5
  refine x_aload_n rfl d_X7_init_82 ?_
  refine x_new co_all d_X7_init_83 nn_7_54 df_1 (Nat.le_of_ble_eq_true rfl) (Nat.le_of_ble_eq_true rfl) ?_
  have Bi := nBld_new M.2.2.2.2 1 [.long 0, .long 0, .null, .null]
  have ez : g5.2.2.1 = a + 59 := M.2.2.1
  rw [ez] at Bi ⊢
  refine x_dup rfl d_X7_init_86 ?_
  refine x_wvIN d_X7_init_87 lk_7_56 mo_X1_init ii_X1_init rfl (sp_loadsInit Bi) rfl ⟨Nat.le_of_ble_eq_true rfl, Nat.le_of_ble_eq_true rfl⟩ (Nat.le_of_ble_eq_true rfl) (Nat.le_of_ble_eq_true rfl) (Nat.le_of_ble_eq_true rfl) rfl (fun h6 hp_ e1_ e2_ => ?_)
  obtain ⟨Mi, Hi⟩ := hp_
  have Mi : nMk g5 h6 (a + 59) 23 := by
    rw [← ez] at Mi ⊢
    exact nMk_new Mi
  have M2 := nMk_tr M Mi
  have o2_ := (Mi.2.2.2.1 a (by omega)).trans o
  have hB2 : h6.2.1 ≤ a := by rw [Mi.2.1]; exact hB
  refine x_putF co_all d_X7_init_90 fk_7_57 ft_7_9 rfl rfl o2_ (Nat.le_of_ble_eq_true rfl) rfl rfl hB2 ?_
  obtain ⟨g6, eg, Q6⟩ : ∃ g : nPH, (nSt h6 a (nOb 7 [.ref (a + 1), .int 0, .ref (a + 2), .int (nI (101)), .ref (a + 3), .ref (a + 28), .ref (a + 53), .ref (a + 56), .ref (a + 57), .ref (a + 59)])) = g ∧ (nMk h g a 82 ∧ nAt g a = some (nOb 7 [.ref (a + 1), .int 0, .ref (a + 2), .int (nI (101)), .ref (a + 3), .ref (a + 28), .ref (a + 53), .ref (a + 56), .ref (a + 57), .ref (a + 59)]) ∧ nAt g (a + 1) = some (nAr (.object "NetLoft$Panel") 12 (fun _ => none)) ∧ nAt g (a + 2) = some (nAi 101 (fun _ => 0)) ∧ g.2.1 ≤ a ∧ o0 g (a + 3) zIn ∧ o0 g (a + 28) zIn ∧ o6 g (a + 53) zIn ∧ o5 g (a + 56) zIn ∧ o4 g (a + 57) zIn ∧ o1 g (a + 59) zIn) := ⟨_, rfl, M2.fr ((nFr.rf (S := nIv a 82) (h := h6)).st (e := nOb 7 [.ref (a + 1), .int 0, .ref (a + 2), .int (nI (101)), .ref (a + 3), .ref (a + 28), .ref (a + 53), .ref (a + 56), .ref (a + 57), .ref (a + 59)]) o2_ ⟨by omega, by omega⟩), nAt_eq, (nAt_ne (by omega)).trans ((Mi.2.2.2.1 (a + 1) (by omega)).trans c1), (nAt_ne (by omega)).trans ((Mi.2.2.2.1 (a + 2) (by omega)).trans c2), hB2, o0_kept H0 Mi.2.1 (fun q q1 q2 => (nAt_ne (by omega)).trans (Mi.2.2.2.1 q (by omega))), o0_kept H1 Mi.2.1 (fun q q1 q2 => (nAt_ne (by omega)).trans (Mi.2.2.2.1 q (by omega))), o6_kept H2 Mi.2.1 (fun q q1 q2 => (nAt_ne (by omega)).trans (Mi.2.2.2.1 q (by omega))), o5_kept H3 Mi.2.1 (fun q q1 q2 => (nAt_ne (by omega)).trans (Mi.2.2.2.1 q (by omega))), o4_kept H4 Mi.2.1 (fun q q1 q2 => (nAt_ne (by omega)).trans (Mi.2.2.2.1 q (by omega))), o1_kept Hi rfl (fun q q1 q2 => nAt_ne (by omega))⟩
  refine nG.eq (h2 := g6) rfl rfl eg rfl rfl ?_
  clear eg M o c1 c2 hB H0 H1 H2 H3 H4 Bi ez Mi Hi M2 o2_ hB2
  obtain ⟨M, o, c1, c2, hB, H0, H1, H2, H3, H4, H5⟩ := Q6
  exact x_return d_X7_init_93 rfl M.1 M.2.1 (Nat.le_of_ble_eq_true rfl) (Nat.le_of_ble_eq_true rfl) ⟨rfl, M, ⟨hB, o.trans (by rw [show nI (101) = nV (vIn 3 0) from (nV_s 101).symm]; rfl), c1.trans (by rw [show (fun r : Nat => if r < vIn 1 0 then some (vIn 0 r) else none) = fun _ => none from funext fun r => if_neg (Nat.not_lt_zero r)]), c2⟩, H0, ⟨zIn, H1⟩, H2, H3, H4, zIn, H5⟩
