/-! the law, from its entry -/
theorem lW1 (n : Nat) {w : Cond} (h : tables_1_1[n]? = some w) : w ∈ lw_tbl := List.mem_append_right _ (List.mem_append_left _ (List.mem_of_getElem? h))
theorem lW2 (n : Nat) {w : Cond} (h : tables_1_2[n]? = some w) : w ∈ lw_tbl := List.mem_append_right _ (List.mem_append_right _ (List.mem_append_left _ (List.mem_of_getElem? h)))
theorem lW3 (n : Nat) {w : Cond} (h : tables_1_3[n]? = some w) : w ∈ lw_tbl := List.mem_append_right _ (List.mem_append_right _ (List.mem_append_right _ (List.mem_append_left _ (List.mem_of_getElem? h))))
theorem lW4 (n : Nat) {w : Cond} (h : tables_1_4[n]? = some w) : w ∈ lw_tbl := List.mem_append_right _ (List.mem_append_right _ (List.mem_append_right _ (List.mem_append_right _ (List.mem_append_left _ (List.mem_of_getElem? h)))))
theorem lW5 (n : Nat) {w : Cond} (h : tables_1_5[n]? = some w) : w ∈ lw_tbl := List.mem_append_right _ (List.mem_append_right _ (List.mem_append_right _ (List.mem_append_right _ (List.mem_append_right _ (List.mem_of_getElem? h)))))
theorem nN_i {o idx c N : Nat} (h : nN o idx c N) {q : vw_C} (hq : vwCl[c]? = some q) : Cond.instantiable q.1 N ∈ nWs := by
  obtain ⟨q2, h1, h2, h3, h4, h5⟩ := h
  rw [hq] at h1
  cases h1
  exact h4
theorem kn_ex {args : Array Value} {s : State} (hw : ∀ w ∈ nWs, w.before args s = true) (k : Nat) : ∃ x : ClassId × (Nat → Nat), ∀ q : vw_C, vwCl[k]? = some q → u_Kn s q.1 q.2.1 q.2.2 x.1 x.2 := by
  have key : ∀ (o idx c N : Nat), nN o idx c N → ∃ x : ClassId × (Nat → Nat), ∀ q : vw_C, vwCl[c]? = some q → u_Kn s q.1 q.2.1 q.2.2 x.1 x.2 := fun o idx c N hn => by
    obtain ⟨q, hq, -⟩ := id hn
    obtain ⟨cC, iS, hK⟩ := u_known (n := N) hw (co_all c q hq).1 (hw _ (nN_i hn hq))
    exact ⟨(cC, iS), fun q2 hq2 => by rw [hq] at hq2; cases hq2; exact hK⟩
  match k with
  | 0 => exact key _ _ _ _ nn_7_23
  | 1 => exact key _ _ _ _ nn_7_54
  | 2 => exact key _ _ _ _ nn_7_9
  | 3 => exact key _ _ _ _ nn_7_72
  | 4 => exact key _ _ _ _ nn_7_47
  | 5 => exact key _ _ _ _ nn_7_40
  | 6 => exact key _ _ _ _ nn_7_33
  | 7 => exact key _ _ _ _ nn_9_7
  | 8 => exact key _ _ _ _ nn_9_10
  | k + 9 => exact ⟨(0, fun _ => 0), fun q hq => by simp at hq⟩
theorem nest_all {args : Array Value} {s : State} (hts : ∀ w ∈ lw_tbl, w.before args s = true) : ∀ q ∈ nNL, va_Nw (.methodLinkNest q.1 q.2.1 q.2.2.1 q.2.2.2) s := by
  exact (List.forall_mem_cons.mpr ⟨va_Nw.of rfl (hts _ (lW1 25 rfl)), (List.forall_mem_cons.mpr ⟨va_Nw.of rfl (hts _ (lW1 63 rfl)), (List.forall_mem_cons.mpr ⟨va_Nw.of rfl (hts _ (lW1 83 rfl)), (List.forall_mem_cons.mpr ⟨va_Nw.of rfl (hts _ (lW1 99 rfl)), (List.forall_mem_cons.mpr ⟨va_Nw.of rfl (hts _ (lW1 114 rfl)), (List.forall_mem_cons.mpr ⟨va_Nw.of rfl (hts _ (lW2 47 rfl)), (List.forall_mem_cons.mpr ⟨va_Nw.of rfl (hts _ (lW1 220 rfl)), (List.forall_mem_cons.mpr ⟨va_Nw.of rfl (hts _ (lW2 86 rfl)), (List.forall_mem_cons.mpr ⟨va_Nw.of rfl (hts _ (lW2 225 rfl)), (List.forall_mem_cons.mpr ⟨va_Nw.of rfl (hts _ (lW3 58 rfl)), (List.forall_mem_cons.mpr ⟨va_Nw.of rfl (hts _ (lW3 109 rfl)), (List.forall_mem_cons.mpr ⟨va_Nw.of rfl (hts _ (lW3 168 rfl)), (fun _ h => absurd h List.not_mem_nil)⟩)⟩)⟩)⟩)⟩)⟩)⟩)⟩)⟩)⟩)⟩)⟩)
theorem nK_in {args : Array Value} {s : State} {D : va_G} (hts : ∀ w ∈ lw_tbl, w.before args s = true) (hf : ∀ (k : Nat) (q : vw_C), vwCl[k]? = some q → u_Kn s q.1 q.2.1 q.2.2 (D.1 k) (D.2 k)) : nK D s :=
  ⟨⟨hf, fun k q h => by simp at h⟩, nest_all hts, hts _ (lW1 22 rfl), hts _ (lW1 182 rfl), hts _ (lW1 30 rfl), hts _ (lW1 119 rfl)⟩
theorem wB_in {h : nPH} {a b : Nat} (CF : cF h a vIn zIn zIn zIn zIn) (H : o8 h b mIn) (hw : nWF h) (hab : a + 82 ≤ b) (hb : b + 24 ≤ h.2.2.1) : wB h a b := by
  refine ⟨mIn, vIn, fun _ => zIn, fun _ _ => zIn, zIn, zIn, zIn, zIn, ⟨CF, ⟨fun p hp => absurd hp (Nat.not_lt_zero p), fun p p2 hp => absurd hp (Nat.not_lt_zero p)⟩, Nat.zero_le _, hw, Or.inl hab, hb⟩, H, ⟨⟨rfl, rfl, fun i _ => rfl⟩, fun p hp => absurd hp (Nat.not_lt_zero p), ⟨rfl, fun z => absurd z (by decide)⟩, ⟨rfl, fun i hi => absurd hi (Nat.not_lt_zero i)⟩, ⟨⟨fun _ => rfl, fun _ => rfl⟩, fun z => absurd rfl z⟩, ⟨rfl, fun i hi => absurd hi (Nat.not_lt_zero i)⟩⟩, ⟨Nat.zero_le _, Nat.le_refl _, fun i _ => Nat.zero_le _, fun p hp => absurd hp (Nat.not_lt_zero p)⟩, ⟨Nat.zero_le _, Nat.zero_le _, Nat.zero_le _, fun j hj => absurd hj (Nat.not_lt_zero j)⟩, Nat.zero_le _, fun z => absurd rfl z, Nat.zero_le _⟩
theorem lw_in {sc L B : Nat} {xs : Nat → Int32} {h : nPH} (hL : L ≤ 3072) (hw : nWF h) (hB : h.2.1 = B) : nG YL_law (κL sc L xs B) 0 0 0 [some (.ref sc), none, none, none] [] h := by
  generalize hzz : h.2.2.1 = z
  refine x_new co_all d_L_law_0 nn_9_7 df_7 (Nat.le_of_ble_eq_true rfl) (Nat.le_of_ble_eq_true rfl) ?_
  have B0 := nBld_new hw 7 [.null, .int 0, .null, .int 0, .null, .null, .null, .null, .null, .null]
  rw [hzz] at B0 ⊢
  refine x_dup rfl d_L_law_3 ?_
  refine x_wvI d_L_law_4 lk_9_9 mo_X7_init ii_X7_init rfl (sp_loftInit B0) rfl ⟨Nat.le_of_ble_eq_true rfl, Nat.le_of_ble_eq_true rfl⟩ (Nat.le_of_ble_eq_true rfl) (Nat.le_of_ble_eq_true rfl) (Nat.le_of_ble_eq_true rfl) rfl (fun h2 hp e1 e2 => ?_)
  obtain ⟨M, CF⟩ := hp
  rw [← hzz] at M
  have M := nMk_new M
  have hw2 := M.2.2.2.2
  have hz2 : h2.2.2.1 = z + 82 := by rw [M.2.2.1, hzz]
  refine x_astore_n d_L_law_7 (Nat.le_of_ble_eq_true rfl) ?_
  refine x_new co_all d_L_law_8 nn_9_10 df_8 (Nat.le_of_ble_eq_true rfl) (Nat.le_of_ble_eq_true rfl) ?_
  have B1 := nBld_new hw2 8 [.int 0, .int 0, .null, .null, .null, .null, .null, .null, .null, .null, .null, .null, .null, .null, .null, .null, .int 0, .null, .null, .null, .int 0, .int 0, .int 0, .int 0, .int 0, .int 0, .null, .null, .int 0, .null, .null, .int 0, .int 0, .int 0, .int 0, .null, .null, .long 0, .long 0]
  rw [hz2] at B1 ⊢
  refine x_dup rfl d_L_law_11 ?_
  refine x_wvI d_L_law_12 lk_9_12 mo_X8_init ii_X8_init rfl (sp_modelInit B1) rfl ⟨Nat.le_of_ble_eq_true rfl, Nat.le_of_ble_eq_true rfl⟩ (Nat.le_of_ble_eq_true rfl) (Nat.le_of_ble_eq_true rfl) (Nat.le_of_ble_eq_true rfl) rfl (fun h3 hp e3 e4 => ?_)
  obtain ⟨M3, H3⟩ := hp
  rw [← hz2] at M3
  have M3 := nMk_new M3
  have hz3 : h3.2.2.1 = z + 82 + 24 := by rw [M3.2.2.1, hz2]
  have CF3 : cF h3 z vIn zIn zIn zIn zIn := cF_kept CF M3.2.1 (fun q q1 q2 => M3.2.2.2.1 q (by omega))
  refine x_astore_n d_L_law_15 (Nat.le_of_ble_eq_true rfl) ?_
  refine x_iconst (v := nI 0) (by decide) d_L_law_16 ?_
  refine x_istore_n d_L_law_17 (Nat.le_of_ble_eq_true rfl) ?_
  exact nG.sub (by exact (And.intro rfl (And.intro rfl (And.intro rfl (And.intro rfl True.intro))))) (lw_lp hL 512 0 _ _ h3 (by omega) (by omega) (Nat.le_of_ble_eq_true rfl) (Nat.le_of_ble_eq_true rfl) (M3.2.1.trans (M.2.1.trans hB)) (wB_in CF3 H3 M3.2.2.2.2 (Nat.le_refl _) (by omega)))
/-- what holds at the law's entry: the machine, the code, the tables' words (any of lw_tbl by 'hts w (by decide +kernel)'), the script of L ints xs at the cell b, what the Statement gives of the start (any of its parts by flat_of_before) -/
def lw_At (p : Program) (s : State) (m : MethodId) (meth : Method) (c : Code) (b L : Nat) (xs : Nat → Int32) : Prop :=
  p.tables.exec = Jvm.exec ∧ c.code = code ∧ meth.sig.returnType = ret ∧ c.maxLocals = 4 ∧ s.vm.findClass R_law = some m.cls ∧ (∀ w ∈ lw_tbl, w.before #[Value.ref b] s = true) ∧ va_X b L xs s s.heap ∧ b < s.heap.size ∧ meth.locks = false ∧ (Jvm.Cond.and given_1 narrow_1).before #[Value.ref b] s = true ∧ meth.name = "law"
theorem whole_start {p : Program} {e : Env} {s : State} {m : MethodId} {below : List Frame} {meth : Method} {c : Code} (l : Launch) (hflags : l.flags = flags0) {b L : Nat} {xs : Nat → Int32} (hL : L ≤ 3072) (C0 : lw_At p s m meth c b L xs) : W p l e room_1 s m #[Value.ref b] below meth c s.heap [] 0 0 (lw_Z below #[Value.ref b] s) (entryFrame m ([Value.ref b] : List Value).toArray 4) := by
  obtain ⟨hx, hb, hr, hml, hown, hts, hX, hbl, hlocks, hgv, hnm⟩ := id C0
  have hw : ∀ w ∈ nWs, w.before #[Value.ref b] s = true := fun w hw => hts w (List.mem_filter.mp hw).1
  obtain ⟨f, hf⟩ := Classical.axiomOfChoice (kn_ex hw)
  have hK : nK (fun k => (f k).1, fun k => (f k).2) s := nK_in hts hf
  have he := lv_entry [Value.ref b] (n := 4) (Nat.le_of_ble_eq_true rfl)
  rw [lg_entry_eq]
  have key := lw_in (sc := b) (xs := xs) (h := ((fun k => (f k).1, fun k => (f k).2), s.heap.size, s.heap.size, fun _ => none)) hL ⟨Nat.le_refl _, fun q _ => rfl⟩ rfl
  intro T hT X
  obtain ⟨t, a1, b1⟩ := key p l e s m #[Value.ref b] below meth c s.heap [] _ ⟨hx, hb, hml, hown, hw, hr, hlocks, hnm, hK⟩ ⟨rfl, fun a e ha => by cases ha⟩ ⟨he.1, he.2.1, fun i v hi => by
    have h1 := nEv_at [Value.ref b] _ i 0 v (nSub_at (u := nEv [Value.ref b] ++ List.replicate 4 none) (by exact (And.intro rfl True.intro)) i v hi)
    rw [Nat.zero_add] at h1
    exact he.2.2 (i, v) h1⟩ (fun q hq => by cases hq) T hT X
  exact ⟨t, a1, b1 ⟨rfl, rfl, hX, hbl⟩⟩
