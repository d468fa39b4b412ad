
theorem nt_copy : Cond.native arraycopyName ∈ nWs ∧ Cond.static arraycopyName ∈ nWs ∧ Cond.initialized "java/lang/System" ∈ nWs := ⟨(nW3 94 rfl rfl), (nW3 93 rfl rfl), (nW1 11 rfl rfl)⟩
def rNew (p : Nat) : Nat → Nat → Nat := fun f i => if f = 0 then p else if f = 2 ∧ i < 24 then 1 else 0
theorem rOK_new {p : Nat} (h : p ≤ 24) : rOK (rNew p) := by
  refine ⟨h, fun k hk => ?_⟩
  have e2 : rNew p 2 k = 1 := by unfold rNew; rw [if_neg (by decide), if_pos ⟨rfl, hk⟩]
  have e : ∀ f, f ≠ 0 → f ≠ 2 → rNew p f k = 0 := fun f h1 h2 => by unfold rNew; rw [if_neg h1, if_neg (fun z => h2 z.1)]
  rw [e2, e 1 (by decide) (by decide), e 3 (by decide) (by decide), e 4 (by decide) (by decide), e 5 (by decide) (by decide), e 6 (by decide) (by decide)]
  decide
def rNk (p n : Nat) : Nat → Nat → Nat := fun f i => if f = 0 then p else if f = 2 ∧ i < n then 1 else 0
theorem rNk_s (p n f i : Nat) : rNk p (n + 1) f i = u2 (rNk p n) 2 n 1 f i := by
  unfold rNk u2
  by_cases h1 : f = 0 <;> by_cases h2 : f = 2 <;> by_cases h3 : i = n <;> by_cases h4 : i < n <;> simp_all <;> (try omega)
  all_goals (rw [if_neg (by omega), if_neg (by omega)])

theorem lp_rowInit {h0 : nPH} {a p : Nat} : ∀ n k : Nat, ∀ h : nPH, k + n = 24 → nMk h0 h a 7 → o3 h a (rNk p k) → nG YX3_init (nKy YX3_init h0.1 h0.2.1 (fun v h2 => v = none ∧ nMk h0 h2 a 7 ∧ o3 h2 a (rNew p))) 6 144 73 [some (.ref (a)), some (.int (nI (p))), some (.int (nI (k)))] [] h := by
  intro n
  induction n with
  | zero =>
    intro k h hk M H
    refine x_iload_n rfl d_X3_init_73 ?_
    refine x_bipush (v := nI 24) (by decide) d_X3_init_74 ?_
    refine x_icmp_geN (tgt := 92) d_X3_init_76 (by decide) (by omega) (by omega) (fun c_1 => ?_) (fun c_1 => by exfalso; omega)
    exact x_return d_X3_init_92 rfl M.1 M.2.1 (Nat.le_of_ble_eq_true rfl) (Nat.le_of_ble_eq_true rfl) (⟨rfl, M, by rw [show rNew p = rNk p k by rw [show k = 24 by omega]; rfl]; exact H⟩)
  | succ n ih =>
    intro k h hk M H
    refine x_iload_n rfl d_X3_init_73 ?_
    refine x_bipush (v := nI 24) (by decide) d_X3_init_74 ?_
    refine x_icmp_geN (tgt := 92) d_X3_init_76 (by decide) (by omega) (by omega) (fun c_1 => by exfalso; omega) (fun c_1 => ?_)
    refine x_aload_n rfl d_X3_init_79 ?_
    refine x_getf co_all (v := .ref (a + 2)) d_X3_init_80 fk_3_15 (o3_o H) rfl ?_
    refine x_iload_n rfl d_X3_init_83 ?_
    refine x_iconst (v := nI 1) (by decide) d_X3_init_84 ?_
    refine x_iastore d_X3_init_85 (o3_2 H) (nIx_nI (j := k) (by omega) (by decide)) (Nat.le_trans (o3_B H) (Nat.le_add_right _ _)) ?_
    have H2_3 := o3_ast2 (k) (1) H
    have f_3 := o3_f2 (k) (1) H ((nFr.rf (S := nIv a 7) (h := h))) (by exact ⟨by omega, by omega⟩)
    refine x_iincN (m := 1) d_X3_init_86 rfl (by decide) (Nat.le_of_ble_eq_true rfl) ?_
    refine x_goto (tgt := 73) d_X3_init_89 (by decide) ?_
    exact nG.sub (by exact (And.intro rfl (And.intro rfl (And.intro rfl True.intro)))) (ih (k + 1) _ (by omega) (M.fr f_3) (o3_cg H2_3 (rNk_s p k)))
theorem sp_rowInit {h : nPH} {a p : Nat} (B : nBld h h a 3 [.int 0, .null, .null, .null, .null, .null, .null] []) (hpl : p ≤ 24) : nWv YX3_init [.ref a, .int (nI p)] h none (fun h2 => nMk h h2 a 7 ∧ o3 h2 a (rNew p)) := by
  refine nSp_of (by decide +kernel) rfl (Nat.le_of_ble_eq_true rfl) (ls := [some (.ref (a)), some (.int (nI (p))), none]) (by exact (And.intro rfl (And.intro rfl True.intro))) ?_
  refine x_aload_n rfl d_X3_init_0 ?_
  refine x_objI ob_init d_X3_init_1 lk_3_3 (Nat.le_of_ble_eq_true rfl) (Nat.le_of_ble_eq_true rfl) ?_
  refine x_aload_n rfl d_X3_init_4 ?_
  refine x_bipush (v := nI 24) (by decide) d_X3_init_5 ?_
  refine x_newaIz (z := a + 1) d_X3_init_7 (by decide) B.2.2.1 (Nat.le_of_ble_eq_true rfl) (Nat.le_of_ble_eq_true rfl) ?_
  have B_1 := B.new (nAi 24 (fun _ => 0))
  refine x_putF co_all d_X3_init_9 fk_3_9 ft_3_1 rfl rfl B_1.o (Nat.le_of_ble_eq_true rfl) rfl rfl B_1.b ?_
  have B_2 := B_1.put [.int 0, .ref (a + 1), .null, .null, .null, .null, .null]
  refine x_aload_n rfl d_X3_init_12 ?_
  refine x_bipush (v := nI 24) (by decide) d_X3_init_13 ?_
  refine x_newaIz (z := a + 2) d_X3_init_15 (by decide) B_2.2.2.1 (Nat.le_of_ble_eq_true rfl) (Nat.le_of_ble_eq_true rfl) ?_
  have B_3 := B_2.new (nAi 24 (fun _ => 0))
  refine x_putF co_all d_X3_init_17 fk_3_15 ft_3_2 rfl rfl B_3.o (Nat.le_of_ble_eq_true rfl) rfl rfl B_3.b ?_
  have B_4 := B_3.put [.int 0, .ref (a + 1), .ref (a + 2), .null, .null, .null, .null]
  refine x_aload_n rfl d_X3_init_20 ?_
  refine x_bipush (v := nI 24) (by decide) d_X3_init_21 ?_
  refine x_newaIz (z := a + 3) d_X3_init_23 (by decide) B_4.2.2.1 (Nat.le_of_ble_eq_true rfl) (Nat.le_of_ble_eq_true rfl) ?_
  have B_5 := B_4.new (nAi 24 (fun _ => 0))
  refine x_putF co_all d_X3_init_25 fk_3_18 ft_3_3 rfl rfl B_5.o (Nat.le_of_ble_eq_true rfl) rfl rfl B_5.b ?_
  have B_6 := B_5.put [.int 0, .ref (a + 1), .ref (a + 2), .ref (a + 3), .null, .null, .null]
  refine x_aload_n rfl d_X3_init_28 ?_
  refine x_bipush (v := nI 24) (by decide) d_X3_init_29 ?_
  refine x_newaIz (z := a + 4) d_X3_init_31 (by decide) B_6.2.2.1 (Nat.le_of_ble_eq_true rfl) (Nat.le_of_ble_eq_true rfl) ?_
  have B_7 := B_6.new (nAi 24 (fun _ => 0))
  refine x_putF co_all d_X3_init_33 fk_3_21 ft_3_4 rfl rfl B_7.o (Nat.le_of_ble_eq_true rfl) rfl rfl B_7.b ?_
  have B_8 := B_7.put [.int 0, .ref (a + 1), .ref (a + 2), .ref (a + 3), .ref (a + 4), .null, .null]
  refine x_aload_n rfl d_X3_init_36 ?_
  refine x_bipush (v := nI 24) (by decide) d_X3_init_37 ?_
  refine x_newaIz (z := a + 5) d_X3_init_39 (by decide) B_8.2.2.1 (Nat.le_of_ble_eq_true rfl) (Nat.le_of_ble_eq_true rfl) ?_
  have B_9 := B_8.new (nAi 24 (fun _ => 0))
  refine x_putF co_all d_X3_init_41 fk_3_24 ft_3_5 rfl rfl B_9.o (Nat.le_of_ble_eq_true rfl) rfl rfl B_9.b ?_
  have B_10 := B_9.put [.int 0, .ref (a + 1), .ref (a + 2), .ref (a + 3), .ref (a + 4), .ref (a + 5), .null]
  refine x_aload_n rfl d_X3_init_44 ?_
  refine x_bipush (v := nI 24) (by decide) d_X3_init_45 ?_
  refine x_newaIz (z := a + 6) d_X3_init_47 (by decide) B_10.2.2.1 (Nat.le_of_ble_eq_true rfl) (Nat.le_of_ble_eq_true rfl) ?_
  have B_11 := B_10.new (nAi 24 (fun _ => 0))
  refine x_putF co_all d_X3_init_49 fk_3_27 ft_3_6 rfl rfl B_11.o (Nat.le_of_ble_eq_true rfl) rfl rfl B_11.b ?_
  have B_12 := B_11.put [.int 0, .ref (a + 1), .ref (a + 2), .ref (a + 3), .ref (a + 4), .ref (a + 5), .ref (a + 6)]
  refine x_aload_n rfl d_X3_init_52 ?_
  refine x_iload_n rfl d_X3_init_53 ?_
  refine x_iconst (v := nI 0) (by decide) d_X3_init_54 ?_
  refine x_bipush (v := nI 24) (by decide) d_X3_init_55 ?_
  refine x_rdSN d_X3_init_57 lk_3_30 mo_X7_within sc_X7_within (sp_within (nI (p)) (nI (0)) (nI (24))) rfl ⟨Nat.le_of_ble_eq_true rfl, Nat.le_of_ble_eq_true rfl⟩ rfl rfl (Nat.le_of_ble_eq_true rfl) (Nat.le_of_ble_eq_true rfl) (Nat.le_of_ble_eq_true rfl) rfl ?_
  rw [nB_T (show nI 0 ≤ nI p ∧ nI p ≤ nI 24 from ⟨(nI_leI (by decide) (by omega)).mpr (by omega), (nI_leI (by omega) (by decide)).mpr hpl⟩)]
  refine x_if_eqN (tgt := 67) d_X3_init_60 (by decide) (by omega) (fun c_13 => by exfalso; omega) (fun c_13 => ?_)
  refine x_iload_n rfl d_X3_init_63 ?_
  refine x_goto (tgt := 68) d_X3_init_64 (by decide) ?_
  refine x_putf co_all d_X3_init_68 fk_3_34 ft_3_0 B_12.o (Nat.le_of_ble_eq_true rfl) rfl rfl B_12.b ?_
  have B_14 := B_12.put [.int (nI (p)), .ref (a + 1), .ref (a + 2), .ref (a + 3), .ref (a + 4), .ref (a + 5), .ref (a + 6)]
  refine x_iconst (v := nI 0) (by decide) d_X3_init_71 ?_
  refine x_istore_n d_X3_init_72 (Nat.le_of_ble_eq_true rfl) ?_
  exact nG.sub (by exact (And.intro rfl (And.intro rfl (And.intro rfl True.intro)))) (lp_rowInit 24 0 _ (by omega) B_14.mk ⟨B_14.b, B_14.o, B_14.at 0 rfl, B_14.at 1 rfl, B_14.at 2 rfl, B_14.at 3 rfl, B_14.at 4 rfl, B_14.at 5 rfl⟩)
def pNew (b s : Nat) : Nat → Nat → Nat := fun f i => if f = 0 then b else if f = 1 then s else if f = 2 ∨ f = 3 then 1 else 0
theorem sp_panInit {h : nPH} {a b s : Nat} (B : nBld h h a 2 [.int 0, .int 0, .int 0, .int 0, .null, .int 0, .null] []) : nWv YX2_init [.ref a, .int (nI b), .int (nI s)] h none (fun h2 => nMk h h2 a 3 ∧ o2 h2 a (pNew b s)) := by
  refine nSp_of (by decide +kernel) rfl (Nat.le_of_ble_eq_true rfl) (ls := [some (.ref (a)), some (.int (nI (b))), some (.int (nI (s)))]) (by exact (And.intro rfl (And.intro rfl (And.intro rfl True.intro)))) ?_
  refine x_aload_n rfl d_X2_init_0 ?_
  refine x_objI ob_init d_X2_init_1 lk_2_3 (Nat.le_of_ble_eq_true rfl) (Nat.le_of_ble_eq_true rfl) ?_
  refine x_aload_n rfl d_X2_init_4 ?_
  refine x_iconst (v := nI 1) (by decide) d_X2_init_5 ?_
  refine x_putf co_all d_X2_init_6 fk_2_9 ft_2_2 B.o (Nat.le_of_ble_eq_true rfl) rfl rfl B.b ?_
  have B_1 := B.put [.int 0, .int 0, .int (nI (1)), .int 0, .null, .int 0, .null]
  refine x_aload_n rfl d_X2_init_9 ?_
  refine x_iconst (v := nI 1) (by decide) d_X2_init_10 ?_
  refine x_putf co_all d_X2_init_11 fk_2_15 ft_2_3 B_1.o (Nat.le_of_ble_eq_true rfl) rfl rfl B_1.b ?_
  have B_2 := B_1.put [.int 0, .int 0, .int (nI (1)), .int (nI (1)), .null, .int 0, .null]
  refine x_aload_n rfl d_X2_init_14 ?_
  refine x_bipush (v := nI 20) (by decide) d_X2_init_15 ?_
  refine x_newqz (z := a + 1) d_X2_init_17 kl_2_18 (Or.inr rfl) (by decide) B_2.2.2.1 (Nat.le_of_ble_eq_true rfl) (Nat.le_of_ble_eq_true rfl) ?_
  have B_3 := B_2.new (nAr (.object "NetLoft$Row") 20 (fun _ => none))
  refine x_putF co_all d_X2_init_20 fk_2_20 ft_2_4 rfl rfl B_3.o (Nat.le_of_ble_eq_true rfl) rfl rfl B_3.b ?_
  have B_4 := B_3.put [.int 0, .int 0, .int (nI (1)), .int (nI (1)), .ref (a + 1), .int 0, .null]
  refine x_aload_n rfl d_X2_init_23 ?_
  refine x_bipush (v := nI 24) (by decide) d_X2_init_24 ?_
  refine x_newaIz (z := a + 2) d_X2_init_26 (by decide) B_4.2.2.1 (Nat.le_of_ble_eq_true rfl) (Nat.le_of_ble_eq_true rfl) ?_
  have B_5 := B_4.new (nAi 24 (fun _ => 0))
  refine x_putF co_all d_X2_init_28 fk_2_24 ft_2_6 rfl rfl B_5.o (Nat.le_of_ble_eq_true rfl) rfl rfl B_5.b ?_
  have B_6 := B_5.put [.int 0, .int 0, .int (nI (1)), .int (nI (1)), .ref (a + 1), .int 0, .ref (a + 2)]
  refine x_aload_n rfl d_X2_init_31 ?_
  refine x_iload_n rfl d_X2_init_32 ?_
  refine x_putF co_all d_X2_init_33 fk_2_28 ft_2_0 rfl rfl B_6.o (Nat.le_of_ble_eq_true rfl) rfl rfl B_6.b ?_
  have B_7 := B_6.put [.int (nI (b)), .int 0, .int (nI (1)), .int (nI (1)), .ref (a + 1), .int 0, .ref (a + 2)]
  refine x_aload_n rfl d_X2_init_36 ?_
  refine x_iload_n rfl d_X2_init_37 ?_
  refine x_putF co_all d_X2_init_38 fk_2_31 ft_2_1 rfl rfl B_7.o (Nat.le_of_ble_eq_true rfl) rfl rfl B_7.b ?_
  have B_8 := B_7.put [.int (nI (b)), .int (nI (s)), .int (nI (1)), .int (nI (1)), .ref (a + 1), .int 0, .ref (a + 2)]
  exact x_return d_X2_init_41 rfl B_8.1 B_8.2.1 (Nat.le_of_ble_eq_true rfl) (Nat.le_of_ble_eq_true rfl) (⟨rfl, B_8.mk, B_8.b, B_8.o, (B_8.at 0 rfl).trans (by rw [show (fun r : Nat => if r < pNew b s 5 0 then some (pNew b s 4 r) else none) = fun _ => none from funext fun r => if_neg (Nat.not_lt_zero r)]), B_8.at 1 rfl⟩)
theorem sp_seamInit {h : nPH} {a : Nat} (B : nBld h h a 4 [.int 0, .null] []) : nWv YX4_init [.ref a] h none (fun h2 => nMk h h2 a 2 ∧ o4 h2 a (fun _ _ => 0)) := by
  refine nSp_of (by decide +kernel) rfl (Nat.le_of_ble_eq_true rfl) (ls := [some (.ref (a))]) (by exact (And.intro rfl True.intro)) ?_
  refine x_aload_n rfl d_X4_init_0 ?_
  refine x_objI ob_init d_X4_init_1 lk_4_3 (Nat.le_of_ble_eq_true rfl) (Nat.le_of_ble_eq_true rfl) ?_
  refine x_aload_n rfl d_X4_init_4 ?_
  refine x_bipush (v := nI 24) (by decide) d_X4_init_5 ?_
  refine x_newaIz (z := a + 1) d_X4_init_7 (by decide) B.2.2.1 (Nat.le_of_ble_eq_true rfl) (Nat.le_of_ble_eq_true rfl) ?_
  have B_1 := B.new (nAi 24 (fun _ => 0))
  refine x_putF co_all d_X4_init_9 fk_4_9 ft_4_1 rfl rfl B_1.o (Nat.le_of_ble_eq_true rfl) rfl rfl B_1.b ?_
  have B_2 := B_1.put [.int 0, .ref (a + 1)]
  exact x_return d_X4_init_12 rfl B_2.1 B_2.2.1 (Nat.le_of_ble_eq_true rfl) (Nat.le_of_ble_eq_true rfl) (⟨rfl, B_2.mk, B_2.b, B_2.o, B_2.at 0 rfl⟩)
theorem sp_wayInit {h : nPH} {a : Nat} (B : nBld h h a 6 [.int 0, .null, .null, .int 0] []) : nWv YX6_init [.ref a] h none (fun h2 => nMk h h2 a 3 ∧ o6 h2 a (fun _ _ => 0)) := by
  refine nSp_of (by decide +kernel) rfl (Nat.le_of_ble_eq_true rfl) (ls := [some (.ref (a))]) (by exact (And.intro rfl True.intro)) ?_
  refine x_aload_n rfl d_X6_init_0 ?_
  refine x_objI ob_init d_X6_init_1 lk_6_3 (Nat.le_of_ble_eq_true rfl) (Nat.le_of_ble_eq_true rfl) ?_
  refine x_aload_n rfl d_X6_init_4 ?_
  refine x_sipush (v := nI 1441) (by decide) d_X6_init_5 ?_
  refine x_newaIz (z := a + 1) d_X6_init_8 (by decide) B.2.2.1 (Nat.le_of_ble_eq_true rfl) (Nat.le_of_ble_eq_true rfl) ?_
  have B_1 := B.new (nAi 1441 (fun _ => 0))
  refine x_putF co_all d_X6_init_10 fk_6_9 ft_6_1 rfl rfl B_1.o (Nat.le_of_ble_eq_true rfl) rfl rfl B_1.b ?_
  have B_2 := B_1.put [.int 0, .ref (a + 1), .null, .int 0]
  refine x_aload_n rfl d_X6_init_13 ?_
  refine x_sipush (v := nI 1441) (by decide) d_X6_init_14 ?_
  refine x_newaIz (z := a + 2) d_X6_init_17 (by decide) B_2.2.2.1 (Nat.le_of_ble_eq_true rfl) (Nat.le_of_ble_eq_true rfl) ?_
  have B_3 := B_2.new (nAi 1441 (fun _ => 0))
  refine x_putF co_all d_X6_init_19 fk_6_15 ft_6_2 rfl rfl B_3.o (Nat.le_of_ble_eq_true rfl) rfl rfl B_3.b ?_
  have B_4 := B_3.put [.int 0, .ref (a + 1), .ref (a + 2), .int 0]
  exact x_return d_X6_init_22 rfl B_4.1 B_4.2.1 (Nat.le_of_ble_eq_true rfl) (Nat.le_of_ble_eq_true rfl) (⟨rfl, B_4.mk, B_4.b, B_4.o, B_4.at 0 rfl, B_4.at 1 rfl⟩)
theorem sp_taperInit {h : nPH} {a : Nat} (B : nBld h h a 5 [.int 0, .int 0, .int 0] []) : nWv YX5_init [.ref a] h none (fun h2 => nMk h h2 a 1 ∧ o5 h2 a (fun _ _ => 0)) := by
  refine nSp_of (by decide +kernel) rfl (Nat.le_of_ble_eq_true rfl) (ls := [some (.ref (a))]) (by exact (And.intro rfl True.intro)) ?_
  refine x_aload_n rfl d_X5_init_0 ?_
  refine x_objI ob_init d_X5_init_1 lk_5_3 (Nat.le_of_ble_eq_true rfl) (Nat.le_of_ble_eq_true rfl) ?_
  exact x_return d_X5_init_4 rfl B.1 B.2.1 (Nat.le_of_ble_eq_true rfl) (Nat.le_of_ble_eq_true rfl) (⟨rfl, B.mk, B.b, B.o⟩)
def rCp (m : Nat) (D : Nat → Nat → Nat) : Nat → Nat → Nat := fun f i => if f ≠ 0 ∧ f ≤ m ∧ i < 24 then D f i else rNew (D 0 0) f i
theorem o3_cpy1 {h : nPH} {a : Nat} {D : Nat → Nat → Nat} (H : o3 h a (rCp 0 D)) : o3 (nSt h (a + 1) (nAi 24 (fun i => if i < 24 then nI (D 1 i) else nI (rCp 0 D 1 i)))) a (rCp 1 D) :=
  ⟨H.1, (nAt_ne (by omega)).trans (o3_o (D := rCp 0 D) H), nAt_eq.trans (congrArg (fun z => some (nAi 24 z)) (funext fun i => by unfold rCp; by_cases hi : i < 24 <;> simp [hi])), ((nAt_ne (by omega)).trans (o3_2 H)).trans (congrArg (fun z => some (nAi 24 z)) (funext fun i => by unfold rCp; simp)), ((nAt_ne (by omega)).trans (o3_3 H)).trans (congrArg (fun z => some (nAi 24 z)) (funext fun i => by unfold rCp; simp)), ((nAt_ne (by omega)).trans (o3_4 H)).trans (congrArg (fun z => some (nAi 24 z)) (funext fun i => by unfold rCp; simp)), ((nAt_ne (by omega)).trans (o3_5 H)).trans (congrArg (fun z => some (nAi 24 z)) (funext fun i => by unfold rCp; simp)), ((nAt_ne (by omega)).trans (o3_6 H)).trans (congrArg (fun z => some (nAi 24 z)) (funext fun i => by unfold rCp; simp))⟩
theorem o3_cpy2 {h : nPH} {a : Nat} {D : Nat → Nat → Nat} (H : o3 h a (rCp 1 D)) : o3 (nSt h (a + 2) (nAi 24 (fun i => if i < 24 then nI (D 2 i) else nI (rCp 1 D 2 i)))) a (rCp 2 D) :=
  ⟨H.1, (nAt_ne (by omega)).trans (o3_o (D := rCp 1 D) H), ((nAt_ne (by omega)).trans (o3_1 H)).trans (congrArg (fun z => some (nAi 24 z)) (funext fun i => by unfold rCp; simp)), nAt_eq.trans (congrArg (fun z => some (nAi 24 z)) (funext fun i => by unfold rCp; by_cases hi : i < 24 <;> simp [hi])), ((nAt_ne (by omega)).trans (o3_3 H)).trans (congrArg (fun z => some (nAi 24 z)) (funext fun i => by unfold rCp; simp)), ((nAt_ne (by omega)).trans (o3_4 H)).trans (congrArg (fun z => some (nAi 24 z)) (funext fun i => by unfold rCp; simp)), ((nAt_ne (by omega)).trans (o3_5 H)).trans (congrArg (fun z => some (nAi 24 z)) (funext fun i => by unfold rCp; simp)), ((nAt_ne (by omega)).trans (o3_6 H)).trans (congrArg (fun z => some (nAi 24 z)) (funext fun i => by unfold rCp; simp))⟩
theorem o3_cpy3 {h : nPH} {a : Nat} {D : Nat → Nat → Nat} (H : o3 h a (rCp 2 D)) : o3 (nSt h (a + 3) (nAi 24 (fun i => if i < 24 then nI (D 3 i) else nI (rCp 2 D 3 i)))) a (rCp 3 D) :=
  ⟨H.1, (nAt_ne (by omega)).trans (o3_o (D := rCp 2 D) H), ((nAt_ne (by omega)).trans (o3_1 H)).trans (congrArg (fun z => some (nAi 24 z)) (funext fun i => by unfold rCp; simp)), ((nAt_ne (by omega)).trans (o3_2 H)).trans (congrArg (fun z => some (nAi 24 z)) (funext fun i => by unfold rCp; simp)), nAt_eq.trans (congrArg (fun z => some (nAi 24 z)) (funext fun i => by unfold rCp; by_cases hi : i < 24 <;> simp [hi])), ((nAt_ne (by omega)).trans (o3_4 H)).trans (congrArg (fun z => some (nAi 24 z)) (funext fun i => by unfold rCp; simp)), ((nAt_ne (by omega)).trans (o3_5 H)).trans (congrArg (fun z => some (nAi 24 z)) (funext fun i => by unfold rCp; simp)), ((nAt_ne (by omega)).trans (o3_6 H)).trans (congrArg (fun z => some (nAi 24 z)) (funext fun i => by unfold rCp; simp))⟩
theorem o3_cpy4 {h : nPH} {a : Nat} {D : Nat → Nat → Nat} (H : o3 h a (rCp 3 D)) : o3 (nSt h (a + 4) (nAi 24 (fun i => if i < 24 then nI (D 4 i) else nI (rCp 3 D 4 i)))) a (rCp 4 D) :=
  ⟨H.1, (nAt_ne (by omega)).trans (o3_o (D := rCp 3 D) H), ((nAt_ne (by omega)).trans (o3_1 H)).trans (congrArg (fun z => some (nAi 24 z)) (funext fun i => by unfold rCp; simp)), ((nAt_ne (by omega)).trans (o3_2 H)).trans (congrArg (fun z => some (nAi 24 z)) (funext fun i => by unfold rCp; simp)), ((nAt_ne (by omega)).trans (o3_3 H)).trans (congrArg (fun z => some (nAi 24 z)) (funext fun i => by unfold rCp; simp)), nAt_eq.trans (congrArg (fun z => some (nAi 24 z)) (funext fun i => by unfold rCp; by_cases hi : i < 24 <;> simp [hi])), ((nAt_ne (by omega)).trans (o3_5 H)).trans (congrArg (fun z => some (nAi 24 z)) (funext fun i => by unfold rCp; simp)), ((nAt_ne (by omega)).trans (o3_6 H)).trans (congrArg (fun z => some (nAi 24 z)) (funext fun i => by unfold rCp; simp))⟩
theorem o3_cpy5 {h : nPH} {a : Nat} {D : Nat → Nat → Nat} (H : o3 h a (rCp 4 D)) : o3 (nSt h (a + 5) (nAi 24 (fun i => if i < 24 then nI (D 5 i) else nI (rCp 4 D 5 i)))) a (rCp 5 D) :=
  ⟨H.1, (nAt_ne (by omega)).trans (o3_o (D := rCp 4 D) H), ((nAt_ne (by omega)).trans (o3_1 H)).trans (congrArg (fun z => some (nAi 24 z)) (funext fun i => by unfold rCp; simp)), ((nAt_ne (by omega)).trans (o3_2 H)).trans (congrArg (fun z => some (nAi 24 z)) (funext fun i => by unfold rCp; simp)), ((nAt_ne (by omega)).trans (o3_3 H)).trans (congrArg (fun z => some (nAi 24 z)) (funext fun i => by unfold rCp; simp)), ((nAt_ne (by omega)).trans (o3_4 H)).trans (congrArg (fun z => some (nAi 24 z)) (funext fun i => by unfold rCp; simp)), nAt_eq.trans (congrArg (fun z => some (nAi 24 z)) (funext fun i => by unfold rCp; by_cases hi : i < 24 <;> simp [hi])), ((nAt_ne (by omega)).trans (o3_6 H)).trans (congrArg (fun z => some (nAi 24 z)) (funext fun i => by unfold rCp; simp))⟩
theorem o3_cpy6 {h : nPH} {a : Nat} {D : Nat → Nat → Nat} (H : o3 h a (rCp 5 D)) : o3 (nSt h (a + 6) (nAi 24 (fun i => if i < 24 then nI (D 6 i) else nI (rCp 5 D 6 i)))) a (rCp 6 D) :=
  ⟨H.1, (nAt_ne (by omega)).trans (o3_o (D := rCp 5 D) H), ((nAt_ne (by omega)).trans (o3_1 H)).trans (congrArg (fun z => some (nAi 24 z)) (funext fun i => by unfold rCp; simp)), ((nAt_ne (by omega)).trans (o3_2 H)).trans (congrArg (fun z => some (nAi 24 z)) (funext fun i => by unfold rCp; simp)), ((nAt_ne (by omega)).trans (o3_3 H)).trans (congrArg (fun z => some (nAi 24 z)) (funext fun i => by unfold rCp; simp)), ((nAt_ne (by omega)).trans (o3_4 H)).trans (congrArg (fun z => some (nAi 24 z)) (funext fun i => by unfold rCp; simp)), ((nAt_ne (by omega)).trans (o3_5 H)).trans (congrArg (fun z => some (nAi 24 z)) (funext fun i => by unfold rCp; simp)), nAt_eq.trans (congrArg (fun z => some (nAi 24 z)) (funext fun i => by unfold rCp; by_cases hi : i < 24 <;> simp [hi]))⟩
theorem rOK_cp {D : Nat → Nat → Nat} (R : rOK D) : rOK (rCp 6 D) := by
  refine ⟨R.1, fun k hk => ?_⟩
  have e : ∀ f, f ≠ 0 → f ≤ 6 → rCp 6 D f k = D f k := fun f h1 h2 => if_pos ⟨h1, h2, hk⟩
  rw [e 1 (by decide) (by decide), e 2 (by decide) (by decide), e 3 (by decide) (by decide), e 4 (by decide) (by decide), e 5 (by decide) (by decide), e 6 (by decide) (by decide)]
  exact R.2 k hk
theorem sp_copied {h : nPH} {a : Nat} {D : Nat → Nat → Nat} (H : o3 h a D) (hw : nWF h) (hpl : D 0 0 ≤ 24) : nWv YX3_copied [.ref a] h (some (.ref h.2.2.1)) (fun h2 => nMk h h2 h.2.2.1 7 ∧ o3 h2 h.2.2.1 (rCp 6 D)) := by
  have hz : a + 7 ≤ h.2.2.1 := by have := hw.lt (o3_6 H); omega
  generalize hzz : h.2.2.1 = z at hz ⊢
  refine nSp_of (by decide +kernel) rfl (Nat.le_of_ble_eq_true rfl) (ls := [some (.ref (a)), none]) (by exact (And.intro rfl True.intro)) ?_
  refine x_new co_all d_X3_copied_0 nn_3_10 df_3 (Nat.le_of_ble_eq_true rfl) (Nat.le_of_ble_eq_true rfl) ?_
  have B0 := nBld_new hw 3 [.int 0, .null, .null, .null, .null, .null, .null]
  rw [hzz] at B0 ⊢
  refine x_dup rfl d_X3_copied_3 ?_
  refine x_aload_n rfl d_X3_copied_4 ?_
  have H1 : o3 (nNw h (nOb 3 [.int 0, .null, .null, .null, .null, .null, .null])) a D := o3_kept H rfl (fun q h1 h2 => nAt_nn (by omega))
  refine x_getf co_all (v := .int (nI (D 0 0))) d_X3_copied_5 fk_3_34 (o3_o H1) rfl ?_
  refine x_wvI d_X3_copied_8 lk_3_38 mo_X3_init ii_X3_init rfl (sp_rowInit B0 hpl) rfl ⟨Nat.le_of_ble_eq_true rfl, Nat.le_of_ble_eq_true rfl⟩ (Nat.le_of_ble_eq_true rfl) (Nat.le_of_ble_eq_true rfl) (Nat.le_of_ble_eq_true rfl) rfl (fun h2 hp e1 e2 => ?_)
  obtain ⟨M, HN⟩ := hp
  rw [← hzz] at M
  have M := nMk_new M
  rw [hzz] at M
  have H2 : o3 h2 a D := o3_kept H M.2.1 (fun q h1 h3 => M.2.2.2.1 q (by omega))
  have N0 : o3 h2 z (rCp 0 D) := o3_cg HN (fun f i => by unfold rCp; rw [if_neg (by omega)])
  have F0 := (nFr.rf (S := nIv z 7) (h := h2))
  refine x_astore_n d_X3_copied_11 (Nat.le_of_ble_eq_true rfl) ?_
  refine x_aload_n rfl d_X3_copied_12 ?_
  refine x_getf co_all (v := .ref (a + 1)) d_X3_copied_13 fk_3_9 (o3_o H2) rfl ?_
  refine x_iconst (v := nI 0) (by decide) d_X3_copied_16 ?_
  refine x_aload_n rfl d_X3_copied_17 ?_
  refine x_getf co_all (v := .ref (z + 1)) d_X3_copied_18 fk_3_9 (o3_o N0) rfl ?_
  refine x_iconst (v := nI 0) (by decide) d_X3_copied_21 ?_
  refine x_bipush (v := nI 24) (by decide) d_X3_copied_22 ?_
  refine x_copy d_X3_copied_24 lk_3_41 nt_copy (o3_1 H2) (o3_1 N0) (by decide) (by decide) (by decide) (Nat.le_trans (o3_B N0) (Nat.le_add_right _ _)) (Nat.le_of_ble_eq_true rfl) (Nat.le_of_ble_eq_true rfl) ?_
  have F1 := F0.st (e := nAi 24 (fun i => if i < 24 then nI (D 1 i) else nI (rCp 0 D 1 i))) (o3_1 N0) (show nIv z 7 (z + 1) from ⟨by omega, by omega⟩)
  have N1 := o3_cpy1 N0
  have A1 := o3_fr H2 F1 (fun q h1 h3 h4 => by have := h4.1; omega)
  refine x_aload_n rfl d_X3_copied_27 ?_
  refine x_getf co_all (v := .ref (a + 2)) d_X3_copied_28 fk_3_15 (o3_o A1) rfl ?_
  refine x_iconst (v := nI 0) (by decide) d_X3_copied_31 ?_
  refine x_aload_n rfl d_X3_copied_32 ?_
  refine x_getf co_all (v := .ref (z + 2)) d_X3_copied_33 fk_3_15 (o3_o N1) rfl ?_
  refine x_iconst (v := nI 0) (by decide) d_X3_copied_36 ?_
  refine x_bipush (v := nI 24) (by decide) d_X3_copied_37 ?_
  refine x_copy d_X3_copied_39 lk_3_41 nt_copy (o3_2 A1) (o3_2 N1) (by decide) (by decide) (by decide) (Nat.le_trans (o3_B N1) (Nat.le_add_right _ _)) (Nat.le_of_ble_eq_true rfl) (Nat.le_of_ble_eq_true rfl) ?_
  have F2 := F1.st (e := nAi 24 (fun i => if i < 24 then nI (D 2 i) else nI (rCp 1 D 2 i))) (o3_2 N1) (show nIv z 7 (z + 2) from ⟨by omega, by omega⟩)
  have N2 := o3_cpy2 N1
  have A2 := o3_fr H2 F2 (fun q h1 h3 h4 => by have := h4.1; omega)
  refine x_aload_n rfl d_X3_copied_42 ?_
  refine x_getf co_all (v := .ref (a + 3)) d_X3_copied_43 fk_3_18 (o3_o A2) rfl ?_
  refine x_iconst (v := nI 0) (by decide) d_X3_copied_46 ?_
  refine x_aload_n rfl d_X3_copied_47 ?_
  refine x_getf co_all (v := .ref (z + 3)) d_X3_copied_48 fk_3_18 (o3_o N2) rfl ?_
  refine x_iconst (v := nI 0) (by decide) d_X3_copied_51 ?_
  refine x_bipush (v := nI 24) (by decide) d_X3_copied_52 ?_
  refine x_copy d_X3_copied_54 lk_3_41 nt_copy (o3_3 A2) (o3_3 N2) (by decide) (by decide) (by decide) (Nat.le_trans (o3_B N2) (Nat.le_add_right _ _)) (Nat.le_of_ble_eq_true rfl) (Nat.le_of_ble_eq_true rfl) ?_
  have F3 := F2.st (e := nAi 24 (fun i => if i < 24 then nI (D 3 i) else nI (rCp 2 D 3 i))) (o3_3 N2) (show nIv z 7 (z + 3) from ⟨by omega, by omega⟩)
  have N3 := o3_cpy3 N2
  have A3 := o3_fr H2 F3 (fun q h1 h3 h4 => by have := h4.1; omega)
  refine x_aload_n rfl d_X3_copied_57 ?_
  refine x_getf co_all (v := .ref (a + 4)) d_X3_copied_58 fk_3_21 (o3_o A3) rfl ?_
  refine x_iconst (v := nI 0) (by decide) d_X3_copied_61 ?_
  refine x_aload_n rfl d_X3_copied_62 ?_
  refine x_getf co_all (v := .ref (z + 4)) d_X3_copied_63 fk_3_21 (o3_o N3) rfl ?_
  refine x_iconst (v := nI 0) (by decide) d_X3_copied_66 ?_
  refine x_bipush (v := nI 24) (by decide) d_X3_copied_67 ?_
  refine x_copy d_X3_copied_69 lk_3_41 nt_copy (o3_4 A3) (o3_4 N3) (by decide) (by decide) (by decide) (Nat.le_trans (o3_B N3) (Nat.le_add_right _ _)) (Nat.le_of_ble_eq_true rfl) (Nat.le_of_ble_eq_true rfl) ?_
  have F4 := F3.st (e := nAi 24 (fun i => if i < 24 then nI (D 4 i) else nI (rCp 3 D 4 i))) (o3_4 N3) (show nIv z 7 (z + 4) from ⟨by omega, by omega⟩)
  have N4 := o3_cpy4 N3
  have A4 := o3_fr H2 F4 (fun q h1 h3 h4 => by have := h4.1; omega)
  refine x_aload_n rfl d_X3_copied_72 ?_
  refine x_getf co_all (v := .ref (a + 5)) d_X3_copied_73 fk_3_24 (o3_o A4) rfl ?_
  refine x_iconst (v := nI 0) (by decide) d_X3_copied_76 ?_
  refine x_aload_n rfl d_X3_copied_77 ?_
  refine x_getf co_all (v := .ref (z + 5)) d_X3_copied_78 fk_3_24 (o3_o N4) rfl ?_
  refine x_iconst (v := nI 0) (by decide) d_X3_copied_81 ?_
  refine x_bipush (v := nI 24) (by decide) d_X3_copied_82 ?_
  refine x_copy d_X3_copied_84 lk_3_41 nt_copy (o3_5 A4) (o3_5 N4) (by decide) (by decide) (by decide) (Nat.le_trans (o3_B N4) (Nat.le_add_right _ _)) (Nat.le_of_ble_eq_true rfl) (Nat.le_of_ble_eq_true rfl) ?_
  have F5 := F4.st (e := nAi 24 (fun i => if i < 24 then nI (D 5 i) else nI (rCp 4 D 5 i))) (o3_5 N4) (show nIv z 7 (z + 5) from ⟨by omega, by omega⟩)
  have N5 := o3_cpy5 N4
  have A5 := o3_fr H2 F5 (fun q h1 h3 h4 => by have := h4.1; omega)
  refine x_aload_n rfl d_X3_copied_87 ?_
  refine x_getf co_all (v := .ref (a + 6)) d_X3_copied_88 fk_3_27 (o3_o A5) rfl ?_
  refine x_iconst (v := nI 0) (by decide) d_X3_copied_91 ?_
  refine x_aload_n rfl d_X3_copied_92 ?_
  refine x_getf co_all (v := .ref (z + 6)) d_X3_copied_93 fk_3_27 (o3_o N5) rfl ?_
  refine x_iconst (v := nI 0) (by decide) d_X3_copied_96 ?_
  refine x_bipush (v := nI 24) (by decide) d_X3_copied_97 ?_
  refine x_copy d_X3_copied_99 lk_3_41 nt_copy (o3_6 A5) (o3_6 N5) (by decide) (by decide) (by decide) (Nat.le_trans (o3_B N5) (Nat.le_add_right _ _)) (Nat.le_of_ble_eq_true rfl) (Nat.le_of_ble_eq_true rfl) ?_
  have F6 := F5.st (e := nAi 24 (fun i => if i < 24 then nI (D 6 i) else nI (rCp 5 D 6 i))) (o3_6 N5) (show nIv z 7 (z + 6) from ⟨by omega, by omega⟩)
  have N6 := o3_cpy6 N5
  have A6 := o3_fr H2 F6 (fun q h1 h3 h4 => by have := h4.1; omega)
  refine x_aload_n rfl d_X3_copied_102 ?_
  exact x_areturn d_X3_copied_103 rfl (Or.inl ⟨_, rfl⟩) (Or.inr ⟨_, rfl⟩) (M.fr F6).1 (M.fr F6).2.1 (Nat.le_of_ble_eq_true rfl) (Nat.le_of_ble_eq_true rfl) ⟨rfl, M.fr F6, N6⟩
