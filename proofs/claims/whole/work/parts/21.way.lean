/-! the way -/
theorem sp_knotAt {h : nPH} {a : Nat} {W : Nat → Nat → Nat} (H : o6 h a W) (hs : W 0 0 ≤ 1441) {j : Nat} (hj : j < W 0 0) : nRd YX6_knotAt [.ref (a), .int (nI (j))] h (.int (nI (W 1 (W 0 0 - 1 - j)))) := by
  refine nSp_of (by decide +kernel) rfl (Nat.le_of_ble_eq_true rfl) (ls := [some (.ref (a)), some (.int (nI (j)))]) (by exact (And.intro rfl (And.intro rfl True.intro))) ?_
  refine x_iload_n rfl d_X6_knotAt_0 ?_
  refine x_iconst (v := nI 0) (by decide) d_X6_knotAt_1 ?_
  refine x_aload_n rfl d_X6_knotAt_2 ?_
  refine x_getf co_all (v := .int (nI (W 0 0))) d_X6_knotAt_3 fk_6_18 (o6_o H) rfl ?_
  refine x_iconst (v := nI 1) (by decide) d_X6_knotAt_6 ?_
  refine x_isub d_X6_knotAt_7 ?_
  refine x_rdSN d_X6_knotAt_8 lk_6_22 mo_X7_within sc_X7_within (sp_wi (nI (j)) (n := W 0 0) (by omega)) rfl ⟨Nat.le_of_ble_eq_true rfl, Nat.le_of_ble_eq_true rfl⟩ rfl rfl (Nat.zero_le _) (Nat.zero_le _) (Nat.le_of_ble_eq_true rfl) rfl ?_
  have hle := nBi_le (nI (j)) (W 0 0)
  refine x_if_eqN (tgt := 30) d_X6_knotAt_11 (by decide) (by omega) (fun c_1 => by exfalso; rw [nBi_n (by omega)] at c_1; exact absurd hj (nB_0.mp c_1)) (fun c_1 => ?_)
  refine x_aload_n rfl d_X6_knotAt_14 ?_
  refine x_getf co_all (v := .ref (a + 1)) d_X6_knotAt_15 fk_6_9 (o6_o H) rfl ?_
  refine x_aload_n rfl d_X6_knotAt_18 ?_
  refine x_getf co_all (v := .int (nI (W 0 0))) d_X6_knotAt_19 fk_6_18 (o6_o H) rfl ?_
  refine x_iconst (v := nI 1) (by decide) d_X6_knotAt_22 ?_
  refine x_isubN d_X6_knotAt_23 (by omega) ?_
  refine x_iload_n rfl d_X6_knotAt_24 ?_
  refine x_isubN d_X6_knotAt_25 (by omega) ?_
  refine x_iaload d_X6_knotAt_26 (o6_1 H) (nIx_nI (j := ((W 0 0) - 1) - j) (by omega) (by decide)) ?_
  refine x_goto (tgt := 31) d_X6_knotAt_27 (by decide) ?_
  exact x_ireturn d_X6_knotAt_31 rfl rfl rfl rfl (Nat.zero_le _) (Nat.zero_le _) (⟨rfl, rfl⟩)
theorem sp_knotOut {h : nPH} {a : Nat} {W : Nat → Nat → Nat} (H : o6 h a W) (hs : W 0 0 ≤ 1441) {j : Int32} (hj : ¬ nIn j (W 0 0)) : nRd YX6_knotAt [.ref (a), .int (j)] h (.int (-1)) := by
  refine nSp_of (by decide +kernel) rfl (Nat.le_of_ble_eq_true rfl) (ls := [some (.ref (a)), some (.int (j))]) (by exact (And.intro rfl (And.intro rfl True.intro))) ?_
  refine x_iload_n rfl d_X6_knotAt_0 ?_
  refine x_iconst (v := nI 0) (by decide) d_X6_knotAt_1 ?_
  refine x_aload_n rfl d_X6_knotAt_2 ?_
  refine x_getf co_all (v := .int (nI (W 0 0))) d_X6_knotAt_3 fk_6_18 (o6_o H) rfl ?_
  refine x_iconst (v := nI 1) (by decide) d_X6_knotAt_6 ?_
  refine x_isub d_X6_knotAt_7 ?_
  refine x_rdSN d_X6_knotAt_8 lk_6_22 mo_X7_within sc_X7_within (sp_wi (j) (n := W 0 0) (by omega)) rfl ⟨Nat.le_of_ble_eq_true rfl, Nat.le_of_ble_eq_true rfl⟩ rfl rfl (Nat.zero_le _) (Nat.zero_le _) (Nat.le_of_ble_eq_true rfl) rfl ?_
  have hle := nBi_le (j) (W 0 0)
  refine x_if_eqN (tgt := 30) d_X6_knotAt_11 (by decide) (by omega) (fun c_1 => ?_) (fun c_1 => by exfalso; exact c_1 (nBi_F hj))
  refine x_iconst (v := -1) (by decide) d_X6_knotAt_30 ?_
  exact x_ireturn d_X6_knotAt_31 rfl rfl rfl rfl (Nat.zero_le _) (Nat.zero_le _) (⟨rfl, rfl⟩)
def wPu (W : Nat → Nat → Nat) (x : Nat) : Nat → Nat → Nat := u2 (u2 W 2 (W 3 0) x) 3 0 (W 3 0 + 1)
def wPo (W : Nat → Nat → Nat) (x : Nat) : Nat → Nat → Nat := u2 (u2 (u2 W 3 0 (W 3 0 - 1)) 1 (W 0 0) x) 0 0 (W 0 0 + 1)
theorem sp_goTo {h : nPH} {a : Nat} {W : Nat → Nat → Nat} (H : o6 h a W) (hs : W 3 0 ≤ 1440) {x : Nat} : nWv YX6_goTo [.ref (a), .int (nI (x))] h none (fun h2 => nFr (nIv a 3) h h2 ∧ o6 h2 a (wPu W x)) := by
  refine nSp_of (by decide +kernel) rfl (Nat.le_of_ble_eq_true rfl) (ls := [some (.ref (a)), some (.int (nI (x)))]) (by exact (And.intro rfl (And.intro rfl True.intro))) ?_
  refine x_aload_n rfl d_X6_goTo_0 ?_
  refine x_getf co_all (v := .int (nI (W 3 0))) d_X6_goTo_1 fk_6_26 (o6_o H) rfl ?_
  refine x_sipush (v := nI 1440) (by decide) d_X6_goTo_4 ?_
  refine x_icmp_gtN (tgt := 30) d_X6_goTo_7 (by decide) (by omega) (by omega) (fun c_1 => by exfalso; omega) (fun c_1 => ?_)
  refine x_aload_n rfl d_X6_goTo_10 ?_
  refine x_getf co_all (v := .ref (a + 2)) d_X6_goTo_11 fk_6_15 (o6_o H) rfl ?_
  refine x_aload_n rfl d_X6_goTo_14 ?_
  refine x_getf co_all (v := .int (nI (W 3 0))) d_X6_goTo_15 fk_6_26 (o6_o H) rfl ?_
  refine x_iload_n rfl d_X6_goTo_18 ?_
  refine x_iastore d_X6_goTo_19 (o6_2 H) (nIx_nI (j := W 3 0) (by omega) (by decide)) (Nat.le_trans (o6_B H) (Nat.le_add_right _ _)) ?_
  have H2_6 := o6_ast2 (W 3 0) (x) H
  have f_3 := o6_f2 (W 3 0) (x) H ((nFr.rf (S := nIv a 3) (h := h))) (by exact ⟨by omega, by omega⟩)
  refine x_aload_n rfl d_X6_goTo_20 ?_
  refine x_dup rfl d_X6_goTo_21 ?_
  refine x_getf co_all (v := .int (nI (W 3 0))) d_X6_goTo_22 fk_6_26 (o6_o H2_6) rfl ?_
  refine x_iconst (v := nI 1) (by decide) d_X6_goTo_25 ?_
  refine x_iaddN d_X6_goTo_26 ?_
  refine x_putf co_all d_X6_goTo_27 fk_6_26 ft_6_3 (o6_o H2_6) (Nat.le_of_ble_eq_true rfl) rfl rfl (o6_B H2_6) ?_
  have H4_6 := o6_put3 ((W 3 0) + 1) H2_6
  have f_5 := o6_g3 ((W 3 0) + 1) H2_6 (f_3) (by exact ⟨by omega, by omega⟩)
  exact x_return d_X6_goTo_30 rfl (f_5).1 (f_5).2.1 (Nat.zero_le _) (Nat.zero_le _) (⟨rfl, f_5, H4_6⟩)
theorem sp_goBack {h : nPH} {a : Nat} {W : Nat → Nat → Nat} (H : o6 h a W) (h1 : 1 ≤ W 3 0) (hs : W 0 0 ≤ 1440) {x : Nat} : nWv YX6_goBackFrom [.ref (a), .int (nI (x))] h none (fun h2 => nFr (nIv a 3) h h2 ∧ o6 h2 a (wPo W x)) := by
  refine nSp_of (by decide +kernel) rfl (Nat.le_of_ble_eq_true rfl) (ls := [some (.ref (a)), some (.int (nI (x)))]) (by exact (And.intro rfl (And.intro rfl True.intro))) ?_
  refine x_aload_n rfl d_X6_goBackFrom_0 ?_
  refine x_dup rfl d_X6_goBackFrom_1 ?_
  refine x_getf co_all (v := .int (nI (W 3 0))) d_X6_goBackFrom_2 fk_6_26 (o6_o H) rfl ?_
  refine x_iconst (v := nI 1) (by decide) d_X6_goBackFrom_5 ?_
  refine x_isubN d_X6_goBackFrom_6 (by omega) ?_
  refine x_putf co_all d_X6_goBackFrom_7 fk_6_26 ft_6_3 (o6_o H) (Nat.le_of_ble_eq_true rfl) rfl rfl (o6_B H) ?_
  have H1_6 := o6_put3 ((W 3 0) - 1) H
  have f_2 := o6_g3 ((W 3 0) - 1) H ((nFr.rf (S := nIv a 3) (h := h))) (by exact ⟨by omega, by omega⟩)
  refine x_aload_n rfl d_X6_goBackFrom_10 ?_
  refine x_getf co_all (v := .int (nI (W 0 0))) d_X6_goBackFrom_11 fk_6_18 (o6_o H1_6) rfl ?_
  refine x_sipush (v := nI 1440) (by decide) d_X6_goBackFrom_14 ?_
  refine x_icmp_gtN (tgt := 40) d_X6_goBackFrom_17 (by decide) (by omega) (by omega) (fun c_3 => by exfalso; omega) (fun c_3 => ?_)
  refine x_aload_n rfl d_X6_goBackFrom_20 ?_
  refine x_getf co_all (v := .ref (a + 1)) d_X6_goBackFrom_21 fk_6_9 (o6_o H1_6) rfl ?_
  refine x_aload_n rfl d_X6_goBackFrom_24 ?_
  refine x_getf co_all (v := .int (nI (W 0 0))) d_X6_goBackFrom_25 fk_6_18 (o6_o H1_6) rfl ?_
  refine x_iload_n rfl d_X6_goBackFrom_28 ?_
  refine x_iastore d_X6_goBackFrom_29 (o6_1 H1_6) (nIx_nI (j := W 0 0) (by omega) (by decide)) (Nat.le_trans (o6_B H1_6) (Nat.le_add_right _ _)) ?_
  have H4_6 := o6_ast1 (W 0 0) (x) H1_6
  have f_5 := o6_f1 (W 0 0) (x) H1_6 (f_2) (by exact ⟨by omega, by omega⟩)
  refine x_aload_n rfl d_X6_goBackFrom_30 ?_
  refine x_dup rfl d_X6_goBackFrom_31 ?_
  refine x_getf co_all (v := .int (nI (W 0 0))) d_X6_goBackFrom_32 fk_6_18 (o6_o H4_6) rfl ?_
  refine x_iconst (v := nI 1) (by decide) d_X6_goBackFrom_35 ?_
  refine x_iaddN d_X6_goBackFrom_36 ?_
  refine x_putf co_all d_X6_goBackFrom_37 fk_6_18 ft_6_0 (o6_o H4_6) (Nat.le_of_ble_eq_true rfl) rfl rfl (o6_B H4_6) ?_
  have H6_6 := o6_put0 ((W 0 0) + 1) H4_6
  have f_7 := o6_g0 ((W 0 0) + 1) H4_6 (f_5) (by exact ⟨by omega, by omega⟩)
  exact x_return d_X6_goBackFrom_40 rfl (f_7).1 (f_7).2.1 (Nat.zero_le _) (Nat.zero_le _) (⟨rfl, f_7, H6_6⟩)
theorem sp_makeWhole {h : nPH} {a : Nat} {D : Nat → Nat → Nat} (H : o3 h a D) (R : rOK D) {k : Nat} (hk : k < 24) {q : Nat} (hq : q < 2 ^ 30) : nWv YX6_makeWhole [.ref (a), .int (nI (k)), .int (nI (q))] h none (fun h2 => nFr (nIv a 7) h h2 ∧ o3 h2 a (sto D 1 k q)) := by
  refine nSp_of (by decide +kernel) rfl (Nat.le_of_ble_eq_true rfl) (ls := [some (.ref (a)), some (.int (nI (k))), some (.int (nI (q)))]) (by exact (And.intro rfl (And.intro rfl (And.intro rfl True.intro)))) ?_
  refine x_aload_n rfl d_X6_makeWhole_0 ?_
  refine x_ifnull d_X6_makeWhole_1 ?_
  refine x_aload_n rfl d_X6_makeWhole_4 ?_
  refine x_iload_n rfl d_X6_makeWhole_5 ?_
  refine x_iload_n rfl d_X6_makeWhole_6 ?_
  refine x_iconst (v := nI 1) (by decide) d_X6_makeWhole_7 ?_
  refine x_wvV d_X6_makeWhole_8 lk_6_57 mo_X3_setSideTo vi_X3_setSideTo (sp_setSideTo H R hk (q := q) (on := 1) hq (by decide)) (o3_o H) ⟨_, rfl, rfl⟩ rfl ⟨Nat.le_of_ble_eq_true rfl, Nat.le_of_ble_eq_true rfl⟩ (Nat.zero_le _) (Nat.zero_le _) (Nat.le_of_ble_eq_true rfl) rfl (fun h2 hp e1 e2 => ?_)
  exact x_return d_X6_makeWhole_11 rfl e1 e2 (Nat.zero_le _) (Nat.zero_le _) ⟨rfl, hp⟩
theorem nI_ne1 {n : Nat} (h : n < 2 ^ 31) : ¬ nI n = -1 := fun e => by
  have := congrArg Int32.toInt e
  rw [nI_toInt h] at this
  have h2 : (-1 : Int32).toInt = -1 := by decide
  omega
theorem sp_mendA {h : nPH} {a : Nat} {P : Nat → Nat → Nat} {R : Nat → Nat → Nat → Nat} (W : pW h a P R) {j i : Nat} (hj : j < P 5 0) (hi : i < R j 0 0) {q : Nat} (hq : q < 24) (hno : ∀ q2, q2 < q → igo (R j) i q2 = false) (hy : igo (R j) i q = true) (hj1 : 1 ≤ j) : nWv YX6_mendOneFrom [.ref a, .int (nI j), .int (nI i)] h (some (.int (nI (100 * (j - 1) + q)))) (fun h2 => nFr (nIv (P 4 j) 7) h h2 ∧ pW h2 a P (uR R j (sto (R j) 1 i q))) := by
  obtain ⟨H, hn, HR, hap⟩ := id W
  have hpl := (HR j hj).2.1.1
  refine nSp_of (by decide +kernel) rfl (Nat.le_of_ble_eq_true rfl) (ls := [some (.ref (a)), some (.int (nI (j))), some (.int (nI (i))), none, none]) (by exact (And.intro rfl (And.intro rfl (And.intro rfl True.intro)))) ?_
  refine x_aload_n rfl d_X6_mendOneFrom_0 ?_
  refine x_iload_n rfl d_X6_mendOneFrom_1 ?_
  refine x_iload_n rfl d_X6_mendOneFrom_2 ?_
  refine x_rdV d_X6_mendOneFrom_3 lk_6_40 mo_X2_goneAbove vi_X2_goneAbove (sp_gAbS W hj hi hq hno hy) (o2_o H) ⟨_, rfl, rfl⟩ rfl ⟨Nat.le_of_ble_eq_true rfl, Nat.le_of_ble_eq_true rfl⟩ rfl rfl (Nat.zero_le _) (Nat.zero_le _) (Nat.le_of_ble_eq_true rfl) rfl ?_
  refine x_istore_n d_X6_mendOneFrom_6 (Nat.le_of_ble_eq_true rfl) ?_
  refine x_iload_n rfl d_X6_mendOneFrom_7 ?_
  refine x_iconst (v := -1) (by decide) d_X6_mendOneFrom_8 ?_
  refine x_icmp_eq (tgt := 31) d_X6_mendOneFrom_9 (by decide) (fun c_1 => by exfalso; exact nI_ne1 (by omega) c_1) (fun c_1 => ?_)
  refine x_aload_n rfl d_X6_mendOneFrom_12 ?_
  refine x_iload_n rfl d_X6_mendOneFrom_13 ?_
  refine x_rdV d_X6_mendOneFrom_14 lk_6_46 mo_X2_rowAt vi_X2_rowAt (sp_rowAt H hn hj) (o2_o H) ⟨_, rfl, rfl⟩ rfl ⟨Nat.le_of_ble_eq_true rfl, Nat.le_of_ble_eq_true rfl⟩ rfl rfl (Nat.zero_le _) (Nat.zero_le _) (Nat.le_of_ble_eq_true rfl) rfl ?_
  refine x_iload_n rfl d_X6_mendOneFrom_17 ?_
  refine x_iload_n rfl d_X6_mendOneFrom_18 ?_
  refine x_wvS d_X6_mendOneFrom_19 lk_6_50 mo_X6_makeWhole sc_X6_makeWhole (sp_makeWhole (HR j hj).1 (HR j hj).2.1 (k := i) (by omega) (q := q) (by omega)) rfl ⟨Nat.le_of_ble_eq_true rfl, Nat.le_of_ble_eq_true rfl⟩ (Nat.zero_le _) (Nat.zero_le _) (Nat.le_of_ble_eq_true rfl) rfl (fun h2 hp e1 e2 => ?_)
  refine x_bipush (v := nI 100) (by decide) d_X6_mendOneFrom_22 ?_
  refine x_iload_n rfl d_X6_mendOneFrom_24 ?_
  refine x_iconst (v := nI 1) (by decide) d_X6_mendOneFrom_25 ?_
  refine x_isubN d_X6_mendOneFrom_26 (by omega) ?_
  refine x_imulN d_X6_mendOneFrom_27 ?_
  refine x_iload_n rfl d_X6_mendOneFrom_28 ?_
  refine x_iaddN d_X6_mendOneFrom_29 ?_
  exact x_ireturn d_X6_mendOneFrom_30 rfl rfl e1 e2 (Nat.zero_le _) (Nat.zero_le _) (⟨rfl, hp.1, pW_up W hj hp.1 hp.2 (rOK_sto (HR j hj).2.1 1 i q)⟩)
theorem sp_mendB {h : nPH} {a : Nat} {P : Nat → Nat → Nat} {R : Nat → Nat → Nat → Nat} (W : pW h a P R) {j i : Nat} (hj : j < P 5 0) (hi : i < R j 0 0) (hA : ∀ q, q < 24 → igo (R j) i q = false) (hj1 : j + 1 < P 5 0) {q : Nat} (hq : q < R (j + 1) 0 0) (hno : ∀ q2, q2 < q → igo (R (j + 1)) q2 i = false) (hy : igo (R (j + 1)) q i = true) : nWv YX6_mendOneFrom [.ref a, .int (nI j), .int (nI i)] h (some (.int (nI (100 * (j + 1) + q)))) (fun h2 => nFr (nIv (P 4 (j + 1)) 7) h h2 ∧ pW h2 a P (uR R (j + 1) (sto (R (j + 1)) 1 q i))) := by
  obtain ⟨H, hn, HR, hap⟩ := id W
  have hpl := (HR j hj).2.1.1
  have hp2 := (HR (j + 1) hj1).2.1.1
  refine nSp_of (by decide +kernel) rfl (Nat.le_of_ble_eq_true rfl) (ls := [some (.ref (a)), some (.int (nI (j))), some (.int (nI (i))), none, none]) (by exact (And.intro rfl (And.intro rfl (And.intro rfl True.intro)))) ?_
  refine x_aload_n rfl d_X6_mendOneFrom_0 ?_
  refine x_iload_n rfl d_X6_mendOneFrom_1 ?_
  refine x_iload_n rfl d_X6_mendOneFrom_2 ?_
  refine x_rdV d_X6_mendOneFrom_3 lk_6_40 mo_X2_goneAbove vi_X2_goneAbove (sp_gAbN W hj hi hA) (o2_o H) ⟨_, rfl, rfl⟩ rfl ⟨Nat.le_of_ble_eq_true rfl, Nat.le_of_ble_eq_true rfl⟩ rfl rfl (Nat.zero_le _) (Nat.zero_le _) (Nat.le_of_ble_eq_true rfl) rfl ?_
  refine x_istore_n d_X6_mendOneFrom_6 (Nat.le_of_ble_eq_true rfl) ?_
  refine x_iload_n rfl d_X6_mendOneFrom_7 ?_
  refine x_iconst (v := -1) (by decide) d_X6_mendOneFrom_8 ?_
  refine x_icmp_eq (tgt := 31) d_X6_mendOneFrom_9 (by decide) (fun c_1 => ?_) (fun c_1 => by exfalso; exact c_1 rfl)
  refine x_aload_n rfl d_X6_mendOneFrom_31 ?_
  refine x_iload_n rfl d_X6_mendOneFrom_32 ?_
  refine x_iload_n rfl d_X6_mendOneFrom_33 ?_
  refine x_rdV d_X6_mendOneFrom_34 lk_6_54 mo_X2_goneBelow vi_X2_goneBelow (sp_gBeS W hj hi hj1 hq hno hy) (o2_o H) ⟨_, rfl, rfl⟩ rfl ⟨Nat.le_of_ble_eq_true rfl, Nat.le_of_ble_eq_true rfl⟩ rfl rfl (Nat.zero_le _) (Nat.zero_le _) (Nat.le_of_ble_eq_true rfl) rfl ?_
  refine x_istore d_X6_mendOneFrom_37 (Nat.le_of_ble_eq_true rfl) ?_
  refine x_iload rfl d_X6_mendOneFrom_39 ?_
  refine x_iconst (v := -1) (by decide) d_X6_mendOneFrom_41 ?_
  refine x_icmp_eq (tgt := 68) d_X6_mendOneFrom_42 (by decide) (fun c_2 => by exfalso; exact nI_ne1 (by omega) c_2) (fun c_2 => ?_)
  refine x_aload_n rfl d_X6_mendOneFrom_45 ?_
  refine x_iload_n rfl d_X6_mendOneFrom_46 ?_
  refine x_iconst (v := nI 1) (by decide) d_X6_mendOneFrom_47 ?_
  refine x_iaddN d_X6_mendOneFrom_48 ?_
  refine x_rdV d_X6_mendOneFrom_49 lk_6_46 mo_X2_rowAt vi_X2_rowAt (sp_rowAt H hn hj1) (o2_o H) ⟨_, rfl, rfl⟩ rfl ⟨Nat.le_of_ble_eq_true rfl, Nat.le_of_ble_eq_true rfl⟩ rfl rfl (Nat.zero_le _) (Nat.zero_le _) (Nat.le_of_ble_eq_true rfl) rfl ?_
  refine x_iload rfl d_X6_mendOneFrom_52 ?_
  refine x_iload_n rfl d_X6_mendOneFrom_54 ?_
  refine x_wvS d_X6_mendOneFrom_55 lk_6_50 mo_X6_makeWhole sc_X6_makeWhole (sp_makeWhole (HR (j + 1) hj1).1 (HR (j + 1) hj1).2.1 (k := q) (by omega) (q := i) (by omega)) rfl ⟨Nat.le_of_ble_eq_true rfl, Nat.le_of_ble_eq_true rfl⟩ (Nat.zero_le _) (Nat.zero_le _) (Nat.le_of_ble_eq_true rfl) rfl (fun h2 hp e1 e2 => ?_)
  refine x_bipush (v := nI 100) (by decide) d_X6_mendOneFrom_58 ?_
  refine x_iload_n rfl d_X6_mendOneFrom_60 ?_
  refine x_iconst (v := nI 1) (by decide) d_X6_mendOneFrom_61 ?_
  refine x_iaddN d_X6_mendOneFrom_62 ?_
  refine x_imulN d_X6_mendOneFrom_63 ?_
  refine x_iload rfl d_X6_mendOneFrom_64 ?_
  refine x_iaddN d_X6_mendOneFrom_66 ?_
  exact x_ireturn d_X6_mendOneFrom_67 rfl rfl e1 e2 (Nat.zero_le _) (Nat.zero_le _) (⟨rfl, hp.1, pW_up W hj1 hp.1 hp.2 (rOK_sto (HR (j + 1) hj1).2.1 1 q i)⟩)
theorem sp_mendC {h : nPH} {a : Nat} {P : Nat → Nat → Nat} {R : Nat → Nat → Nat → Nat} (W : pW h a P R) {j i : Nat} (hj : j < P 5 0) (hi : i < R j 0 0) (hA : ∀ q, q < 24 → igo (R j) i q = false) (hB : j + 1 < P 5 0 → ∀ q, q < R (j + 1) 0 0 → igo (R (j + 1)) q i = false) : nRd YX6_mendOneFrom [.ref a, .int (nI j), .int (nI i)] h (.int (-1)) := by
  obtain ⟨H, hn, HR, hap⟩ := id W
  have hpl := (HR j hj).2.1.1
  by_cases hj1 : j + 1 < P 5 0
  · refine nSp_of (by decide +kernel) rfl (Nat.le_of_ble_eq_true rfl) (ls := [some (.ref (a)), some (.int (nI (j))), some (.int (nI (i))), none, none]) (by exact (And.intro rfl (And.intro rfl (And.intro rfl True.intro)))) ?_
    refine x_aload_n rfl d_X6_mendOneFrom_0 ?_
    refine x_iload_n rfl d_X6_mendOneFrom_1 ?_
    refine x_iload_n rfl d_X6_mendOneFrom_2 ?_
    refine x_rdV d_X6_mendOneFrom_3 lk_6_40 mo_X2_goneAbove vi_X2_goneAbove (sp_gAbN W hj hi hA) (o2_o H) ⟨_, rfl, rfl⟩ rfl ⟨Nat.le_of_ble_eq_true rfl, Nat.le_of_ble_eq_true rfl⟩ rfl rfl (Nat.zero_le _) (Nat.zero_le _) (Nat.le_of_ble_eq_true rfl) rfl ?_
    refine x_istore_n d_X6_mendOneFrom_6 (Nat.le_of_ble_eq_true rfl) ?_
    refine x_iload_n rfl d_X6_mendOneFrom_7 ?_
    refine x_iconst (v := -1) (by decide) d_X6_mendOneFrom_8 ?_
    refine x_icmp_eq (tgt := 31) d_X6_mendOneFrom_9 (by decide) (fun c_1 => ?_) (fun c_1 => by exfalso; exact c_1 rfl)
    refine x_aload_n rfl d_X6_mendOneFrom_31 ?_
    refine x_iload_n rfl d_X6_mendOneFrom_32 ?_
    refine x_iload_n rfl d_X6_mendOneFrom_33 ?_
    refine x_rdV d_X6_mendOneFrom_34 lk_6_54 mo_X2_goneBelow vi_X2_goneBelow (sp_gBeN W hj hi hj1 (hB hj1)) (o2_o H) ⟨_, rfl, rfl⟩ rfl ⟨Nat.le_of_ble_eq_true rfl, Nat.le_of_ble_eq_true rfl⟩ rfl rfl (Nat.zero_le _) (Nat.zero_le _) (Nat.le_of_ble_eq_true rfl) rfl ?_
    refine x_istore d_X6_mendOneFrom_37 (Nat.le_of_ble_eq_true rfl) ?_
    refine x_iload rfl d_X6_mendOneFrom_39 ?_
    refine x_iconst (v := -1) (by decide) d_X6_mendOneFrom_41 ?_
    refine x_icmp_eq (tgt := 68) d_X6_mendOneFrom_42 (by decide) (fun c_2 => ?_) (fun c_2 => by exfalso; exact c_2 rfl)
    refine x_iconst (v := -1) (by decide) d_X6_mendOneFrom_68 ?_
    exact x_ireturn d_X6_mendOneFrom_69 rfl rfl rfl rfl (Nat.zero_le _) (Nat.zero_le _) (⟨rfl, rfl⟩)
  · refine nSp_of (by decide +kernel) rfl (Nat.le_of_ble_eq_true rfl) (ls := [some (.ref (a)), some (.int (nI (j))), some (.int (nI (i))), none, none]) (by exact (And.intro rfl (And.intro rfl (And.intro rfl True.intro)))) ?_
    refine x_aload_n rfl d_X6_mendOneFrom_0 ?_
    refine x_iload_n rfl d_X6_mendOneFrom_1 ?_
    refine x_iload_n rfl d_X6_mendOneFrom_2 ?_
    refine x_rdV d_X6_mendOneFrom_3 lk_6_40 mo_X2_goneAbove vi_X2_goneAbove (sp_gAbN W hj hi hA) (o2_o H) ⟨_, rfl, rfl⟩ rfl ⟨Nat.le_of_ble_eq_true rfl, Nat.le_of_ble_eq_true rfl⟩ rfl rfl (Nat.zero_le _) (Nat.zero_le _) (Nat.le_of_ble_eq_true rfl) rfl ?_
    refine x_istore_n d_X6_mendOneFrom_6 (Nat.le_of_ble_eq_true rfl) ?_
    refine x_iload_n rfl d_X6_mendOneFrom_7 ?_
    refine x_iconst (v := -1) (by decide) d_X6_mendOneFrom_8 ?_
    refine x_icmp_eq (tgt := 31) d_X6_mendOneFrom_9 (by decide) (fun c_1 => ?_) (fun c_1 => by exfalso; exact c_1 rfl)
    refine x_aload_n rfl d_X6_mendOneFrom_31 ?_
    refine x_iload_n rfl d_X6_mendOneFrom_32 ?_
    refine x_iload_n rfl d_X6_mendOneFrom_33 ?_
    refine x_rdV d_X6_mendOneFrom_34 lk_6_54 mo_X2_goneBelow vi_X2_goneBelow (sp_gBeO W hj hi hj1) (o2_o H) ⟨_, rfl, rfl⟩ rfl ⟨Nat.le_of_ble_eq_true rfl, Nat.le_of_ble_eq_true rfl⟩ rfl rfl (Nat.zero_le _) (Nat.zero_le _) (Nat.le_of_ble_eq_true rfl) rfl ?_
    refine x_istore d_X6_mendOneFrom_37 (Nat.le_of_ble_eq_true rfl) ?_
    refine x_iload rfl d_X6_mendOneFrom_39 ?_
    refine x_iconst (v := -1) (by decide) d_X6_mendOneFrom_41 ?_
    refine x_icmp_eq (tgt := 68) d_X6_mendOneFrom_42 (by decide) (fun c_2 => ?_) (fun c_2 => by exfalso; exact c_2 rfl)
    refine x_iconst (v := -1) (by decide) d_X6_mendOneFrom_68 ?_
    exact x_ireturn d_X6_mendOneFrom_69 rfl rfl rfl rfl (Nat.zero_le _) (Nat.zero_le _) (⟨rfl, rfl⟩)
/-- one step of the walk -/
def wkst (P : Nat → Nat → Nat) (R R2 : Nat → Nat → Nat → Nat) (W W2 : Nat → Nat → Nat) : Prop :=
  ∃ j i : Nat, 1 ≤ W 3 0 ∧ W 3 0 ≤ 1441 ∧ W 2 (W 3 0 - 1) = 100 * j + i ∧ j < P 5 0 ∧ i < R j 0 0 ∧
    ((∃ q, q < 24 ∧ 1 ≤ j ∧ (∀ q2, q2 < q → igo (R j) i q2 = false) ∧ igo (R j) i q = true ∧ W 3 0 ≤ 1440 ∧ R2 = uR R j (sto (R j) 1 i q) ∧ W2 = wPu W (100 * (j - 1) + q)) ∨
     (∃ q, (∀ q, q < 24 → igo (R j) i q = false) ∧ j + 1 < P 5 0 ∧ q < R (j + 1) 0 0 ∧ (∀ q2, q2 < q → igo (R (j + 1)) q2 i = false) ∧ igo (R (j + 1)) q i = true ∧ W 3 0 ≤ 1440 ∧ R2 = uR R (j + 1) (sto (R (j + 1)) 1 q i) ∧ W2 = wPu W (100 * (j + 1) + q)) ∨
     ((∀ q, q < 24 → igo (R j) i q = false) ∧ (j + 1 < P 5 0 → ∀ q, q < R (j + 1) 0 0 → igo (R (j + 1)) q i = false) ∧ W 0 0 ≤ 1440 ∧ R2 = R ∧ W2 = wPo W (100 * j + i)))
def wfr (P : Nat → Nat → Nat) (wa : Nat) : Nat → Prop := fun q => nIv wa 3 q ∨ ∃ r, r < P 5 0 ∧ nIv (P 4 r) 7 q
theorem lp_walk {h0 : nPH} {wa a b0 m : Nat} {P : Nat → Nat → Nat} {Rs : Nat → Nat → Nat → Nat → Nat} {Ws : Nat → Nat → Nat → Nat} (hm : m < 2882) (hst : ∀ t, t < m → wkst P (Rs t) (Rs (t + 1)) (Ws t) (Ws (t + 1))) (hend : Ws m 3 0 = 0) (hwa : ap wa 3 a 3) (hwr : ∀ r, r < P 5 0 → ap wa 3 (P 4 r) 7) : ∀ n t : Nat, ∀ h : nPH, t + n = m → nFr (wfr P wa) h0 h → pW h a P (Rs t) → o6 h wa (Ws t) → nG YX6_walk (nKy YX6_walk h0.1 h0.2.1 (fun v h2 => v = none ∧ nFr (wfr P wa) h0 h2 ∧ pW h2 a P (Rs m) ∧ o6 h2 wa (Ws m))) 0 0 17 [some (.ref (wa)), some (.ref (a)), some (.int (nI (b0))), some (.int (nI (t))), none, none] [] h := by
  intro n
  induction n with
  | zero =>
    intro t h ht F Wp H
    have et : t = m := by omega
    subst et
    refine x_iload_n rfl d_X6_walk_17 ?_
    refine x_sipush (v := nI 2882) (by decide) d_X6_walk_18 ?_
    refine x_icmp_geN (tgt := 87) d_X6_walk_21 (by decide) (by omega) (by omega) (fun c_1 => by exfalso; omega) (fun c_1 => ?_)
    refine x_aload_n rfl d_X6_walk_24 ?_
    refine x_getf co_all (v := .int (nI ((Ws t) 3 0))) d_X6_walk_25 fk_6_26 (o6_o H) rfl ?_
    refine x_if_leN (tgt := 87) d_X6_walk_28 (by decide) (by omega) (fun c_2 => ?_) (fun c_2 => by exfalso; omega)
    exact x_return d_X6_walk_87 rfl F.1 F.2.1 (Nat.zero_le _) (Nat.zero_le _) (⟨rfl, F, Wp, H⟩)
  | succ n ih =>
    intro t h ht F Wp H
    obtain ⟨j, i, w1, w2, w3, hj, hi, hcase⟩ := hst t (by omega)
    have hp24 := (Wp.2.2.1 j hj).2.1.1
    have hn20 := Wp.2.1
    have FR : ∀ (h2 : nPH) (r : Nat), r < P 5 0 → nFr (nIv (P 4 r) 7) h h2 → nFr (wfr P wa) h0 h2 ∧ o6 h2 wa (Ws t) := fun h2 r hr F2 => ⟨F.tr (F2.mono (fun q z => Or.inr ⟨r, hr, z⟩)), o6_fr H F2 (ap_fr (S := fun _ => True) (hwr r hr))⟩
    have WP : ∀ (h2 h3 : nPH) (R3 : Nat → Nat → Nat → Nat), pW h2 a P R3 → nFr (nIv wa 3) h2 h3 → pW h3 a P R3 := fun h2 h3 R3 W3 F3 => pW_fr W3 F3 (ap_fr (S := fun _ => True) (ap_sy hwa)) (fun r hr => ap_fr (S := fun _ => True) (ap_sy (hwr r hr)))
    refine x_iload_n rfl d_X6_walk_17 ?_
    refine x_sipush (v := nI 2882) (by decide) d_X6_walk_18 ?_
    refine x_icmp_geN (tgt := 87) d_X6_walk_21 (by decide) (by omega) (by omega) (fun c_1 => by exfalso; omega) (fun c_1 => ?_)
    refine x_aload_n rfl d_X6_walk_24 ?_
    refine x_getf co_all (v := .int (nI ((Ws t) 3 0))) d_X6_walk_25 fk_6_26 (o6_o H) rfl ?_
    refine x_if_leN (tgt := 87) d_X6_walk_28 (by decide) (by omega) (fun c_2 => by exfalso; omega) (fun c_2 => ?_)
    refine x_aload_n rfl d_X6_walk_31 ?_
    refine x_getf co_all (v := .ref (wa + 2)) d_X6_walk_32 fk_6_15 (o6_o H) rfl ?_
    refine x_aload_n rfl d_X6_walk_35 ?_
    refine x_getf co_all (v := .int (nI ((Ws t) 3 0))) d_X6_walk_36 fk_6_26 (o6_o H) rfl ?_
    refine x_iconst (v := nI 1) (by decide) d_X6_walk_39 ?_
    refine x_isubN d_X6_walk_40 (by omega) ?_
    refine x_iaload d_X6_walk_41 (o6_2 H) (nIx_nI (j := ((Ws t) 3 0) - 1) (by omega) (by decide)) ?_
    refine x_istore d_X6_walk_42 (Nat.le_of_ble_eq_true rfl) ?_
    refine x_aload_n rfl d_X6_walk_44 ?_
    refine x_iload rfl d_X6_walk_45 ?_
    refine x_bipush (v := nI 100) (by decide) d_X6_walk_47 ?_
    rw [w3]
    refine x_idivN d_X6_walk_49 (by decide) (by omega) (by decide) ?_
    rw [show (100 * j + i) / 100 = j by omega]
    refine x_iload rfl d_X6_walk_50 ?_
    refine x_bipush (v := nI 100) (by decide) d_X6_walk_52 ?_
    refine x_iremN d_X6_walk_54 (by decide) (by omega) (by decide) ?_
    rw [show (100 * j + i) % 100 = i by omega]
    rcases hcase with ⟨q, hq, hj1, hno, hy, hcap, eR, eW⟩ | ⟨q, hA, hj1, hq, hno, hy, hcap, eR, eW⟩ | ⟨hA, hB, hcap, eR, eW⟩
    · refine x_wvS d_X6_walk_55 lk_6_33 mo_X6_mendOneFrom sc_X6_mendOneFrom (sp_mendA Wp hj hi hq hno hy hj1) rfl ⟨Nat.le_of_ble_eq_true rfl, Nat.le_of_ble_eq_true rfl⟩ (Nat.zero_le _) (Nat.zero_le _) (Nat.le_of_ble_eq_true rfl) rfl (fun h2 hp e1 e2 => ?_)
      obtain ⟨F2, W2⟩ := hp
      rw [← eR] at W2
      obtain ⟨FF, H2⟩ := FR h2 (j) hj F2
      have hp25 := (Wp.2.2.1 (j) hj).2.1.1
      refine x_istore d_X6_walk_58 (Nat.le_of_ble_eq_true rfl) ?_
      refine x_iload rfl d_X6_walk_60 ?_
      refine x_iconst (v := -1) (by decide) d_X6_walk_62 ?_
      refine x_icmp_ne (tgt := 75) d_X6_walk_63 (by decide) (fun c_1 => ?_) (fun c_1 => by exfalso; exact nI_ne1 (by omega) c_1)
      refine x_aload_n rfl d_X6_walk_75 ?_
      refine x_iload rfl d_X6_walk_76 ?_
      refine x_wvV d_X6_walk_78 lk_6_29 mo_X6_goTo vi_X6_goTo (sp_goTo H2 hcap (x := 100 * (j - 1) + q)) (o6_o H2) ⟨_, rfl, rfl⟩ rfl ⟨Nat.le_of_ble_eq_true rfl, Nat.le_of_ble_eq_true rfl⟩ (Nat.zero_le _) (Nat.zero_le _) (Nat.le_of_ble_eq_true rfl) rfl (fun h3 hp e3 e4 => ?_)
      obtain ⟨F3, H3⟩ := hp
      rw [← eW] at H3
      refine x_iincN (m := 1) d_X6_walk_81 rfl (by decide) (Nat.le_of_ble_eq_true rfl) ?_
      refine x_goto (tgt := 17) d_X6_walk_84 (by decide) ?_
      exact nG.sub (by exact (And.intro rfl (And.intro rfl (And.intro rfl (And.intro rfl True.intro))))) (ih (t + 1) h3 (by omega) (FF.tr (F3.mono (fun q z => Or.inl z))) (WP h2 h3 _ W2 F3) H3)
    · refine x_wvS d_X6_walk_55 lk_6_33 mo_X6_mendOneFrom sc_X6_mendOneFrom (sp_mendB Wp hj hi hA hj1 hq hno hy) rfl ⟨Nat.le_of_ble_eq_true rfl, Nat.le_of_ble_eq_true rfl⟩ (Nat.zero_le _) (Nat.zero_le _) (Nat.le_of_ble_eq_true rfl) rfl (fun h2 hp e1 e2 => ?_)
      obtain ⟨F2, W2⟩ := hp
      rw [← eR] at W2
      obtain ⟨FF, H2⟩ := FR h2 (j + 1) hj1 F2
      have hp25 := (Wp.2.2.1 (j + 1) hj1).2.1.1
      refine x_istore d_X6_walk_58 (Nat.le_of_ble_eq_true rfl) ?_
      refine x_iload rfl d_X6_walk_60 ?_
      refine x_iconst (v := -1) (by decide) d_X6_walk_62 ?_
      refine x_icmp_ne (tgt := 75) d_X6_walk_63 (by decide) (fun c_1 => ?_) (fun c_1 => by exfalso; exact nI_ne1 (by omega) c_1)
      refine x_aload_n rfl d_X6_walk_75 ?_
      refine x_iload rfl d_X6_walk_76 ?_
      refine x_wvV d_X6_walk_78 lk_6_29 mo_X6_goTo vi_X6_goTo (sp_goTo H2 hcap (x := 100 * (j + 1) + q)) (o6_o H2) ⟨_, rfl, rfl⟩ rfl ⟨Nat.le_of_ble_eq_true rfl, Nat.le_of_ble_eq_true rfl⟩ (Nat.zero_le _) (Nat.zero_le _) (Nat.le_of_ble_eq_true rfl) rfl (fun h3 hp e3 e4 => ?_)
      obtain ⟨F3, H3⟩ := hp
      rw [← eW] at H3
      refine x_iincN (m := 1) d_X6_walk_81 rfl (by decide) (Nat.le_of_ble_eq_true rfl) ?_
      refine x_goto (tgt := 17) d_X6_walk_84 (by decide) ?_
      exact nG.sub (by exact (And.intro rfl (And.intro rfl (And.intro rfl (And.intro rfl True.intro))))) (ih (t + 1) h3 (by omega) (FF.tr (F3.mono (fun q z => Or.inl z))) (WP h2 h3 _ W2 F3) H3)
    · refine x_rdS d_X6_walk_55 lk_6_33 mo_X6_mendOneFrom sc_X6_mendOneFrom (sp_mendC Wp hj hi hA hB) rfl ⟨Nat.le_of_ble_eq_true rfl, Nat.le_of_ble_eq_true rfl⟩ rfl rfl (Nat.zero_le _) (Nat.zero_le _) (Nat.le_of_ble_eq_true rfl) rfl ?_
      refine x_istore d_X6_walk_58 (Nat.le_of_ble_eq_true rfl) ?_
      refine x_iload rfl d_X6_walk_60 ?_
      refine x_iconst (v := -1) (by decide) d_X6_walk_62 ?_
      refine x_icmp_ne (tgt := 75) d_X6_walk_63 (by decide) (fun c_1 => by exfalso; exact c_1 rfl) (fun c_1 => ?_)
      refine x_aload_n rfl d_X6_walk_66 ?_
      refine x_iload rfl d_X6_walk_67 ?_
      refine x_wvV d_X6_walk_69 lk_6_37 mo_X6_goBackFrom vi_X6_goBackFrom (sp_goBack H w1 hcap (x := 100 * j + i)) (o6_o H) ⟨_, rfl, rfl⟩ rfl ⟨Nat.le_of_ble_eq_true rfl, Nat.le_of_ble_eq_true rfl⟩ (Nat.zero_le _) (Nat.zero_le _) (Nat.le_of_ble_eq_true rfl) rfl (fun h3 hp e3 e4 => ?_)
      obtain ⟨F3, H3⟩ := hp
      rw [← eW] at H3
      refine x_goto (tgt := 81) d_X6_walk_72 (by decide) ?_
      refine x_iincN (m := 1) d_X6_walk_81 rfl (by decide) (Nat.le_of_ble_eq_true rfl) ?_
      refine x_goto (tgt := 17) d_X6_walk_84 (by decide) ?_
      exact nG.sub (by exact (And.intro rfl (And.intro rfl (And.intro rfl (And.intro rfl True.intro))))) (ih (t + 1) h3 (by omega) (F.tr (F3.mono (fun q z => Or.inl z))) (by rw [eR]; exact WP h h3 _ Wp F3) H3)
theorem sp_walk {h : nPH} {wa a b0 m : Nat} {P : Nat → Nat → Nat} {Rs : Nat → Nat → Nat → Nat → Nat} {Ws : Nat → Nat → Nat → Nat} (hm : m < 2882) (hst : ∀ t, t < m → wkst P (Rs t) (Rs (t + 1)) (Ws t) (Ws (t + 1))) (hend : Ws m 3 0 = 0) (hwa : ap wa 3 a 3) (hwr : ∀ r, r < P 5 0 → ap wa 3 (P 4 r) 7) {W0 : Nat → Nat → Nat} (H : o6 h wa W0) (Wp : pW h a P (Rs 0)) (hW0 : Ws 0 = wPu (u2 (u2 W0 0 0 0) 3 0 0) b0) : nWv YX6_walk [.ref wa, .ref a, .int (nI b0)] h none (fun h2 => nFr (wfr P wa) h h2 ∧ pW h2 a P (Rs m) ∧ o6 h2 wa (Ws m)) := by
  refine nSp_of (by decide +kernel) rfl (Nat.le_of_ble_eq_true rfl) (ls := [some (.ref (wa)), some (.ref (a)), some (.int (nI (b0))), none, none, none]) (by exact (And.intro rfl (And.intro rfl (And.intro rfl True.intro)))) ?_
  refine x_aload_n rfl d_X6_walk_0 ?_
  refine x_iconst (v := nI 0) (by decide) d_X6_walk_1 ?_
  refine x_putf co_all d_X6_walk_2 fk_6_18 ft_6_0 (o6_o H) (Nat.le_of_ble_eq_true rfl) rfl rfl (o6_B H) ?_
  have H1_6 := o6_put0 (0) H
  have f_2 := o6_g0 (0) H ((nFr.rf (S := nIv wa 3) (h := h))) (by exact ⟨by omega, by omega⟩)
  refine x_aload_n rfl d_X6_walk_5 ?_
  refine x_iconst (v := nI 0) (by decide) d_X6_walk_6 ?_
  refine x_putf co_all d_X6_walk_7 fk_6_26 ft_6_3 (o6_o H1_6) (Nat.le_of_ble_eq_true rfl) rfl rfl (o6_B H1_6) ?_
  have H3_6 := o6_put3 (0) H1_6
  have f_4 := o6_g3 (0) H1_6 (f_2) (by exact ⟨by omega, by omega⟩)
  refine x_aload_n rfl d_X6_walk_10 ?_
  refine x_iload_n rfl d_X6_walk_11 ?_
  refine x_wvV d_X6_walk_12 lk_6_29 mo_X6_goTo vi_X6_goTo (sp_goTo H3_6 (by show 0 ≤ 1440; omega) (x := b0)) (o6_o H3_6) ⟨_, rfl, rfl⟩ rfl ⟨Nat.le_of_ble_eq_true rfl, Nat.le_of_ble_eq_true rfl⟩ (Nat.zero_le _) (Nat.zero_le _) (Nat.le_of_ble_eq_true rfl) rfl (fun h3 hp e3 e4 => ?_)
  obtain ⟨F3, H3⟩ := hp
  rw [← hW0] at H3
  have F4 := f_4.tr F3
  have Wp3 : pW h3 a P (Rs 0) := pW_fr Wp F4 (ap_fr (S := fun _ => True) (ap_sy hwa)) (fun r hr => ap_fr (S := fun _ => True) (ap_sy (hwr r hr)))
  refine x_iconst (v := nI 0) (by decide) d_X6_walk_15 ?_
  refine x_istore_n d_X6_walk_16 (Nat.le_of_ble_eq_true rfl) ?_
  exact nG.sub (by exact (And.intro rfl (And.intro rfl (And.intro rfl (And.intro rfl True.intro))))) (lp_walk hm hst hend hwa hwr m 0 h3 (by omega) (F4.mono (fun q z => Or.inl z)) Wp3 H3)
