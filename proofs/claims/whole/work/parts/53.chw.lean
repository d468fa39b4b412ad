/-! the model: kind, side, needle, pull, hang, parts, part -/
theorem md_kindP {h : nPH} {b : Nat} {M V : Nat → Nat → Nat} {P : Nat → Nat → Nat → Nat} {R : Nat → Nat → Nat → Nat → Nat} {E Y T S : Nat → Nat → Nat} (H : o8 h b M) (W : rW M V P R E Y T S) (O : kO V P R) {p : Int32} (hp : ¬ nIn p (V 1 0)) {k z : Int32} : nRd YX8_kind [.ref (b), .int (p), .int (k), .int (z)] h (.int (nI 0)) := by
  refine nSp_of (by decide +kernel) rfl (Nat.le_of_ble_eq_true rfl) (ls := [some (.ref (b)), some (.int (p)), some (.int (k)), some (.int (z))]) (by exact (And.intro rfl (And.intro rfl (And.intro rfl (And.intro rfl True.intro))))) ?_
  refine x_aload_n rfl d_X8_kind_0 ?_
  refine x_iload_n rfl d_X8_kind_1 ?_
  refine x_rdV d_X8_kind_2 lk_8_91 mo_X8_isPanel vi_X8_isPanel (sp_isPanelN H (rW_n W O) (rW_x W hp)) (o8_o H) ⟨_, rfl, rfl⟩ rfl ⟨Nat.le_of_ble_eq_true rfl, Nat.le_of_ble_eq_true rfl⟩ rfl rfl (Nat.zero_le _) (Nat.zero_le _) (Nat.le_of_ble_eq_true rfl) rfl ?_
  refine x_if_eqN (tgt := 43) d_X8_kind_5 (by decide) (by omega) (fun c_1 => ?_) (fun c_1 => by exfalso; omega)
  refine x_iconst (v := nI 0) (by decide) d_X8_kind_43 ?_
  exact x_ireturn d_X8_kind_44 rfl (by first | rfl | exact nB_nar _ | exact nB_nar1 (by omega)) rfl rfl (Nat.zero_le _) (Nat.zero_le _) (⟨rfl, rfl⟩)
theorem md_kindK {h : nPH} {b : Nat} {M V : Nat → Nat → Nat} {P : Nat → Nat → Nat → Nat} {R : Nat → Nat → Nat → Nat → Nat} {E Y T S : Nat → Nat → Nat} (H : o8 h b M) (W : rW M V P R E Y T S) (O : kO V P R) {p : Nat} (hp : p < V 1 0) {k z : Int32} (hk : ¬ nIn k (R p (P p 5 0 - 1) 0 0)) : nRd YX8_kind [.ref (b), .int (nI (p)), .int (k), .int (z)] h (.int (nI 0)) := by
  obtain ⟨p1, p2, p3, p4, p5, p6, p7, p8⟩ := rW_p W O hp
  obtain ⟨r, hre⟩ : ∃ r, r = P p 5 0 - 1 := ⟨_, rfl⟩
  rw [← hre] at hk
  have hr : r < P p 5 0 := by omega
  obtain ⟨r1, r2, r3, r4, r5, r6⟩ := rW_r W O hp hr
  refine nSp_of (by decide +kernel) rfl (Nat.le_of_ble_eq_true rfl) (ls := [some (.ref (b)), some (.int (nI (p))), some (.int (k)), some (.int (z))]) (by exact (And.intro rfl (And.intro rfl (And.intro rfl (And.intro rfl True.intro))))) ?_
  refine x_aload_n rfl d_X8_kind_0 ?_
  refine x_iload_n rfl d_X8_kind_1 ?_
  refine x_rdV d_X8_kind_2 lk_8_91 mo_X8_isPanel vi_X8_isPanel (sp_isPanel H p2 p1) (o8_o H) ⟨_, rfl, rfl⟩ rfl ⟨Nat.le_of_ble_eq_true rfl, Nat.le_of_ble_eq_true rfl⟩ rfl rfl (Nat.zero_le _) (Nat.zero_le _) (Nat.le_of_ble_eq_true rfl) rfl ?_
  refine x_if_eqN (tgt := 43) d_X8_kind_5 (by decide) (by omega) (fun c_1 => by exfalso; omega) (fun c_1 => ?_)
  refine x_aload_n rfl d_X8_kind_8 ?_
  refine x_iload_n rfl d_X8_kind_9 ?_
  refine x_aload_n rfl d_X8_kind_10 ?_
  refine x_getf co_all (v := .ref (b + 1)) d_X8_kind_11 fk_8_13 (o8_o H) rfl ?_
  refine x_iload_n rfl d_X8_kind_14 ?_
  refine x_iaload d_X8_kind_15 (o8_2 H) (nIx_nI (j := p) (by omega) (by decide)) ?_
  refine x_iconst (v := nI 1) (by decide) d_X8_kind_16 ?_
  refine x_isubN d_X8_kind_17 (by omega) ?_
  rw [p4, ← hre]
  refine x_iload_n rfl d_X8_kind_18 ?_
  refine x_rdV d_X8_kind_19 lk_8_118 mo_X8_isKnot vi_X8_isKnot (sp_isKnotK H p2 p1 r1 p5 (by rw [r3]; exact hk) (by omega)) (o8_o H) ⟨_, rfl, rfl⟩ rfl ⟨Nat.le_of_ble_eq_true rfl, Nat.le_of_ble_eq_true rfl⟩ rfl rfl (Nat.zero_le _) (Nat.zero_le _) (Nat.le_of_ble_eq_true rfl) rfl ?_
  refine x_if_eqN (tgt := 43) d_X8_kind_22 (by decide) (by omega) (fun c_2 => ?_) (fun c_2 => by exfalso; omega)
  refine x_iconst (v := nI 0) (by decide) d_X8_kind_43 ?_
  exact x_ireturn d_X8_kind_44 rfl (by first | rfl | exact nB_nar _ | exact nB_nar1 (by omega)) rfl rfl (Nat.zero_le _) (Nat.zero_le _) (⟨rfl, rfl⟩)
theorem md_kindZ {h : nPH} {b : Nat} {M V : Nat → Nat → Nat} {P : Nat → Nat → Nat → Nat} {R : Nat → Nat → Nat → Nat → Nat} {E Y T S : Nat → Nat → Nat} (H : o8 h b M) (W : rW M V P R E Y T S) (O : kO V P R) {p : Nat} (hp : p < V 1 0) {k : Nat} (hk : k < R p (P p 5 0 - 1) 0 0) {z : Int32} (hz : ¬ (nI 0 ≤ z ∧ z ≤ nI 2)) : nRd YX8_kind [.ref (b), .int (nI (p)), .int (nI (k)), .int (z)] h (.int (nI 0)) := by
  obtain ⟨p1, p2, p3, p4, p5, p6, p7, p8⟩ := rW_p W O hp
  obtain ⟨r, hre⟩ : ∃ r, r = P p 5 0 - 1 := ⟨_, rfl⟩
  rw [← hre] at hk
  have hr : r < P p 5 0 := by omega
  obtain ⟨r1, r2, r3, r4, r5, r6⟩ := rW_r W O hp hr
  obtain ⟨k1, k2, k3, k4, k5, k6, k7, k8, k9⟩ := rW_k W O hp hr hk
  refine nSp_of (by decide +kernel) rfl (Nat.le_of_ble_eq_true rfl) (ls := [some (.ref (b)), some (.int (nI (p))), some (.int (nI (k))), some (.int (z))]) (by exact (And.intro rfl (And.intro rfl (And.intro rfl (And.intro rfl True.intro))))) ?_
  refine x_aload_n rfl d_X8_kind_0 ?_
  refine x_iload_n rfl d_X8_kind_1 ?_
  refine x_rdV d_X8_kind_2 lk_8_91 mo_X8_isPanel vi_X8_isPanel (sp_isPanel H p2 p1) (o8_o H) ⟨_, rfl, rfl⟩ rfl ⟨Nat.le_of_ble_eq_true rfl, Nat.le_of_ble_eq_true rfl⟩ rfl rfl (Nat.zero_le _) (Nat.zero_le _) (Nat.le_of_ble_eq_true rfl) rfl ?_
  refine x_if_eqN (tgt := 43) d_X8_kind_5 (by decide) (by omega) (fun c_1 => by exfalso; omega) (fun c_1 => ?_)
  refine x_aload_n rfl d_X8_kind_8 ?_
  refine x_iload_n rfl d_X8_kind_9 ?_
  refine x_aload_n rfl d_X8_kind_10 ?_
  refine x_getf co_all (v := .ref (b + 1)) d_X8_kind_11 fk_8_13 (o8_o H) rfl ?_
  refine x_iload_n rfl d_X8_kind_14 ?_
  refine x_iaload d_X8_kind_15 (o8_2 H) (nIx_nI (j := p) (by omega) (by decide)) ?_
  refine x_iconst (v := nI 1) (by decide) d_X8_kind_16 ?_
  refine x_isubN d_X8_kind_17 (by omega) ?_
  rw [p4, ← hre]
  refine x_iload_n rfl d_X8_kind_18 ?_
  refine x_rdV d_X8_kind_19 lk_8_118 mo_X8_isKnot vi_X8_isKnot (sp_isKnot H p2 p1 r1 p5 k1 (by omega)) (o8_o H) ⟨_, rfl, rfl⟩ rfl ⟨Nat.le_of_ble_eq_true rfl, Nat.le_of_ble_eq_true rfl⟩ rfl rfl (Nat.zero_le _) (Nat.zero_le _) (Nat.le_of_ble_eq_true rfl) rfl ?_
  refine x_if_eqN (tgt := 43) d_X8_kind_22 (by decide) (by omega) (fun c_2 => by exfalso; omega) (fun c_2 => ?_)
  refine x_iload_n rfl d_X8_kind_25 ?_
  refine x_if_lt (tgt := 43) d_X8_kind_26 (by decide) (fun c_2 => ?_) (fun c_2 => ?_)
  · refine x_iconst (v := nI 0) (by decide) d_X8_kind_43 ?_
    exact x_ireturn d_X8_kind_44 rfl (by first | rfl | exact nB_nar _ | exact nB_nar1 (by omega)) rfl rfl (Nat.zero_le _) (Nat.zero_le _) (⟨rfl, rfl⟩)
  · refine x_iload_n rfl d_X8_kind_29 ?_
    refine x_iconst (v := nI 2) (by decide) d_X8_kind_30 ?_
    refine x_icmp_gt (tgt := 43) d_X8_kind_31 (by decide) (fun c_3 => ?_) (fun c_3 => by exfalso; exact hz ⟨Int32.not_lt.mp c_2, Int32.not_lt.mp c_3⟩)
    refine x_iconst (v := nI 0) (by decide) d_X8_kind_43 ?_
    exact x_ireturn d_X8_kind_44 rfl (by first | rfl | exact nB_nar _ | exact nB_nar1 (by omega)) rfl rfl (Nat.zero_le _) (Nat.zero_le _) (⟨rfl, rfl⟩)
theorem md_kind0 {h : nPH} {b : Nat} {M V : Nat → Nat → Nat} {P : Nat → Nat → Nat → Nat} {R : Nat → Nat → Nat → Nat → Nat} {E Y T S : Nat → Nat → Nat} (H : o8 h b M) (W : rW M V P R E Y T S) (O : kO V P R) {p : Nat} (hp : p < V 1 0) (hk : 0 < R p (P p 5 0 - 1) 0 0) : nRd YX8_kind [.ref (b), .int (nI (p)), .int (nI (0)), .int (nI (2))] h (.int (nI 0)) := by
  obtain ⟨p1, p2, p3, p4, p5, p6, p7, p8⟩ := rW_p W O hp
  obtain ⟨r, hre⟩ : ∃ r, r = P p 5 0 - 1 := ⟨_, rfl⟩
  rw [← hre] at hk
  have hr : r < P p 5 0 := by omega
  obtain ⟨r1, r2, r3, r4, r5, r6⟩ := rW_r W O hp hr
  obtain ⟨k1, k2, k3, k4, k5, k6, k7, k8, k9⟩ := rW_k W O hp hr hk
  refine nSp_of (by decide +kernel) rfl (Nat.le_of_ble_eq_true rfl) (ls := [some (.ref (b)), some (.int (nI (p))), some (.int (nI (0))), some (.int (nI (2)))]) (by exact (And.intro rfl (And.intro rfl (And.intro rfl (And.intro rfl True.intro))))) ?_
  refine x_aload_n rfl d_X8_kind_0 ?_
  refine x_iload_n rfl d_X8_kind_1 ?_
  refine x_rdV d_X8_kind_2 lk_8_91 mo_X8_isPanel vi_X8_isPanel (sp_isPanel H p2 p1) (o8_o H) ⟨_, rfl, rfl⟩ rfl ⟨Nat.le_of_ble_eq_true rfl, Nat.le_of_ble_eq_true rfl⟩ rfl rfl (Nat.zero_le _) (Nat.zero_le _) (Nat.le_of_ble_eq_true rfl) rfl ?_
  refine x_if_eqN (tgt := 43) d_X8_kind_5 (by decide) (by omega) (fun c_1 => by exfalso; omega) (fun c_1 => ?_)
  refine x_aload_n rfl d_X8_kind_8 ?_
  refine x_iload_n rfl d_X8_kind_9 ?_
  refine x_aload_n rfl d_X8_kind_10 ?_
  refine x_getf co_all (v := .ref (b + 1)) d_X8_kind_11 fk_8_13 (o8_o H) rfl ?_
  refine x_iload_n rfl d_X8_kind_14 ?_
  refine x_iaload d_X8_kind_15 (o8_2 H) (nIx_nI (j := p) (by omega) (by decide)) ?_
  refine x_iconst (v := nI 1) (by decide) d_X8_kind_16 ?_
  refine x_isubN d_X8_kind_17 (by omega) ?_
  rw [p4, ← hre]
  refine x_iload_n rfl d_X8_kind_18 ?_
  refine x_rdV d_X8_kind_19 lk_8_118 mo_X8_isKnot vi_X8_isKnot (sp_isKnot H p2 p1 r1 p5 k1 (by omega)) (o8_o H) ⟨_, rfl, rfl⟩ rfl ⟨Nat.le_of_ble_eq_true rfl, Nat.le_of_ble_eq_true rfl⟩ rfl rfl (Nat.zero_le _) (Nat.zero_le _) (Nat.le_of_ble_eq_true rfl) rfl ?_
  refine x_if_eqN (tgt := 43) d_X8_kind_22 (by decide) (by omega) (fun c_2 => by exfalso; omega) (fun c_2 => ?_)
  refine x_iload_n rfl d_X8_kind_25 ?_
  refine x_if_ltN (tgt := 43) d_X8_kind_26 (by decide) (by omega) (fun c_3 => by exfalso; omega) (fun c_3 => ?_)
  refine x_iload_n rfl d_X8_kind_29 ?_
  refine x_iconst (v := nI 2) (by decide) d_X8_kind_30 ?_
  refine x_icmp_gtN (tgt := 43) d_X8_kind_31 (by decide) (by omega) (by omega) (fun c_4 => by exfalso; omega) (fun c_4 => ?_)
  refine x_iload_n rfl d_X8_kind_34 ?_
  refine x_iconst (v := nI 2) (by decide) d_X8_kind_35 ?_
  refine x_icmp_neN (tgt := 45) d_X8_kind_36 (by decide) (by omega) (by omega) (fun c_5 => by exfalso; omega) (fun c_5 => ?_)
  refine x_iload_n rfl d_X8_kind_39 ?_
  refine x_if_neN (tgt := 45) d_X8_kind_40 (by decide) (by omega) (fun c_6 => by exfalso; omega) (fun c_6 => ?_)
  refine x_iconst (v := nI 0) (by decide) d_X8_kind_43 ?_
  exact x_ireturn d_X8_kind_44 rfl (by first | rfl | exact nB_nar _ | exact nB_nar1 (by omega)) rfl rfl (Nat.zero_le _) (Nat.zero_le _) (⟨rfl, rfl⟩)
theorem md_kind {h : nPH} {b : Nat} {M V : Nat → Nat → Nat} {P : Nat → Nat → Nat → Nat} {R : Nat → Nat → Nat → Nat → Nat} {E Y T S : Nat → Nat → Nat} (H : o8 h b M) (W : rW M V P R E Y T S) (O : kO V P R) {p : Nat} (hp : p < V 1 0) {k : Nat} (hk : k < R p (P p 5 0 - 1) 0 0) {z : Nat} (hz : z ≤ 2) (hk0 : ¬ (z = 2 ∧ k = 0)) : nWv YX8_kind [.ref (b), .int (nI (p)), .int (nI (k)), .int (nI (z))] h (some (.int (nI 1))) (fun h2 => nFr (nIv b 24) h h2 ∧ ∃ M2, o8 h2 b M2 ∧ rW M2 V P (uP R p (uR (R p) (P p 5 0 - 1) (u2 (u2 (R p (P p 5 0 - 1)) 1 k z) 2 k (gvo z)))) E Y T S) := by
  obtain ⟨p1, p2, p3, p4, p5, p6, p7, p8⟩ := rW_p W O hp
  obtain ⟨r, hre⟩ : ∃ r, r = P p 5 0 - 1 := ⟨_, rfl⟩
  rw [← hre] at hk ⊢
  have hr : r < P p 5 0 := by omega
  obtain ⟨r1, r2, r3, r4, r5, r6⟩ := rW_r W O hp hr
  obtain ⟨k1, k2, k3, k4, k5, k6, k7, k8, k9⟩ := rW_k W O hp hr hk
  have W1 := rW_f W hp hr hk (f := 1) (v := z) (Or.inl rfl) (fun e => absurd e (by decide)) (fun e => absurd e (by decide))
  have W2 := rW_f W1 hp hr (k := k) (by rw [uP_eq, uR_eq, u2_ne (by omega)]; exact hk) (f := 2) (v := gvo z) (Or.inr (Or.inl rfl)) (fun _ => gvo_le z) (fun e => absurd e (by decide))
  rw [uP_eq, uR_eq, uuP, uuR] at W2
  refine nSp_of (by decide +kernel) rfl (Nat.le_of_ble_eq_true rfl) (ls := [some (.ref (b)), some (.int (nI (p))), some (.int (nI (k))), some (.int (nI (z)))]) (by exact (And.intro rfl (And.intro rfl (And.intro rfl (And.intro rfl True.intro))))) ?_
  refine x_aload_n rfl d_X8_kind_0 ?_
  refine x_iload_n rfl d_X8_kind_1 ?_
  refine x_rdV d_X8_kind_2 lk_8_91 mo_X8_isPanel vi_X8_isPanel (sp_isPanel H p2 p1) (o8_o H) ⟨_, rfl, rfl⟩ rfl ⟨Nat.le_of_ble_eq_true rfl, Nat.le_of_ble_eq_true rfl⟩ rfl rfl (Nat.zero_le _) (Nat.zero_le _) (Nat.le_of_ble_eq_true rfl) rfl ?_
  refine x_if_eqN (tgt := 43) d_X8_kind_5 (by decide) (by omega) (fun c_1 => by exfalso; omega) (fun c_1 => ?_)
  refine x_aload_n rfl d_X8_kind_8 ?_
  refine x_iload_n rfl d_X8_kind_9 ?_
  refine x_aload_n rfl d_X8_kind_10 ?_
  refine x_getf co_all (v := .ref (b + 1)) d_X8_kind_11 fk_8_13 (o8_o H) rfl ?_
  refine x_iload_n rfl d_X8_kind_14 ?_
  refine x_iaload d_X8_kind_15 (o8_2 H) (nIx_nI (j := p) (by omega) (by decide)) ?_
  refine x_iconst (v := nI 1) (by decide) d_X8_kind_16 ?_
  refine x_isubN d_X8_kind_17 (by omega) ?_
  rw [p4, ← hre]
  refine x_iload_n rfl d_X8_kind_18 ?_
  refine x_rdV d_X8_kind_19 lk_8_118 mo_X8_isKnot vi_X8_isKnot (sp_isKnot H p2 p1 r1 p5 k1 (by omega)) (o8_o H) ⟨_, rfl, rfl⟩ rfl ⟨Nat.le_of_ble_eq_true rfl, Nat.le_of_ble_eq_true rfl⟩ rfl rfl (Nat.zero_le _) (Nat.zero_le _) (Nat.le_of_ble_eq_true rfl) rfl ?_
  refine x_if_eqN (tgt := 43) d_X8_kind_22 (by decide) (by omega) (fun c_2 => by exfalso; omega) (fun c_2 => ?_)
  refine x_iload_n rfl d_X8_kind_25 ?_
  refine x_if_ltN (tgt := 43) d_X8_kind_26 (by decide) (by omega) (fun c_3 => by exfalso; omega) (fun c_3 => ?_)
  refine x_iload_n rfl d_X8_kind_29 ?_
  refine x_iconst (v := nI 2) (by decide) d_X8_kind_30 ?_
  refine x_icmp_gtN (tgt := 43) d_X8_kind_31 (by decide) (by omega) (by omega) (fun c_4 => by exfalso; omega) (fun c_4 => ?_)
  refine x_iload_n rfl d_X8_kind_34 ?_
  refine x_iconst (v := nI 2) (by decide) d_X8_kind_35 ?_
  refine x_icmp_neN (tgt := 45) d_X8_kind_36 (by decide) (by omega) (by omega) (fun c_5 => ?_) (fun c_5 => ?_)
  · refine x_aload_n rfl d_X8_kind_45 ?_
    refine x_iload_n rfl d_X8_kind_46 ?_
    refine x_aload_n rfl d_X8_kind_47 ?_
    refine x_getf co_all (v := .ref (b + 1)) d_X8_kind_48 fk_8_13 (o8_o H) rfl ?_
    refine x_iload_n rfl d_X8_kind_51 ?_
    refine x_iaload d_X8_kind_52 (o8_2 H) (nIx_nI (j := p) (by omega) (by decide)) ?_
    refine x_iconst (v := nI 1) (by decide) d_X8_kind_53 ?_
    refine x_isubN d_X8_kind_54 (by omega) ?_
    rw [p4, ← hre]
    refine x_iload_n rfl d_X8_kind_55 ?_
    refine x_rdS d_X8_kind_56 lk_8_99 mo_X8_at sc_X8_at (sp_at) rfl ⟨Nat.le_of_ble_eq_true rfl, Nat.le_of_ble_eq_true rfl⟩ rfl rfl (Nat.zero_le _) (Nat.zero_le _) (Nat.le_of_ble_eq_true rfl) rfl ?_
    refine x_iload_n rfl d_X8_kind_59 ?_
    refine x_wvV d_X8_kind_60 lk_8_122 mo_X8_becomes vi_X8_becomes (sp_becomes H (x := 24 * (20 * p + r) + k) (z := z) (by omega) hz) (o8_o H) ⟨_, rfl, rfl⟩ rfl ⟨Nat.le_of_ble_eq_true rfl, Nat.le_of_ble_eq_true rfl⟩ (Nat.zero_le _) (Nat.zero_le _) (Nat.le_of_ble_eq_true rfl) rfl (fun h3 hq_ e3a e3b => ?_)
    obtain ⟨G3, H3⟩ := hq_
    have F3 := ((nFr.rf (S := nIv b 24) (h := h))).tr G3
    refine x_iconst (v := nI 1) (by decide) d_X8_kind_63 ?_
    exact x_ireturn d_X8_kind_64 rfl (by first | rfl | exact nB_nar _ | exact nB_nar1 (by omega)) (F3).1 (F3).2.1 (Nat.zero_le _) (Nat.zero_le _) (⟨rfl, F3, _, H3, W2⟩)
  · refine x_iload_n rfl d_X8_kind_39 ?_
    refine x_if_neN (tgt := 45) d_X8_kind_40 (by decide) (by omega) (fun c_5 => ?_) (fun c_5 => by exfalso; omega)
    refine x_aload_n rfl d_X8_kind_45 ?_
    refine x_iload_n rfl d_X8_kind_46 ?_
    refine x_aload_n rfl d_X8_kind_47 ?_
    refine x_getf co_all (v := .ref (b + 1)) d_X8_kind_48 fk_8_13 (o8_o H) rfl ?_
    refine x_iload_n rfl d_X8_kind_51 ?_
    refine x_iaload d_X8_kind_52 (o8_2 H) (nIx_nI (j := p) (by omega) (by decide)) ?_
    refine x_iconst (v := nI 1) (by decide) d_X8_kind_53 ?_
    refine x_isubN d_X8_kind_54 (by omega) ?_
    rw [p4, ← hre]
    refine x_iload_n rfl d_X8_kind_55 ?_
    refine x_rdS d_X8_kind_56 lk_8_99 mo_X8_at sc_X8_at (sp_at) rfl ⟨Nat.le_of_ble_eq_true rfl, Nat.le_of_ble_eq_true rfl⟩ rfl rfl (Nat.zero_le _) (Nat.zero_le _) (Nat.le_of_ble_eq_true rfl) rfl ?_
    refine x_iload_n rfl d_X8_kind_59 ?_
    refine x_wvV d_X8_kind_60 lk_8_122 mo_X8_becomes vi_X8_becomes (sp_becomes H (x := 24 * (20 * p + r) + k) (z := z) (by omega) hz) (o8_o H) ⟨_, rfl, rfl⟩ rfl ⟨Nat.le_of_ble_eq_true rfl, Nat.le_of_ble_eq_true rfl⟩ (Nat.zero_le _) (Nat.zero_le _) (Nat.le_of_ble_eq_true rfl) rfl (fun h3 hq_ e3a e3b => ?_)
    obtain ⟨G3, H3⟩ := hq_
    have F3 := ((nFr.rf (S := nIv b 24) (h := h))).tr G3
    refine x_iconst (v := nI 1) (by decide) d_X8_kind_63 ?_
    exact x_ireturn d_X8_kind_64 rfl (by first | rfl | exact nB_nar _ | exact nB_nar1 (by omega)) (F3).1 (F3).2.1 (Nat.zero_le _) (Nat.zero_le _) (⟨rfl, F3, _, H3, W2⟩)
theorem md_sideP {h : nPH} {b : Nat} {M V : Nat → Nat → Nat} {P : Nat → Nat → Nat → Nat} {R : Nat → Nat → Nat → Nat → Nat} {E Y T S : Nat → Nat → Nat} (H : o8 h b M) (W : rW M V P R E Y T S) (O : kO V P R) {p : Int32} (hp : ¬ nIn p (V 1 0)) {r k s o : Int32} : nRd YX8_side [.ref (b), .int (p), .int (r), .int (k), .int (s), .int (o)] h (.int (nI 0)) := by
  refine nSp_of (by decide +kernel) rfl (Nat.le_of_ble_eq_true rfl) (ls := [some (.ref (b)), some (.int (p)), some (.int (r)), some (.int (k)), some (.int (s)), some (.int (o)), none]) (by exact (And.intro rfl (And.intro rfl (And.intro rfl (And.intro rfl (And.intro rfl (And.intro rfl True.intro))))))) ?_
  refine x_aload_n rfl d_X8_side_0 ?_
  refine x_iload_n rfl d_X8_side_1 ?_
  refine x_iload_n rfl d_X8_side_2 ?_
  refine x_iload_n rfl d_X8_side_3 ?_
  refine x_rdV d_X8_side_4 lk_8_118 mo_X8_isKnot vi_X8_isKnot (sp_isKnotP H (rW_n W O) (rW_x W hp)) (o8_o H) ⟨_, rfl, rfl⟩ rfl ⟨Nat.le_of_ble_eq_true rfl, Nat.le_of_ble_eq_true rfl⟩ rfl rfl (Nat.zero_le _) (Nat.zero_le _) (Nat.le_of_ble_eq_true rfl) rfl ?_
  refine x_if_eqN (tgt := 31) d_X8_side_7 (by decide) (by omega) (fun c_1 => ?_) (fun c_1 => by exfalso; omega)
  refine x_iconst (v := nI 0) (by decide) d_X8_side_31 ?_
  exact x_ireturn d_X8_side_32 rfl (by first | rfl | exact nB_nar _ | exact nB_nar1 (by omega)) rfl rfl (Nat.zero_le _) (Nat.zero_le _) (⟨rfl, rfl⟩)
theorem md_sideO {h : nPH} {b : Nat} {M V : Nat → Nat → Nat} {P : Nat → Nat → Nat → Nat} {R : Nat → Nat → Nat → Nat → Nat} {E Y T S : Nat → Nat → Nat} (H : o8 h b M) (W : rW M V P R E Y T S) (O : kO V P R) {p : Nat} (hp : p < V 1 0) {r k : Int32} (hO : rOff (P p 5 0) (R p) r k) {s o : Int32} : nRd YX8_side [.ref (b), .int (nI (p)), .int (r), .int (k), .int (s), .int (o)] h (.int (nI 0)) := by
  obtain ⟨p1, p2, p3, p4, p5, p6, p7, p8⟩ := rW_p W O hp
  refine nSp_of (by decide +kernel) rfl (Nat.le_of_ble_eq_true rfl) (ls := [some (.ref (b)), some (.int (nI (p))), some (.int (r)), some (.int (k)), some (.int (s)), some (.int (o)), none]) (by exact (And.intro rfl (And.intro rfl (And.intro rfl (And.intro rfl (And.intro rfl (And.intro rfl True.intro))))))) ?_
  refine x_aload_n rfl d_X8_side_0 ?_
  refine x_iload_n rfl d_X8_side_1 ?_
  refine x_iload_n rfl d_X8_side_2 ?_
  refine x_iload_n rfl d_X8_side_3 ?_
  refine x_rdV d_X8_side_4 lk_8_118 mo_X8_isKnot vi_X8_isKnot (sp_isKnotO H W O hp hO) (o8_o H) ⟨_, rfl, rfl⟩ rfl ⟨Nat.le_of_ble_eq_true rfl, Nat.le_of_ble_eq_true rfl⟩ rfl rfl (Nat.zero_le _) (Nat.zero_le _) (Nat.le_of_ble_eq_true rfl) rfl ?_
  refine x_if_eqN (tgt := 31) d_X8_side_7 (by decide) (by omega) (fun c_1 => ?_) (fun c_1 => by exfalso; omega)
  refine x_iconst (v := nI 0) (by decide) d_X8_side_31 ?_
  exact x_ireturn d_X8_side_32 rfl (by first | rfl | exact nB_nar _ | exact nB_nar1 (by omega)) rfl rfl (Nat.zero_le _) (Nat.zero_le _) (⟨rfl, rfl⟩)
theorem md_sideS {h : nPH} {b : Nat} {M V : Nat → Nat → Nat} {P : Nat → Nat → Nat → Nat} {R : Nat → Nat → Nat → Nat → Nat} {E Y T S : Nat → Nat → Nat} (H : o8 h b M) (W : rW M V P R E Y T S) (O : kO V P R) {p : Nat} (hp : p < V 1 0) {r : Nat} (hr : r < P p 5 0) {k : Nat} (hk : k < R p r 0 0) {s o : Int32} (hs : ¬ nIn s (R p r 5 k)) : nRd YX8_side [.ref (b), .int (nI (p)), .int (nI (r)), .int (nI (k)), .int (s), .int (o)] h (.int (nI 0)) := by
  obtain ⟨p1, p2, p3, p4, p5, p6, p7, p8⟩ := rW_p W O hp
  obtain ⟨r1, r2, r3, r4, r5, r6⟩ := rW_r W O hp hr
  obtain ⟨k1, k2, k3, k4, k5, k6, k7, k8, k9⟩ := rW_k W O hp hr hk
  have ks := r5.2 k k2
  refine nSp_of (by decide +kernel) rfl (Nat.le_of_ble_eq_true rfl) (ls := [some (.ref (b)), some (.int (nI (p))), some (.int (nI (r))), some (.int (nI (k))), some (.int (s)), some (.int (o)), none]) (by exact (And.intro rfl (And.intro rfl (And.intro rfl (And.intro rfl (And.intro rfl (And.intro rfl True.intro))))))) ?_
  refine x_aload_n rfl d_X8_side_0 ?_
  refine x_iload_n rfl d_X8_side_1 ?_
  refine x_iload_n rfl d_X8_side_2 ?_
  refine x_iload_n rfl d_X8_side_3 ?_
  refine x_rdV d_X8_side_4 lk_8_118 mo_X8_isKnot vi_X8_isKnot (sp_isKnot H p2 p1 r1 p5 k1 (by omega)) (o8_o H) ⟨_, rfl, rfl⟩ rfl ⟨Nat.le_of_ble_eq_true rfl, Nat.le_of_ble_eq_true rfl⟩ rfl rfl (Nat.zero_le _) (Nat.zero_le _) (Nat.le_of_ble_eq_true rfl) rfl ?_
  refine x_if_eqN (tgt := 31) d_X8_side_7 (by decide) (by omega) (fun c_1 => by exfalso; omega) (fun c_1 => ?_)
  refine x_iload rfl d_X8_side_10 ?_
  refine x_if_lt (tgt := 31) d_X8_side_12 (by decide) (fun c_2 => ?_) (fun c_2 => ?_)
  · refine x_iconst (v := nI 0) (by decide) d_X8_side_31 ?_
    exact x_ireturn d_X8_side_32 rfl (by first | rfl | exact nB_nar _ | exact nB_nar1 (by omega)) rfl rfl (Nat.zero_le _) (Nat.zero_le _) (⟨rfl, rfl⟩)
  · refine x_iload rfl d_X8_side_15 ?_
    refine x_aload_n rfl d_X8_side_17 ?_
    refine x_getf co_all (v := .ref (b + 12)) d_X8_side_18 fk_8_48 (o8_o H) rfl ?_
    refine x_iload_n rfl d_X8_side_21 ?_
    refine x_iload_n rfl d_X8_side_22 ?_
    refine x_iload_n rfl d_X8_side_23 ?_
    refine x_rdS d_X8_side_24 lk_8_99 mo_X8_at sc_X8_at (sp_at) rfl ⟨Nat.le_of_ble_eq_true rfl, Nat.le_of_ble_eq_true rfl⟩ rfl rfl (Nat.zero_le _) (Nat.zero_le _) (Nat.le_of_ble_eq_true rfl) rfl ?_
    refine x_iaload d_X8_side_27 (o8_13 H) (nIx_nI (j := 24 * (20 * p + r) + k) (by omega) (by decide)) ?_
    refine x_icmp_lt (tgt := 33) d_X8_side_28 (by decide) (fun c_3 => by exfalso; exact hs (nIn_ge c_2 (by rw [k6]; exact c_3) (by omega))) (fun c_3 => ?_)
    refine x_iconst (v := nI 0) (by decide) d_X8_side_31 ?_
    exact x_ireturn d_X8_side_32 rfl (by first | rfl | exact nB_nar _ | exact nB_nar1 (by omega)) rfl rfl (Nat.zero_le _) (Nat.zero_le _) (⟨rfl, rfl⟩)
theorem md_side {h : nPH} {b : Nat} {M V : Nat → Nat → Nat} {P : Nat → Nat → Nat → Nat} {R : Nat → Nat → Nat → Nat → Nat} {E Y T S : Nat → Nat → Nat} (H : o8 h b M) (W : rW M V P R E Y T S) (O : kO V P R) {p : Nat} (hp : p < V 1 0) {r : Nat} (hr : r < P p 5 0) {k : Nat} (hk : k < R p r 0 0) {s o : Nat} (hs : s < R p r 5 k) (ho : o ≤ 1) : nWv YX8_side [.ref (b), .int (nI (p)), .int (nI (r)), .int (nI (k)), .int (nI (s)), .int (nI (o))] h (some (.int (nI 1))) (fun h2 => nFr (nIv b 24) h h2 ∧ ∃ M2, o8 h2 b M2 ∧ rW M2 V P (uP R p (uR (R p) r (u2 (R p r) 6 k (ssd o (R p r 6 k) s)))) E Y T S) := by
  obtain ⟨p1, p2, p3, p4, p5, p6, p7, p8⟩ := rW_p W O hp
  obtain ⟨r1, r2, r3, r4, r5, r6⟩ := rW_r W O hp hr
  obtain ⟨k1, k2, k3, k4, k5, k6, k7, k8, k9⟩ := rW_k W O hp hr hk
  have ks := r5.2 k k2
  have kb := ((p8.2 r r1).2 k k2).2.2.1
  refine nSp_of (by decide +kernel) rfl (Nat.le_of_ble_eq_true rfl) (ls := [some (.ref (b)), some (.int (nI (p))), some (.int (nI (r))), some (.int (nI (k))), some (.int (nI (s))), some (.int (nI (o))), none]) (by exact (And.intro rfl (And.intro rfl (And.intro rfl (And.intro rfl (And.intro rfl (And.intro rfl True.intro))))))) ?_
  refine x_aload_n rfl d_X8_side_0 ?_
  refine x_iload_n rfl d_X8_side_1 ?_
  refine x_iload_n rfl d_X8_side_2 ?_
  refine x_iload_n rfl d_X8_side_3 ?_
  refine x_rdV d_X8_side_4 lk_8_118 mo_X8_isKnot vi_X8_isKnot (sp_isKnot H p2 p1 r1 p5 k1 (by omega)) (o8_o H) ⟨_, rfl, rfl⟩ rfl ⟨Nat.le_of_ble_eq_true rfl, Nat.le_of_ble_eq_true rfl⟩ rfl rfl (Nat.zero_le _) (Nat.zero_le _) (Nat.le_of_ble_eq_true rfl) rfl ?_
  refine x_if_eqN (tgt := 31) d_X8_side_7 (by decide) (by omega) (fun c_1 => by exfalso; omega) (fun c_1 => ?_)
  refine x_iload rfl d_X8_side_10 ?_
  refine x_if_ltN (tgt := 31) d_X8_side_12 (by decide) (by omega) (fun c_2 => by exfalso; omega) (fun c_2 => ?_)
  refine x_iload rfl d_X8_side_15 ?_
  refine x_aload_n rfl d_X8_side_17 ?_
  refine x_getf co_all (v := .ref (b + 12)) d_X8_side_18 fk_8_48 (o8_o H) rfl ?_
  refine x_iload_n rfl d_X8_side_21 ?_
  refine x_iload_n rfl d_X8_side_22 ?_
  refine x_iload_n rfl d_X8_side_23 ?_
  refine x_rdS d_X8_side_24 lk_8_99 mo_X8_at sc_X8_at (sp_at) rfl ⟨Nat.le_of_ble_eq_true rfl, Nat.le_of_ble_eq_true rfl⟩ rfl rfl (Nat.zero_le _) (Nat.zero_le _) (Nat.le_of_ble_eq_true rfl) rfl ?_
  refine x_iaload d_X8_side_27 (o8_13 H) (nIx_nI (j := 24 * (20 * p + r) + k) (by omega) (by decide)) ?_
  refine x_icmp_ltN (tgt := 33) d_X8_side_28 (by decide) (by omega) (by omega) (fun c_3 => ?_) (fun c_3 => by exfalso; omega)
  refine x_iload_n rfl d_X8_side_33 ?_
  refine x_iload_n rfl d_X8_side_34 ?_
  refine x_iload_n rfl d_X8_side_35 ?_
  refine x_rdS d_X8_side_36 lk_8_99 mo_X8_at sc_X8_at (sp_at) rfl ⟨Nat.le_of_ble_eq_true rfl, Nat.le_of_ble_eq_true rfl⟩ rfl rfl (Nat.zero_le _) (Nat.zero_le _) (Nat.le_of_ble_eq_true rfl) rfl ?_
  refine x_istore d_X8_side_39 (Nat.le_of_ble_eq_true rfl) ?_
  refine x_aload_n rfl d_X8_side_41 ?_
  refine x_getf co_all (v := .ref (b + 13)) d_X8_side_42 fk_8_51 (o8_o H) rfl ?_
  refine x_iload rfl d_X8_side_45 ?_
  refine x_iload rfl d_X8_side_47 ?_
  refine x_if_eqN (tgt := 69) d_X8_side_49 (by decide) (by omega) (fun c_o => ?_) (fun c_o => ?_)
  · refine x_aload_n rfl d_X8_side_69 ?_
    refine x_getf co_all (v := .ref (b + 13)) d_X8_side_70 fk_8_51 (o8_o H) rfl ?_
    refine x_iload rfl d_X8_side_73 ?_
    refine x_iaload d_X8_side_75 (o8_14 H) (nIx_nI (j := 24 * (20 * p + r) + k) (by omega) (by decide)) ?_
    refine x_iconst (v := nI 1) (by decide) d_X8_side_76 ?_
    refine x_iload rfl d_X8_side_77 ?_
    refine x_ishl d_X8_side_79 ?_
    rw [nI_shl1 (by omega)]
    refine x_ior d_X8_side_80 ?_
    rw [nI_set]
    refine x_iastore d_X8_side_81 (o8_14 H) (nIx_nI (j := 24 * (20 * p + r) + k) (by omega) (by decide)) (Nat.le_trans (o8_B H) (Nat.le_add_right _ _)) ?_
    have H5_8 := o8_ast14 (24 * (20 * p + r) + k) (sset (M 14 (24 * (20 * p + r) + k)) s) H
    have f_6 := o8_f14 (24 * (20 * p + r) + k) (sset (M 14 (24 * (20 * p + r) + k)) s) H ((nFr.rf (S := nIv b 24) (h := h))) (by exact ⟨by omega, by omega⟩)
    refine x_iconst (v := nI 1) (by decide) d_X8_side_82 ?_
    exact x_ireturn d_X8_side_83 rfl (by first | rfl | exact nB_nar _ | exact nB_nar1 (by omega)) (f_6).1 (f_6).2.1 (Nat.zero_le _) (Nat.zero_le _) (⟨rfl, f_6, _, H5_8, by rw [show ssd o (R p r 6 k) s = sset (M 14 (24 * (20 * p + r) + k)) s by unfold ssd; rw [if_pos c_o, k7]]; exact rW_f W hp hr hk (f := 6) (Or.inr (Or.inr (Or.inr rfl))) (fun e => absurd e (by decide)) (fun _ => sset_lt kb (by omega))⟩)
  · refine x_aload_n rfl d_X8_side_52 ?_
    refine x_getf co_all (v := .ref (b + 13)) d_X8_side_53 fk_8_51 (o8_o H) rfl ?_
    refine x_iload rfl d_X8_side_56 ?_
    refine x_iaload d_X8_side_58 (o8_14 H) (nIx_nI (j := 24 * (20 * p + r) + k) (by omega) (by decide)) ?_
    refine x_iconst (v := nI 1) (by decide) d_X8_side_59 ?_
    refine x_iload rfl d_X8_side_60 ?_
    refine x_ishl d_X8_side_62 ?_
    rw [nI_shl1 (by omega)]
    refine x_iconst (v := -1) (by decide) d_X8_side_63 ?_
    refine x_ixor d_X8_side_64 ?_
    refine x_iand d_X8_side_65 ?_
    rw [nI_clr (by omega)]
    refine x_goto (tgt := 81) d_X8_side_66 (by decide) ?_
    refine x_iastore d_X8_side_81 (o8_14 H) (nIx_nI (j := 24 * (20 * p + r) + k) (by omega) (by decide)) (Nat.le_trans (o8_B H) (Nat.le_add_right _ _)) ?_
    have H7_8 := o8_ast14 (24 * (20 * p + r) + k) (sclr (M 14 (24 * (20 * p + r) + k)) s) H
    have f_8 := o8_f14 (24 * (20 * p + r) + k) (sclr (M 14 (24 * (20 * p + r) + k)) s) H ((nFr.rf (S := nIv b 24) (h := h))) (by exact ⟨by omega, by omega⟩)
    refine x_iconst (v := nI 1) (by decide) d_X8_side_82 ?_
    exact x_ireturn d_X8_side_83 rfl (by first | rfl | exact nB_nar _ | exact nB_nar1 (by omega)) (f_8).1 (f_8).2.1 (Nat.zero_le _) (Nat.zero_le _) (⟨rfl, f_8, _, H7_8, by rw [show ssd o (R p r 6 k) s = sclr (M 14 (24 * (20 * p + r) + k)) s by unfold ssd; rw [if_neg c_o, k7]]; exact rW_f W hp hr hk (f := 6) (Or.inr (Or.inr (Or.inr rfl))) (fun e => absurd e (by decide)) (fun _ => sclr_lt kb)⟩)
theorem md_needleP {h : nPH} {b : Nat} {M V : Nat → Nat → Nat} {P : Nat → Nat → Nat → Nat} {R : Nat → Nat → Nat → Nat → Nat} {E Y T S : Nat → Nat → Nat} (H : o8 h b M) (W : rW M V P R E Y T S) (O : kO V P R) {p : Int32} (hp : ¬ nIn p (V 1 0)) {r k o : Int32} : nRd YX8_needle [.ref (b), .int (p), .int (r), .int (k), .int (o)] h (.int (nI 0)) := by
  refine nSp_of (by decide +kernel) rfl (Nat.le_of_ble_eq_true rfl) (ls := [some (.ref (b)), some (.int (p)), some (.int (r)), some (.int (k)), some (.int (o))]) (by exact (And.intro rfl (And.intro rfl (And.intro rfl (And.intro rfl (And.intro rfl True.intro)))))) ?_
  refine x_aload_n rfl d_X8_needle_0 ?_
  refine x_iload_n rfl d_X8_needle_1 ?_
  refine x_iload_n rfl d_X8_needle_2 ?_
  refine x_iload_n rfl d_X8_needle_3 ?_
  refine x_rdV d_X8_needle_4 lk_8_118 mo_X8_isKnot vi_X8_isKnot (sp_isKnotP H (rW_n W O) (rW_x W hp)) (o8_o H) ⟨_, rfl, rfl⟩ rfl ⟨Nat.le_of_ble_eq_true rfl, Nat.le_of_ble_eq_true rfl⟩ rfl rfl (Nat.zero_le _) (Nat.zero_le _) (Nat.le_of_ble_eq_true rfl) rfl ?_
  refine x_if_neN (tgt := 12) d_X8_needle_7 (by decide) (by omega) (fun c_1 => by exfalso; omega) (fun c_1 => ?_)
  refine x_iconst (v := nI 0) (by decide) d_X8_needle_10 ?_
  exact x_ireturn d_X8_needle_11 rfl (by first | rfl | exact nB_nar _ | exact nB_nar1 (by omega)) rfl rfl (Nat.zero_le _) (Nat.zero_le _) (⟨rfl, rfl⟩)
theorem md_needleO {h : nPH} {b : Nat} {M V : Nat → Nat → Nat} {P : Nat → Nat → Nat → Nat} {R : Nat → Nat → Nat → Nat → Nat} {E Y T S : Nat → Nat → Nat} (H : o8 h b M) (W : rW M V P R E Y T S) (O : kO V P R) {p : Nat} (hp : p < V 1 0) {r k : Int32} (hO : rOff (P p 5 0) (R p) r k) {o : Int32} : nRd YX8_needle [.ref (b), .int (nI (p)), .int (r), .int (k), .int (o)] h (.int (nI 0)) := by
  obtain ⟨p1, p2, p3, p4, p5, p6, p7, p8⟩ := rW_p W O hp
  refine nSp_of (by decide +kernel) rfl (Nat.le_of_ble_eq_true rfl) (ls := [some (.ref (b)), some (.int (nI (p))), some (.int (r)), some (.int (k)), some (.int (o))]) (by exact (And.intro rfl (And.intro rfl (And.intro rfl (And.intro rfl (And.intro rfl True.intro)))))) ?_
  refine x_aload_n rfl d_X8_needle_0 ?_
  refine x_iload_n rfl d_X8_needle_1 ?_
  refine x_iload_n rfl d_X8_needle_2 ?_
  refine x_iload_n rfl d_X8_needle_3 ?_
  refine x_rdV d_X8_needle_4 lk_8_118 mo_X8_isKnot vi_X8_isKnot (sp_isKnotO H W O hp hO) (o8_o H) ⟨_, rfl, rfl⟩ rfl ⟨Nat.le_of_ble_eq_true rfl, Nat.le_of_ble_eq_true rfl⟩ rfl rfl (Nat.zero_le _) (Nat.zero_le _) (Nat.le_of_ble_eq_true rfl) rfl ?_
  refine x_if_neN (tgt := 12) d_X8_needle_7 (by decide) (by omega) (fun c_1 => by exfalso; omega) (fun c_1 => ?_)
  refine x_iconst (v := nI 0) (by decide) d_X8_needle_10 ?_
  exact x_ireturn d_X8_needle_11 rfl (by first | rfl | exact nB_nar _ | exact nB_nar1 (by omega)) rfl rfl (Nat.zero_le _) (Nat.zero_le _) (⟨rfl, rfl⟩)
theorem md_needle0 {h : nPH} {b : Nat} {M V : Nat → Nat → Nat} {P : Nat → Nat → Nat → Nat} {R : Nat → Nat → Nat → Nat → Nat} {E Y T S : Nat → Nat → Nat} (H : o8 h b M) (W : rW M V P R E Y T S) (O : kO V P R) {p : Nat} (hp : p < V 1 0) {r : Nat} (hr : r < P p 5 0) {k : Nat} (hk : k < R p r 0 0) : nWv YX8_needle [.ref (b), .int (nI (p)), .int (nI (r)), .int (nI (k)), .int (nI (0))] h (some (.int (nI 1))) (fun h2 => nFr (nIv b 24) h h2 ∧ ∃ M2, o8 h2 b M2 ∧ rW M2 V P (uP R p (uR (R p) r (u2 (R p r) 3 k 0))) E Y T S) := by
  obtain ⟨p1, p2, p3, p4, p5, p6, p7, p8⟩ := rW_p W O hp
  obtain ⟨r1, r2, r3, r4, r5, r6⟩ := rW_r W O hp hr
  obtain ⟨k1, k2, k3, k4, k5, k6, k7, k8, k9⟩ := rW_k W O hp hr hk
  refine nSp_of (by decide +kernel) rfl (Nat.le_of_ble_eq_true rfl) (ls := [some (.ref (b)), some (.int (nI (p))), some (.int (nI (r))), some (.int (nI (k))), some (.int (nI (0)))]) (by exact (And.intro rfl (And.intro rfl (And.intro rfl (And.intro rfl (And.intro rfl True.intro)))))) ?_
  refine x_aload_n rfl d_X8_needle_0 ?_
  refine x_iload_n rfl d_X8_needle_1 ?_
  refine x_iload_n rfl d_X8_needle_2 ?_
  refine x_iload_n rfl d_X8_needle_3 ?_
  refine x_rdV d_X8_needle_4 lk_8_118 mo_X8_isKnot vi_X8_isKnot (sp_isKnot H p2 p1 r1 p5 k1 (by omega)) (o8_o H) ⟨_, rfl, rfl⟩ rfl ⟨Nat.le_of_ble_eq_true rfl, Nat.le_of_ble_eq_true rfl⟩ rfl rfl (Nat.zero_le _) (Nat.zero_le _) (Nat.le_of_ble_eq_true rfl) rfl ?_
  refine x_if_neN (tgt := 12) d_X8_needle_7 (by decide) (by omega) (fun c_1 => ?_) (fun c_1 => by exfalso; omega)
  refine x_aload_n rfl d_X8_needle_12 ?_
  refine x_getf co_all (v := .ref (b + 14)) d_X8_needle_13 fk_8_54 (o8_o H) rfl ?_
  refine x_iload_n rfl d_X8_needle_16 ?_
  refine x_iload_n rfl d_X8_needle_17 ?_
  refine x_iload_n rfl d_X8_needle_18 ?_
  refine x_rdS d_X8_needle_19 lk_8_99 mo_X8_at sc_X8_at (sp_at) rfl ⟨Nat.le_of_ble_eq_true rfl, Nat.le_of_ble_eq_true rfl⟩ rfl rfl (Nat.zero_le _) (Nat.zero_le _) (Nat.le_of_ble_eq_true rfl) rfl ?_
  refine x_iload rfl d_X8_needle_22 ?_
  refine x_bastore d_X8_needle_24 (o8_15 H) (nIx_nI (j := 24 * (20 * p + r) + k) (by omega) (by decide)) rfl (Nat.le_trans (o8_B H) (Nat.le_add_right _ _)) ?_
  have H2_8 := o8_ast15 (24 * (20 * p + r) + k) (0) H
  have f_3 := o8_f15 (24 * (20 * p + r) + k) (0) H ((nFr.rf (S := nIv b 24) (h := h))) (by exact ⟨by omega, by omega⟩)
  refine x_iconst (v := nI 1) (by decide) d_X8_needle_25 ?_
  exact x_ireturn d_X8_needle_26 rfl (by first | rfl | exact nB_nar _ | exact nB_nar1 (by omega)) (f_3).1 (f_3).2.1 (Nat.zero_le _) (Nat.zero_le _) (⟨rfl, f_3, _, H2_8, rW_f W hp hr hk (f := 3) (v := 0) (Or.inr (Or.inr (Or.inl rfl))) (fun e => absurd e (by decide)) (fun e => absurd e (by decide))⟩)
theorem md_needle1 {h : nPH} {b : Nat} {M V : Nat → Nat → Nat} {P : Nat → Nat → Nat → Nat} {R : Nat → Nat → Nat → Nat → Nat} {E Y T S : Nat → Nat → Nat} (H : o8 h b M) (W : rW M V P R E Y T S) (O : kO V P R) {p : Nat} (hp : p < V 1 0) {r : Nat} (hr : r < P p 5 0) {k : Nat} (hk : k < R p r 0 0) : nWv YX8_needle [.ref (b), .int (nI (p)), .int (nI (r)), .int (nI (k)), .int (nI (1))] h (some (.int (nI 1))) (fun h2 => nFr (nIv b 24) h h2 ∧ ∃ M2, o8 h2 b M2 ∧ rW M2 V P (uP R p (uR (R p) r (u2 (R p r) 3 k 1))) E Y T S) := by
  obtain ⟨p1, p2, p3, p4, p5, p6, p7, p8⟩ := rW_p W O hp
  obtain ⟨r1, r2, r3, r4, r5, r6⟩ := rW_r W O hp hr
  obtain ⟨k1, k2, k3, k4, k5, k6, k7, k8, k9⟩ := rW_k W O hp hr hk
  refine nSp_of (by decide +kernel) rfl (Nat.le_of_ble_eq_true rfl) (ls := [some (.ref (b)), some (.int (nI (p))), some (.int (nI (r))), some (.int (nI (k))), some (.int (nI (1)))]) (by exact (And.intro rfl (And.intro rfl (And.intro rfl (And.intro rfl (And.intro rfl True.intro)))))) ?_
  refine x_aload_n rfl d_X8_needle_0 ?_
  refine x_iload_n rfl d_X8_needle_1 ?_
  refine x_iload_n rfl d_X8_needle_2 ?_
  refine x_iload_n rfl d_X8_needle_3 ?_
  refine x_rdV d_X8_needle_4 lk_8_118 mo_X8_isKnot vi_X8_isKnot (sp_isKnot H p2 p1 r1 p5 k1 (by omega)) (o8_o H) ⟨_, rfl, rfl⟩ rfl ⟨Nat.le_of_ble_eq_true rfl, Nat.le_of_ble_eq_true rfl⟩ rfl rfl (Nat.zero_le _) (Nat.zero_le _) (Nat.le_of_ble_eq_true rfl) rfl ?_
  refine x_if_neN (tgt := 12) d_X8_needle_7 (by decide) (by omega) (fun c_1 => ?_) (fun c_1 => by exfalso; omega)
  refine x_aload_n rfl d_X8_needle_12 ?_
  refine x_getf co_all (v := .ref (b + 14)) d_X8_needle_13 fk_8_54 (o8_o H) rfl ?_
  refine x_iload_n rfl d_X8_needle_16 ?_
  refine x_iload_n rfl d_X8_needle_17 ?_
  refine x_iload_n rfl d_X8_needle_18 ?_
  refine x_rdS d_X8_needle_19 lk_8_99 mo_X8_at sc_X8_at (sp_at) rfl ⟨Nat.le_of_ble_eq_true rfl, Nat.le_of_ble_eq_true rfl⟩ rfl rfl (Nat.zero_le _) (Nat.zero_le _) (Nat.le_of_ble_eq_true rfl) rfl ?_
  refine x_iload rfl d_X8_needle_22 ?_
  refine x_bastore d_X8_needle_24 (o8_15 H) (nIx_nI (j := 24 * (20 * p + r) + k) (by omega) (by decide)) rfl (Nat.le_trans (o8_B H) (Nat.le_add_right _ _)) ?_
  have H2_8 := o8_ast15 (24 * (20 * p + r) + k) (1) H
  have f_3 := o8_f15 (24 * (20 * p + r) + k) (1) H ((nFr.rf (S := nIv b 24) (h := h))) (by exact ⟨by omega, by omega⟩)
  refine x_iconst (v := nI 1) (by decide) d_X8_needle_25 ?_
  exact x_ireturn d_X8_needle_26 rfl (by first | rfl | exact nB_nar _ | exact nB_nar1 (by omega)) (f_3).1 (f_3).2.1 (Nat.zero_le _) (Nat.zero_le _) (⟨rfl, f_3, _, H2_8, rW_f W hp hr hk (f := 3) (v := 1) (Or.inr (Or.inr (Or.inl rfl))) (fun e => absurd e (by decide)) (fun e => absurd e (by decide))⟩)
theorem md_pullP {h : nPH} {b : Nat} {M V : Nat → Nat → Nat} {P : Nat → Nat → Nat → Nat} {R : Nat → Nat → Nat → Nat → Nat} {E Y T S : Nat → Nat → Nat} (H : o8 h b M) (W : rW M V P R E Y T S) (O : kO V P R) {p : Int32} (hp : ¬ nIn p (V 1 0)) {k v : Int32} : nRd YX8_pull [.ref (b), .int (p), .int (k), .int (v)] h (.int (nI 0)) := by
  refine nSp_of (by decide +kernel) rfl (Nat.le_of_ble_eq_true rfl) (ls := [some (.ref (b)), some (.int (p)), some (.int (k)), some (.int (v))]) (by exact (And.intro rfl (And.intro rfl (And.intro rfl (And.intro rfl True.intro))))) ?_
  refine x_aload_n rfl d_X8_pull_0 ?_
  refine x_iload_n rfl d_X8_pull_1 ?_
  refine x_iconst (v := nI 0) (by decide) d_X8_pull_2 ?_
  refine x_iload_n rfl d_X8_pull_3 ?_
  refine x_rdV d_X8_pull_4 lk_8_118 mo_X8_isKnot vi_X8_isKnot (sp_isKnotP H (rW_n W O) (rW_x W hp)) (o8_o H) ⟨_, rfl, rfl⟩ rfl ⟨Nat.le_of_ble_eq_true rfl, Nat.le_of_ble_eq_true rfl⟩ rfl rfl (Nat.zero_le _) (Nat.zero_le _) (Nat.le_of_ble_eq_true rfl) rfl ?_
  refine x_if_eqN (tgt := 20) d_X8_pull_7 (by decide) (by omega) (fun c_1 => ?_) (fun c_1 => by exfalso; omega)
  refine x_iconst (v := nI 0) (by decide) d_X8_pull_20 ?_
  exact x_ireturn d_X8_pull_21 rfl (by first | rfl | exact nB_nar _ | exact nB_nar1 (by omega)) rfl rfl (Nat.zero_le _) (Nat.zero_le _) (⟨rfl, rfl⟩)
theorem md_pullO {h : nPH} {b : Nat} {M V : Nat → Nat → Nat} {P : Nat → Nat → Nat → Nat} {R : Nat → Nat → Nat → Nat → Nat} {E Y T S : Nat → Nat → Nat} (H : o8 h b M) (W : rW M V P R E Y T S) (O : kO V P R) {p : Nat} (hp : p < V 1 0) {k v : Int32} (hO : rOff (P p 5 0) (R p) (nI 0) k) : nRd YX8_pull [.ref (b), .int (nI (p)), .int (k), .int (v)] h (.int (nI 0)) := by
  obtain ⟨p1, p2, p3, p4, p5, p6, p7, p8⟩ := rW_p W O hp
  refine nSp_of (by decide +kernel) rfl (Nat.le_of_ble_eq_true rfl) (ls := [some (.ref (b)), some (.int (nI (p))), some (.int (k)), some (.int (v))]) (by exact (And.intro rfl (And.intro rfl (And.intro rfl (And.intro rfl True.intro))))) ?_
  refine x_aload_n rfl d_X8_pull_0 ?_
  refine x_iload_n rfl d_X8_pull_1 ?_
  refine x_iconst (v := nI 0) (by decide) d_X8_pull_2 ?_
  refine x_iload_n rfl d_X8_pull_3 ?_
  refine x_rdV d_X8_pull_4 lk_8_118 mo_X8_isKnot vi_X8_isKnot (sp_isKnotO H W O hp hO) (o8_o H) ⟨_, rfl, rfl⟩ rfl ⟨Nat.le_of_ble_eq_true rfl, Nat.le_of_ble_eq_true rfl⟩ rfl rfl (Nat.zero_le _) (Nat.zero_le _) (Nat.le_of_ble_eq_true rfl) rfl ?_
  refine x_if_eqN (tgt := 20) d_X8_pull_7 (by decide) (by omega) (fun c_1 => ?_) (fun c_1 => by exfalso; omega)
  refine x_iconst (v := nI 0) (by decide) d_X8_pull_20 ?_
  exact x_ireturn d_X8_pull_21 rfl (by first | rfl | exact nB_nar _ | exact nB_nar1 (by omega)) rfl rfl (Nat.zero_le _) (Nat.zero_le _) (⟨rfl, rfl⟩)
theorem md_pullV {h : nPH} {b : Nat} {M V : Nat → Nat → Nat} {P : Nat → Nat → Nat → Nat} {R : Nat → Nat → Nat → Nat → Nat} {E Y T S : Nat → Nat → Nat} (H : o8 h b M) (W : rW M V P R E Y T S) (O : kO V P R) {p : Nat} (hp : p < V 1 0) {k : Nat} (hk : k < R p 0 0 0) {v : Int32} (hv : ¬ (nI 0 ≤ v ∧ v ≤ nI 100)) : nRd YX8_pull [.ref (b), .int (nI (p)), .int (nI (k)), .int (v)] h (.int (nI 0)) := by
  obtain ⟨p1, p2, p3, p4, p5, p6, p7, p8⟩ := rW_p W O hp
  obtain ⟨r1, r2, r3, r4, r5, r6⟩ := rW_r W O hp p6
  obtain ⟨k1, k2, k3, k4, k5, k6, k7, k8, k9⟩ := rW_k W O hp p6 hk
  refine nSp_of (by decide +kernel) rfl (Nat.le_of_ble_eq_true rfl) (ls := [some (.ref (b)), some (.int (nI (p))), some (.int (nI (k))), some (.int (v))]) (by exact (And.intro rfl (And.intro rfl (And.intro rfl (And.intro rfl True.intro))))) ?_
  refine x_aload_n rfl d_X8_pull_0 ?_
  refine x_iload_n rfl d_X8_pull_1 ?_
  refine x_iconst (v := nI 0) (by decide) d_X8_pull_2 ?_
  refine x_iload_n rfl d_X8_pull_3 ?_
  refine x_rdV d_X8_pull_4 lk_8_118 mo_X8_isKnot vi_X8_isKnot (sp_isKnot H p2 p1 r1 p5 k1 (by omega)) (o8_o H) ⟨_, rfl, rfl⟩ rfl ⟨Nat.le_of_ble_eq_true rfl, Nat.le_of_ble_eq_true rfl⟩ rfl rfl (Nat.zero_le _) (Nat.zero_le _) (Nat.le_of_ble_eq_true rfl) rfl ?_
  refine x_if_eqN (tgt := 20) d_X8_pull_7 (by decide) (by omega) (fun c_1 => by exfalso; omega) (fun c_1 => ?_)
  refine x_iload_n rfl d_X8_pull_10 ?_
  refine x_if_lt (tgt := 20) d_X8_pull_11 (by decide) (fun c_2 => ?_) (fun c_2 => ?_)
  · refine x_iconst (v := nI 0) (by decide) d_X8_pull_20 ?_
    exact x_ireturn d_X8_pull_21 rfl (by first | rfl | exact nB_nar _ | exact nB_nar1 (by omega)) rfl rfl (Nat.zero_le _) (Nat.zero_le _) (⟨rfl, rfl⟩)
  · refine x_iload_n rfl d_X8_pull_14 ?_
    refine x_bipush (v := nI 100) (by decide) d_X8_pull_15 ?_
    refine x_icmp_le (tgt := 22) d_X8_pull_17 (by decide) (fun c_3 => by exfalso; exact hv ⟨Int32.not_lt.mp c_2, c_3⟩) (fun c_3 => ?_)
    refine x_iconst (v := nI 0) (by decide) d_X8_pull_20 ?_
    exact x_ireturn d_X8_pull_21 rfl (by first | rfl | exact nB_nar _ | exact nB_nar1 (by omega)) rfl rfl (Nat.zero_le _) (Nat.zero_le _) (⟨rfl, rfl⟩)
theorem md_pull {h : nPH} {b : Nat} {M V : Nat → Nat → Nat} {P : Nat → Nat → Nat → Nat} {R : Nat → Nat → Nat → Nat → Nat} {E Y T S : Nat → Nat → Nat} (H : o8 h b M) (W : rW M V P R E Y T S) (O : kO V P R) {p : Nat} (hp : p < V 1 0) {k : Nat} (hk : k < R p 0 0 0) {v : Nat} (hv : v ≤ 100) : nWv YX8_pull [.ref (b), .int (nI (p)), .int (nI (k)), .int (nI (v))] h (some (.int (nI 1))) (fun h2 => nFr (nIv b 24) h h2 ∧ ∃ M2, o8 h2 b M2 ∧ rW M2 V (uP P p (u2 (P p) 6 k v)) (uP R p (R p)) E Y T S) := by
  obtain ⟨p1, p2, p3, p4, p5, p6, p7, p8⟩ := rW_p W O hp
  obtain ⟨r1, r2, r3, r4, r5, r6⟩ := rW_r W O hp p6
  obtain ⟨k1, k2, k3, k4, k5, k6, k7, k8, k9⟩ := rW_k W O hp p6 hk
  obtain ⟨b2, b3, b4, b5, b6, b7, -⟩ := (W.2.1 p hp).1
  have W1 := rW_head W hp (M2 := u2 M 7 (24 * p + k) v) (P2 := u2 (P p) 6 k v) (fun f i _ h => u2_ne (fun z => by have := h z.1; omega)) (u2_ne (by omega)) (by rw [u2_ne (by omega), u2_ne (by omega)]; exact b3) (by rw [u2_ne (by omega), u2_ne (by omega)]; exact b4) (by rw [u2_ne (by omega), u2_ne (by omega)]; exact b5) (by rw [u2_ne (by omega), u2_ne (by omega)]; exact b6) (fun j hj => by
    by_cases e : j = k
    · subst e; rw [u2_eq, u2_eq]
    · rw [u2_ne (by omega), u2_ne (by omega)]; exact b7 j hj) (fun q hq => (rW_r W O hq (rW_p W O hq).2.2.2.2.2.1).2.2.2.1)
  refine nSp_of (by decide +kernel) rfl (Nat.le_of_ble_eq_true rfl) (ls := [some (.ref (b)), some (.int (nI (p))), some (.int (nI (k))), some (.int (nI (v)))]) (by exact (And.intro rfl (And.intro rfl (And.intro rfl (And.intro rfl True.intro))))) ?_
  refine x_aload_n rfl d_X8_pull_0 ?_
  refine x_iload_n rfl d_X8_pull_1 ?_
  refine x_iconst (v := nI 0) (by decide) d_X8_pull_2 ?_
  refine x_iload_n rfl d_X8_pull_3 ?_
  refine x_rdV d_X8_pull_4 lk_8_118 mo_X8_isKnot vi_X8_isKnot (sp_isKnot H p2 p1 r1 p5 k1 (by omega)) (o8_o H) ⟨_, rfl, rfl⟩ rfl ⟨Nat.le_of_ble_eq_true rfl, Nat.le_of_ble_eq_true rfl⟩ rfl rfl (Nat.zero_le _) (Nat.zero_le _) (Nat.le_of_ble_eq_true rfl) rfl ?_
  refine x_if_eqN (tgt := 20) d_X8_pull_7 (by decide) (by omega) (fun c_1 => by exfalso; omega) (fun c_1 => ?_)
  refine x_iload_n rfl d_X8_pull_10 ?_
  refine x_if_ltN (tgt := 20) d_X8_pull_11 (by decide) (by omega) (fun c_2 => by exfalso; omega) (fun c_2 => ?_)
  refine x_iload_n rfl d_X8_pull_14 ?_
  refine x_bipush (v := nI 100) (by decide) d_X8_pull_15 ?_
  refine x_icmp_leN (tgt := 22) d_X8_pull_17 (by decide) (by omega) (by omega) (fun c_3 => ?_) (fun c_3 => by exfalso; omega)
  refine x_aload_n rfl d_X8_pull_22 ?_
  refine x_getf co_all (v := .ref (b + 6)) d_X8_pull_23 fk_8_29 (o8_o H) rfl ?_
  refine x_bipush (v := nI 24) (by decide) d_X8_pull_26 ?_
  refine x_iload_n rfl d_X8_pull_28 ?_
  refine x_imulN d_X8_pull_29 ?_
  refine x_iload_n rfl d_X8_pull_30 ?_
  refine x_iaddN d_X8_pull_31 ?_
  refine x_iload_n rfl d_X8_pull_32 ?_
  refine x_iastore d_X8_pull_33 (o8_7 H) (nIx_nI (j := (24 * p) + k) (by omega) (by decide)) (Nat.le_trans (o8_B H) (Nat.le_add_right _ _)) ?_
  have H4_8 := o8_ast7 ((24 * p) + k) (v) H
  have f_5 := o8_f7 ((24 * p) + k) (v) H ((nFr.rf (S := nIv b 24) (h := h))) (by exact ⟨by omega, by omega⟩)
  refine x_iconst (v := nI 1) (by decide) d_X8_pull_34 ?_
  exact x_ireturn d_X8_pull_35 rfl (by first | rfl | exact nB_nar _ | exact nB_nar1 (by omega)) (f_5).1 (f_5).2.1 (Nat.zero_le _) (Nat.zero_le _) (⟨rfl, f_5, _, H4_8, W1⟩)
theorem md_hangP {h : nPH} {b : Nat} {M V : Nat → Nat → Nat} {P : Nat → Nat → Nat → Nat} {R : Nat → Nat → Nat → Nat → Nat} {E Y T S : Nat → Nat → Nat} (H : o8 h b M) (W : rW M V P R E Y T S) (O : kO V P R) {p : Int32} (hp : ¬ nIn p (V 1 0)) {x y : Int32} : nRd YX8_hang [.ref (b), .int (p), .int (x), .int (y)] h (.int (nI 0)) := by
  refine nSp_of (by decide +kernel) rfl (Nat.le_of_ble_eq_true rfl) (ls := [some (.ref (b)), some (.int (p)), some (.int (x)), some (.int (y))]) (by exact (And.intro rfl (And.intro rfl (And.intro rfl (And.intro rfl True.intro))))) ?_
  refine x_aload_n rfl d_X8_hang_0 ?_
  refine x_iload_n rfl d_X8_hang_1 ?_
  refine x_rdV d_X8_hang_2 lk_8_91 mo_X8_isPanel vi_X8_isPanel (sp_isPanelN H (rW_n W O) (rW_x W hp)) (o8_o H) ⟨_, rfl, rfl⟩ rfl ⟨Nat.le_of_ble_eq_true rfl, Nat.le_of_ble_eq_true rfl⟩ rfl rfl (Nat.zero_le _) (Nat.zero_le _) (Nat.le_of_ble_eq_true rfl) rfl ?_
  refine x_if_eqN (tgt := 30) d_X8_hang_5 (by decide) (by omega) (fun c_1 => ?_) (fun c_1 => by exfalso; omega)
  refine x_iconst (v := nI 0) (by decide) d_X8_hang_30 ?_
  exact x_ireturn d_X8_hang_31 rfl (by first | rfl | exact nB_nar _ | exact nB_nar1 (by omega)) rfl rfl (Nat.zero_le _) (Nat.zero_le _) (⟨rfl, rfl⟩)
theorem md_hangY {h : nPH} {b : Nat} {M V : Nat → Nat → Nat} {P : Nat → Nat → Nat → Nat} {R : Nat → Nat → Nat → Nat → Nat} {E Y T S : Nat → Nat → Nat} (H : o8 h b M) (W : rW M V P R E Y T S) (O : kO V P R) {p : Nat} (hp : p < V 1 0) {x y : Int32} (hy : ¬ (nI 1 ≤ y ∧ y ≤ nI 1000)) : nRd YX8_hang [.ref (b), .int (nI (p)), .int (x), .int (y)] h (.int (nI 0)) := by
  obtain ⟨p1, p2, p3, p4, p5, p6, p7, p8⟩ := rW_p W O hp
  refine nSp_of (by decide +kernel) rfl (Nat.le_of_ble_eq_true rfl) (ls := [some (.ref (b)), some (.int (nI (p))), some (.int (x)), some (.int (y))]) (by exact (And.intro rfl (And.intro rfl (And.intro rfl (And.intro rfl True.intro))))) ?_
  refine x_aload_n rfl d_X8_hang_0 ?_
  refine x_iload_n rfl d_X8_hang_1 ?_
  refine x_rdV d_X8_hang_2 lk_8_91 mo_X8_isPanel vi_X8_isPanel (sp_isPanel H p2 p1) (o8_o H) ⟨_, rfl, rfl⟩ rfl ⟨Nat.le_of_ble_eq_true rfl, Nat.le_of_ble_eq_true rfl⟩ rfl rfl (Nat.zero_le _) (Nat.zero_le _) (Nat.le_of_ble_eq_true rfl) rfl ?_
  refine x_if_eqN (tgt := 30) d_X8_hang_5 (by decide) (by omega) (fun c_1 => by exfalso; omega) (fun c_1 => ?_)
  refine x_iload_n rfl d_X8_hang_8 ?_
  refine x_iconst (v := nI 1) (by decide) d_X8_hang_9 ?_
  refine x_icmp_lt (tgt := 30) d_X8_hang_10 (by decide) (fun c_2 => ?_) (fun c_2 => ?_)
  · refine x_iconst (v := nI 0) (by decide) d_X8_hang_30 ?_
    exact x_ireturn d_X8_hang_31 rfl (by first | rfl | exact nB_nar _ | exact nB_nar1 (by omega)) rfl rfl (Nat.zero_le _) (Nat.zero_le _) (⟨rfl, rfl⟩)
  · refine x_iload_n rfl d_X8_hang_13 ?_
    refine x_sipush (v := nI 1000) (by decide) d_X8_hang_14 ?_
    refine x_icmp_gt (tgt := 30) d_X8_hang_17 (by decide) (fun c_3 => ?_) (fun c_3 => by exfalso; exact hy ⟨Int32.not_lt.mp c_2, Int32.not_lt.mp c_3⟩)
    refine x_iconst (v := nI 0) (by decide) d_X8_hang_30 ?_
    exact x_ireturn d_X8_hang_31 rfl (by first | rfl | exact nB_nar _ | exact nB_nar1 (by omega)) rfl rfl (Nat.zero_le _) (Nat.zero_le _) (⟨rfl, rfl⟩)
theorem md_hangX {h : nPH} {b : Nat} {M V : Nat → Nat → Nat} {P : Nat → Nat → Nat → Nat} {R : Nat → Nat → Nat → Nat → Nat} {E Y T S : Nat → Nat → Nat} (H : o8 h b M) (W : rW M V P R E Y T S) (O : kO V P R) {p : Nat} (hp : p < V 1 0) {y : Nat} (hy1 : 1 ≤ y) (hy2 : y ≤ 1000) {x : Int32} (hx : ¬ (nI 1 ≤ x ∧ x ≤ nI y)) : nRd YX8_hang [.ref (b), .int (nI (p)), .int (x), .int (nI (y))] h (.int (nI 0)) := by
  obtain ⟨p1, p2, p3, p4, p5, p6, p7, p8⟩ := rW_p W O hp
  refine nSp_of (by decide +kernel) rfl (Nat.le_of_ble_eq_true rfl) (ls := [some (.ref (b)), some (.int (nI (p))), some (.int (x)), some (.int (nI (y)))]) (by exact (And.intro rfl (And.intro rfl (And.intro rfl (And.intro rfl True.intro))))) ?_
  refine x_aload_n rfl d_X8_hang_0 ?_
  refine x_iload_n rfl d_X8_hang_1 ?_
  refine x_rdV d_X8_hang_2 lk_8_91 mo_X8_isPanel vi_X8_isPanel (sp_isPanel H p2 p1) (o8_o H) ⟨_, rfl, rfl⟩ rfl ⟨Nat.le_of_ble_eq_true rfl, Nat.le_of_ble_eq_true rfl⟩ rfl rfl (Nat.zero_le _) (Nat.zero_le _) (Nat.le_of_ble_eq_true rfl) rfl ?_
  refine x_if_eqN (tgt := 30) d_X8_hang_5 (by decide) (by omega) (fun c_1 => by exfalso; omega) (fun c_1 => ?_)
  refine x_iload_n rfl d_X8_hang_8 ?_
  refine x_iconst (v := nI 1) (by decide) d_X8_hang_9 ?_
  refine x_icmp_ltN (tgt := 30) d_X8_hang_10 (by decide) (by omega) (by omega) (fun c_2 => by exfalso; omega) (fun c_2 => ?_)
  refine x_iload_n rfl d_X8_hang_13 ?_
  refine x_sipush (v := nI 1000) (by decide) d_X8_hang_14 ?_
  refine x_icmp_gtN (tgt := 30) d_X8_hang_17 (by decide) (by omega) (by omega) (fun c_3 => by exfalso; omega) (fun c_3 => ?_)
  refine x_iload_n rfl d_X8_hang_20 ?_
  refine x_iconst (v := nI 1) (by decide) d_X8_hang_21 ?_
  refine x_icmp_lt (tgt := 30) d_X8_hang_22 (by decide) (fun c_4 => ?_) (fun c_4 => ?_)
  · refine x_iconst (v := nI 0) (by decide) d_X8_hang_30 ?_
    exact x_ireturn d_X8_hang_31 rfl (by first | rfl | exact nB_nar _ | exact nB_nar1 (by omega)) rfl rfl (Nat.zero_le _) (Nat.zero_le _) (⟨rfl, rfl⟩)
  · refine x_iload_n rfl d_X8_hang_25 ?_
    refine x_iload_n rfl d_X8_hang_26 ?_
    refine x_icmp_le (tgt := 32) d_X8_hang_27 (by decide) (fun c_5 => by exfalso; exact hx ⟨Int32.not_lt.mp c_4, c_5⟩) (fun c_5 => ?_)
    refine x_iconst (v := nI 0) (by decide) d_X8_hang_30 ?_
    exact x_ireturn d_X8_hang_31 rfl (by first | rfl | exact nB_nar _ | exact nB_nar1 (by omega)) rfl rfl (Nat.zero_le _) (Nat.zero_le _) (⟨rfl, rfl⟩)
theorem md_hang {h : nPH} {b : Nat} {M V : Nat → Nat → Nat} {P : Nat → Nat → Nat → Nat} {R : Nat → Nat → Nat → Nat → Nat} {E Y T S : Nat → Nat → Nat} (H : o8 h b M) (W : rW M V P R E Y T S) (O : kO V P R) {p : Nat} (hp : p < V 1 0) {y : Nat} (hy1 : 1 ≤ y) (hy2 : y ≤ 1000) {x : Nat} (hx1 : 1 ≤ x) (hx2 : x ≤ y) : nWv YX8_hang [.ref (b), .int (nI (p)), .int (nI (x)), .int (nI (y))] h (some (.int (nI 1))) (fun h2 => nFr (nIv b 24) h h2 ∧ ∃ M2, o8 h2 b M2 ∧ rW M2 V (uP P p (u2 (u2 (P p) 2 0 x) 3 0 y)) (uP R p (R p)) E Y T S) := by
  obtain ⟨p1, p2, p3, p4, p5, p6, p7, p8⟩ := rW_p W O hp
  obtain ⟨b2, b3, b4, b5, b6, b7, -⟩ := (W.2.1 p hp).1
  have W1 := rW_head W hp (M2 := u2 (u2 M 5 p x) 6 p y) (P2 := u2 (u2 (P p) 2 0 x) 3 0 y) (fun f i h _ => by rw [u2_ne (fun z => h (by omega) (by omega) z.2), u2_ne (fun z => h (by omega) (by omega) z.2)]) (by rw [u2_ne (by omega), u2_ne (by omega)]) (by rw [u2_ne (by omega), u2_ne (by omega), u2_ne (by omega), u2_ne (by omega)]; exact b3) (by rw [u2_ne (by omega), u2_ne (by omega), u2_ne (by omega), u2_ne (by omega)]; exact b4) (by rw [u2_ne (by omega), u2_eq, u2_ne (by omega), u2_eq]) (by rw [u2_eq, u2_eq]) (fun j hj => by
    rw [u2_ne (by omega), u2_ne (by omega), u2_ne (by omega), u2_ne (by omega)]; exact b7 j hj) (fun q hq => (rW_r W O hq (rW_p W O hq).2.2.2.2.2.1).2.2.2.1)
  refine nSp_of (by decide +kernel) rfl (Nat.le_of_ble_eq_true rfl) (ls := [some (.ref (b)), some (.int (nI (p))), some (.int (nI (x))), some (.int (nI (y)))]) (by exact (And.intro rfl (And.intro rfl (And.intro rfl (And.intro rfl True.intro))))) ?_
  refine x_aload_n rfl d_X8_hang_0 ?_
  refine x_iload_n rfl d_X8_hang_1 ?_
  refine x_rdV d_X8_hang_2 lk_8_91 mo_X8_isPanel vi_X8_isPanel (sp_isPanel H p2 p1) (o8_o H) ⟨_, rfl, rfl⟩ rfl ⟨Nat.le_of_ble_eq_true rfl, Nat.le_of_ble_eq_true rfl⟩ rfl rfl (Nat.zero_le _) (Nat.zero_le _) (Nat.le_of_ble_eq_true rfl) rfl ?_
  refine x_if_eqN (tgt := 30) d_X8_hang_5 (by decide) (by omega) (fun c_1 => by exfalso; omega) (fun c_1 => ?_)
  refine x_iload_n rfl d_X8_hang_8 ?_
  refine x_iconst (v := nI 1) (by decide) d_X8_hang_9 ?_
  refine x_icmp_ltN (tgt := 30) d_X8_hang_10 (by decide) (by omega) (by omega) (fun c_2 => by exfalso; omega) (fun c_2 => ?_)
  refine x_iload_n rfl d_X8_hang_13 ?_
  refine x_sipush (v := nI 1000) (by decide) d_X8_hang_14 ?_
  refine x_icmp_gtN (tgt := 30) d_X8_hang_17 (by decide) (by omega) (by omega) (fun c_3 => by exfalso; omega) (fun c_3 => ?_)
  refine x_iload_n rfl d_X8_hang_20 ?_
  refine x_iconst (v := nI 1) (by decide) d_X8_hang_21 ?_
  refine x_icmp_ltN (tgt := 30) d_X8_hang_22 (by decide) (by omega) (by omega) (fun c_4 => by exfalso; omega) (fun c_4 => ?_)
  refine x_iload_n rfl d_X8_hang_25 ?_
  refine x_iload_n rfl d_X8_hang_26 ?_
  refine x_icmp_leN (tgt := 32) d_X8_hang_27 (by decide) (by omega) (by omega) (fun c_5 => ?_) (fun c_5 => by exfalso; omega)
  refine x_aload_n rfl d_X8_hang_32 ?_
  refine x_getf co_all (v := .ref (b + 4)) d_X8_hang_33 fk_8_23 (o8_o H) rfl ?_
  refine x_iload_n rfl d_X8_hang_36 ?_
  refine x_iload_n rfl d_X8_hang_37 ?_
  refine x_iastore d_X8_hang_38 (o8_5 H) (nIx_nI (j := p) (by omega) (by decide)) (Nat.le_trans (o8_B H) (Nat.le_add_right _ _)) ?_
  have H6_8 := o8_ast5 (p) (x) H
  have f_7 := o8_f5 (p) (x) H ((nFr.rf (S := nIv b 24) (h := h))) (by exact ⟨by omega, by omega⟩)
  refine x_aload_n rfl d_X8_hang_39 ?_
  refine x_getf co_all (v := .ref (b + 5)) d_X8_hang_40 fk_8_26 (o8_o H6_8) rfl ?_
  refine x_iload_n rfl d_X8_hang_43 ?_
  refine x_iload_n rfl d_X8_hang_44 ?_
  refine x_iastore d_X8_hang_45 (o8_6 H6_8) (nIx_nI (j := p) (by omega) (by decide)) (Nat.le_trans (o8_B H6_8) (Nat.le_add_right _ _)) ?_
  have H8_8 := o8_ast6 (p) (y) H6_8
  have f_9 := o8_f6 (p) (y) H6_8 (f_7) (by exact ⟨by omega, by omega⟩)
  refine x_iconst (v := nI 1) (by decide) d_X8_hang_46 ?_
  exact x_ireturn d_X8_hang_47 rfl (by first | rfl | exact nB_nar _ | exact nB_nar1 (by omega)) (f_9).1 (f_9).2.1 (Nat.zero_le _) (Nat.zero_le _) (⟨rfl, f_9, _, H8_8, W1⟩)
theorem nV_i {m : Nat} (hm : m < 2 ^ 30) : (nV m).toInt = (m : Int) - 1 := by
  rcases Nat.lt_or_ge m 1 with z | z
  · have e : m = 0 := by omega
    subst e; decide
  · obtain ⟨n, rfl⟩ : ∃ n, m = n + 1 := ⟨m - 1, by omega⟩
    rw [nV_s, nI_toInt (by omega)]
    omega
theorem nV_lt {m : Nat} (hm : m < 2 ^ 30) : ¬ nV m < -1 := by
  rw [Int32.lt_iff_toInt_lt, nV_i hm]
  have : (-1 : Int32).toInt = -1 := by decide
  omega
theorem nV_le {m n : Nat} (hm : m < 2 ^ 30) (hn : n < 2 ^ 30) : nV m ≤ nI n ↔ m ≤ n + 1 := le_V hn hm
theorem pt_x {i : Int32} {m : Nat} (hm : m ≤ 102) (h1 : ¬ i < 0) (h2 : ¬ nV m ≤ i) : ∃ j : Nat, i = nI j ∧ j + 1 < m := by
  rw [Int32.le_iff_toInt_le, nV_i (by omega)] at h2
  rw [Int32.lt_iff_toInt_lt] at h1
  have h0 : (0 : Int32).toInt = 0 := by decide
  rw [h0] at h1
  obtain ⟨j, hj, rfl⟩ := nIn_of (k := i) (n := m) ⟨by omega, by omega⟩ (by omega)
  rw [nI_toInt (by omega)] at h2
  exact ⟨j, rfl, by omega⟩
def mZe (M : Nat → Nat → Nat) (m n : Nat) : Nat → Nat → Nat := fun f i => if f = 17 ∧ i < n then 0 else u2 M 16 0 m f i
theorem mZe_0 (M : Nat → Nat → Nat) (m f i : Nat) : mZe M m 0 f i = u2 M 16 0 m f i := if_neg (by omega)
theorem mZe_s (M : Nat → Nat → Nat) (m n f i : Nat) : mZe M m (n + 1) f i = u2 (mZe M m n) 17 n 0 f i := by
  by_cases e : f = 17 ∧ i = n
  · obtain ⟨rfl, rfl⟩ := e
    rw [u2_eq]
    exact if_pos (by omega)
  · rw [u2_ne e]
    unfold mZe
    by_cases e2 : f = 17 ∧ i < n
    · rw [if_pos e2, if_pos (by omega)]
    · rw [if_neg e2, if_neg (by omega)]
theorem md_partsN {h : nPH} {b : Nat} {M V : Nat → Nat → Nat} {P : Nat → Nat → Nat → Nat} {R : Nat → Nat → Nat → Nat → Nat} {E Y T S : Nat → Nat → Nat} (H : o8 h b M) (W : rW M V P R E Y T S) (O : kO V P R) {n : Int32} (hn : ¬ (-1 ≤ n ∧ n ≤ nI 101)) : nRd YX8_parts [.ref (b), .int (n)] h (.int (nI 0)) := by
  refine nSp_of (by decide +kernel) rfl (Nat.le_of_ble_eq_true rfl) (ls := [some (.ref (b)), some (.int (n)), none]) (by exact (And.intro rfl (And.intro rfl True.intro))) ?_
  refine x_iload_n rfl d_X8_parts_0 ?_
  refine x_iconst (v := -1) (by decide) d_X8_parts_1 ?_
  refine x_icmp_lt (tgt := 11) d_X8_parts_2 (by decide) (fun c_1 => ?_) (fun c_1 => ?_)
  · refine x_iconst (v := nI 0) (by decide) d_X8_parts_11 ?_
    exact x_ireturn d_X8_parts_12 rfl (by first | rfl | exact nB_nar _ | exact nB_nar1 (by omega)) rfl rfl (Nat.zero_le _) (Nat.zero_le _) (⟨rfl, rfl⟩)
  · refine x_iload_n rfl d_X8_parts_5 ?_
    refine x_bipush (v := nI 101) (by decide) d_X8_parts_6 ?_
    refine x_icmp_le (tgt := 13) d_X8_parts_8 (by decide) (fun c_2 => by exfalso; exact hn ⟨Int32.not_lt.mp c_1, c_2⟩) (fun c_2 => ?_)
    refine x_iconst (v := nI 0) (by decide) d_X8_parts_11 ?_
    exact x_ireturn d_X8_parts_12 rfl (by first | rfl | exact nB_nar _ | exact nB_nar1 (by omega)) rfl rfl (Nat.zero_le _) (Nat.zero_le _) (⟨rfl, rfl⟩)
theorem lp_mparts {h0 : nPH} {b : Nat} {M : Nat → Nat → Nat} {m : Nat} : ∀ n k : Nat, k + n = 101 → ∀ h : nPH, nFr (nIv b 24) h0 h → o8 h b (mZe M m k) → nG YX8_parts (nKy YX8_parts h0.1 h0.2.1 (fun v h2 => v = some (.int (nI 1)) ∧ nFr (nIv b 24) h0 h2 ∧ o8 h2 b (mZe M m 101))) 0 0 20 [some (.ref (b)), some (.int (nV m)), some (.int (nI (k)))] [] h := by
  intro n
  induction n with
  | zero =>
    intro k hk h F H
    have e : k = 101 := by omega
    subst e
    refine x_iload_n rfl d_X8_parts_20 ?_
    refine x_bipush (v := nI 101) (by decide) d_X8_parts_21 ?_
    refine x_icmp_geN (tgt := 39) d_X8_parts_23 (by decide) (by omega) (by omega) (fun c_1 => ?_) (fun c_1 => by exfalso; omega)
    refine x_iconst (v := nI 1) (by decide) d_X8_parts_39 ?_
    exact x_ireturn d_X8_parts_40 rfl (by first | rfl | exact nB_nar _ | exact nB_nar1 (by omega)) F.1 F.2.1 (Nat.zero_le _) (Nat.zero_le _) (⟨rfl, F, H⟩)
  | succ n ih =>
    intro k hk h F H
    refine x_iload_n rfl d_X8_parts_20 ?_
    refine x_bipush (v := nI 101) (by decide) d_X8_parts_21 ?_
    refine x_icmp_geN (tgt := 39) d_X8_parts_23 (by decide) (by omega) (by omega) (fun c_1 => by exfalso; omega) (fun c_1 => ?_)
    refine x_aload_n rfl d_X8_parts_26 ?_
    refine x_getf co_all (v := .ref (b + 15)) d_X8_parts_27 fk_8_57 (o8_o H) rfl ?_
    refine x_iload_n rfl d_X8_parts_30 ?_
    refine x_iconst (v := nI 0) (by decide) d_X8_parts_31 ?_
    refine x_iastore d_X8_parts_32 (o8_17 H) (nIx_nI (j := k) (by omega) (by decide)) (Nat.le_trans (o8_B H) (Nat.le_add_right _ _)) ?_
    have H2_8 := o8_ast17 (k) (0) H
    have f_3 := o8_f17 (k) (0) H (F) (by exact ⟨by omega, by omega⟩)
    refine x_iincN (m := 1) d_X8_parts_33 rfl (by decide) (Nat.le_of_ble_eq_true rfl) ?_
    refine x_goto (tgt := 20) d_X8_parts_36 (by decide) ?_
    exact ih (k + 1) (by omega) _ f_3 (o8_cg H2_8 (mZe_s M m k))
theorem md_parts {h : nPH} {b : Nat} {M V : Nat → Nat → Nat} {P : Nat → Nat → Nat → Nat} {R : Nat → Nat → Nat → Nat → Nat} {E Y T S : Nat → Nat → Nat} (H : o8 h b M) (W : rW M V P R E Y T S) (O : kO V P R) {m : Nat} (hm : m ≤ 102) : nWv YX8_parts [.ref b, .int (nV m)] h (some (.int (nI 1))) (fun h2 => nFr (nIv b 24) h h2 ∧ ∃ M2, o8 h2 b M2 ∧ rW M2 (pZe V m) P R E Y T S) := by
  have W1 : rW (mZe M m 101) (pZe V m) P R E Y T S := rW_out W (fun f i h1 h2 => by
      unfold mZe
      rw [if_neg (by omega), u2_ne (by omega)]) (by unfold mZe; rw [if_neg (by omega), u2_ne (by omega)]) (by unfold pZe; rw [if_neg (by omega), if_neg (by omega)]) ⟨by unfold mZe pZe; rw [if_neg (by omega), u2_eq, if_pos ⟨rfl, rfl⟩], fun i hi => by unfold mZe pZe; rw [if_pos ⟨rfl, hi⟩, if_neg (by omega), if_pos ⟨rfl, hi⟩]⟩ W.2.2.1 W.2.2.2.1 W.2.2.2.2.1 W.2.2.2.2.2
  refine nSp.mono (P := fun v h2 => v = some (.int (nI 1)) ∧ nFr (nIv b 24) h h2 ∧ o8 h2 b (mZe M m 101)) ?_ (fun v h2 z => ⟨z.1, z.2.1, _, z.2.2, W1⟩)
  refine nSp_of (by decide +kernel) rfl (Nat.le_of_ble_eq_true rfl) (ls := [some (.ref (b)), some (.int (nV m)), none]) (by exact (And.intro rfl (And.intro rfl True.intro))) ?_
  refine x_iload_n rfl d_X8_parts_0 ?_
  refine x_iconst (v := -1) (by decide) d_X8_parts_1 ?_
  refine x_icmp_lt (tgt := 11) d_X8_parts_2 (by decide) (fun c_1 => by exfalso; exact nV_lt (by omega) c_1) (fun c_1 => ?_)
  refine x_iload_n rfl d_X8_parts_5 ?_
  refine x_bipush (v := nI 101) (by decide) d_X8_parts_6 ?_
  refine x_icmp_le (tgt := 13) d_X8_parts_8 (by decide) (fun c_2 => ?_) (fun c_2 => by exfalso; have := (nV_le (m := m) (n := 101) (by omega) (by omega)).mpr (by omega); exact c_2 this)
  refine x_aload_n rfl d_X8_parts_13 ?_
  refine x_iload_n rfl d_X8_parts_14 ?_
  refine x_putf co_all d_X8_parts_15 fk_8_85 ft_8_16 (o8_o H) (Nat.le_of_ble_eq_true rfl) rfl rfl (o8_B H) ?_
  have H3_8 := o8_put16 (m) H
  have f_4 := o8_g16 (m) H ((nFr.rf (S := nIv b 24) (h := h))) (by exact ⟨by omega, by omega⟩)
  refine x_iconst (v := nI 0) (by decide) d_X8_parts_18 ?_
  refine x_istore_n d_X8_parts_19 (Nat.le_of_ble_eq_true rfl) ?_
  exact lp_mparts 101 0 (by omega) _ f_4 (o8_cg H3_8 (mZe_0 M m))
theorem md_partI {h : nPH} {b : Nat} {M V : Nat → Nat → Nat} {P : Nat → Nat → Nat → Nat} {R : Nat → Nat → Nat → Nat → Nat} {E Y T S : Nat → Nat → Nat} (H : o8 h b M) (W : rW M V P R E Y T S) (O : kO V P R) {i v : Int32} (hi : ¬ ∃ j : Nat, i = nI j ∧ j + 1 < V 3 0) : nRd YX8_part [.ref (b), .int (i), .int (v)] h (.int (nI 0)) := by
  refine nSp_of (by decide +kernel) rfl (Nat.le_of_ble_eq_true rfl) (ls := [some (.ref (b)), some (.int (i)), some (.int (v))]) (by exact (And.intro rfl (And.intro rfl (And.intro rfl True.intro)))) ?_
  refine x_iload_n rfl d_X8_part_0 ?_
  refine x_if_lt (tgt := 22) d_X8_part_1 (by decide) (fun c_1 => ?_) (fun c_1 => ?_)
  · refine x_iconst (v := nI 0) (by decide) d_X8_part_22 ?_
    exact x_ireturn d_X8_part_23 rfl (by first | rfl | exact nB_nar _ | exact nB_nar1 (by omega)) rfl rfl (Nat.zero_le _) (Nat.zero_le _) (⟨rfl, rfl⟩)
  · refine x_iload_n rfl d_X8_part_4 ?_
    refine x_aload_n rfl d_X8_part_5 ?_
    refine x_getf co_all (v := .int (nV (M 16 0))) d_X8_part_6 fk_8_85 (o8_o H) rfl ?_
    refine x_icmp_ge (tgt := 22) d_X8_part_9 (by decide) (fun c_2 => ?_) (fun c_2 => by exfalso; rw [W.1.2.1] at c_2; exact hi (pt_x O.2.1 c_1 c_2))
    refine x_iconst (v := nI 0) (by decide) d_X8_part_22 ?_
    exact x_ireturn d_X8_part_23 rfl (by first | rfl | exact nB_nar _ | exact nB_nar1 (by omega)) rfl rfl (Nat.zero_le _) (Nat.zero_le _) (⟨rfl, rfl⟩)
theorem md_partV {h : nPH} {b : Nat} {M V : Nat → Nat → Nat} {P : Nat → Nat → Nat → Nat} {R : Nat → Nat → Nat → Nat → Nat} {E Y T S : Nat → Nat → Nat} (H : o8 h b M) (W : rW M V P R E Y T S) (O : kO V P R) {j : Nat} (hj : j + 1 < V 3 0) {u : Int32} (hu : ¬ (nI 0 ≤ u ∧ u ≤ nI 100)) : nRd YX8_part [.ref (b), .int (nI (j)), .int (u)] h (.int (nI 0)) := by
  have v2 := O.2.1
  refine nSp_of (by decide +kernel) rfl (Nat.le_of_ble_eq_true rfl) (ls := [some (.ref (b)), some (.int (nI (j))), some (.int (u))]) (by exact (And.intro rfl (And.intro rfl (And.intro rfl True.intro)))) ?_
  refine x_iload_n rfl d_X8_part_0 ?_
  refine x_if_ltN (tgt := 22) d_X8_part_1 (by decide) (by omega) (fun c_1 => by exfalso; omega) (fun c_1 => ?_)
  refine x_iload_n rfl d_X8_part_4 ?_
  refine x_aload_n rfl d_X8_part_5 ?_
  refine x_getf co_all (v := .int (nV (M 16 0))) d_X8_part_6 fk_8_85 (o8_o H) rfl ?_
  refine x_icmp_ge (tgt := 22) d_X8_part_9 (by decide) (fun c_2 => by exfalso; rw [W.1.2.1] at c_2; have := (le_V (by omega) (by omega)).mp c_2; omega) (fun c_2 => ?_)
  refine x_iload_n rfl d_X8_part_12 ?_
  refine x_if_lt (tgt := 22) d_X8_part_13 (by decide) (fun c_3 => ?_) (fun c_3 => ?_)
  · refine x_iconst (v := nI 0) (by decide) d_X8_part_22 ?_
    exact x_ireturn d_X8_part_23 rfl (by first | rfl | exact nB_nar _ | exact nB_nar1 (by omega)) rfl rfl (Nat.zero_le _) (Nat.zero_le _) (⟨rfl, rfl⟩)
  · refine x_iload_n rfl d_X8_part_16 ?_
    refine x_bipush (v := nI 100) (by decide) d_X8_part_17 ?_
    refine x_icmp_le (tgt := 24) d_X8_part_19 (by decide) (fun c_4 => by exfalso; exact hu ⟨Int32.not_lt.mp c_3, c_4⟩) (fun c_4 => ?_)
    refine x_iconst (v := nI 0) (by decide) d_X8_part_22 ?_
    exact x_ireturn d_X8_part_23 rfl (by first | rfl | exact nB_nar _ | exact nB_nar1 (by omega)) rfl rfl (Nat.zero_le _) (Nat.zero_le _) (⟨rfl, rfl⟩)
theorem md_part {h : nPH} {b : Nat} {M V : Nat → Nat → Nat} {P : Nat → Nat → Nat → Nat} {R : Nat → Nat → Nat → Nat → Nat} {E Y T S : Nat → Nat → Nat} (H : o8 h b M) (W : rW M V P R E Y T S) (O : kO V P R) {j : Nat} (hj : j + 1 < V 3 0) {u : Nat} (hu : u ≤ 100) : nWv YX8_part [.ref (b), .int (nI (j)), .int (nI (u))] h (some (.int (nI 1))) (fun h2 => nFr (nIv b 24) h h2 ∧ ∃ M2, o8 h2 b M2 ∧ rW M2 (u2 V 2 j u) P R E Y T S) := by
  have v2 := O.2.1
  have W1 : rW (u2 M 17 j u) (u2 V 2 j u) P R E Y T S := rW_out W (fun f i h1 h2 => u2_ne (by omega)) (u2_ne (by omega)) (u2_ne (by omega)) ⟨by rw [u2_ne (by omega), u2_ne (by omega)]; exact W.1.2.1, fun i hi => by
      by_cases e : i = j
      · subst e; rw [u2_eq, u2_eq]
      · rw [u2_ne (by omega), u2_ne (by omega)]; exact W.1.2.2 i hi⟩ W.2.2.1 W.2.2.2.1 W.2.2.2.2.1 W.2.2.2.2.2
  refine nSp_of (by decide +kernel) rfl (Nat.le_of_ble_eq_true rfl) (ls := [some (.ref (b)), some (.int (nI (j))), some (.int (nI (u)))]) (by exact (And.intro rfl (And.intro rfl (And.intro rfl True.intro)))) ?_
  refine x_iload_n rfl d_X8_part_0 ?_
  refine x_if_ltN (tgt := 22) d_X8_part_1 (by decide) (by omega) (fun c_1 => by exfalso; omega) (fun c_1 => ?_)
  refine x_iload_n rfl d_X8_part_4 ?_
  refine x_aload_n rfl d_X8_part_5 ?_
  refine x_getf co_all (v := .int (nV (M 16 0))) d_X8_part_6 fk_8_85 (o8_o H) rfl ?_
  refine x_icmp_ge (tgt := 22) d_X8_part_9 (by decide) (fun c_2 => by exfalso; rw [W.1.2.1] at c_2; have := (le_V (by omega) (by omega)).mp c_2; omega) (fun c_2 => ?_)
  refine x_iload_n rfl d_X8_part_12 ?_
  refine x_if_ltN (tgt := 22) d_X8_part_13 (by decide) (by omega) (fun c_3 => by exfalso; omega) (fun c_3 => ?_)
  refine x_iload_n rfl d_X8_part_16 ?_
  refine x_bipush (v := nI 100) (by decide) d_X8_part_17 ?_
  refine x_icmp_leN (tgt := 24) d_X8_part_19 (by decide) (by omega) (by omega) (fun c_4 => ?_) (fun c_4 => by exfalso; omega)
  refine x_aload_n rfl d_X8_part_24 ?_
  refine x_getf co_all (v := .ref (b + 15)) d_X8_part_25 fk_8_57 (o8_o H) rfl ?_
  refine x_iload_n rfl d_X8_part_28 ?_
  refine x_iload_n rfl d_X8_part_29 ?_
  refine x_iastore d_X8_part_30 (o8_17 H) (nIx_nI (j := j) (by omega) (by decide)) (Nat.le_trans (o8_B H) (Nat.le_add_right _ _)) ?_
  have H5_8 := o8_ast17 (j) (u) H
  have f_6 := o8_f17 (j) (u) H ((nFr.rf (S := nIv b 24) (h := h))) (by exact ⟨by omega, by omega⟩)
  refine x_iconst (v := nI 1) (by decide) d_X8_part_31 ?_
  exact x_ireturn d_X8_part_32 rfl (by first | rfl | exact nB_nar _ | exact nB_nar1 (by omega)) (f_6).1 (f_6).2.1 (Nat.zero_le _) (Nat.zero_le _) (⟨rfl, f_6, _, H5_8, W1⟩)
