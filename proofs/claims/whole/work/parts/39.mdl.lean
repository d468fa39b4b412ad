/-! the model: its first words -/
theorem nIn_g2 {s : Int32} {n : Nat} (h1 : ¬ s < 0) (h2 : ¬ nI n ≤ s) (hn : n < 2 ^ 31) : nIn s n := nIn_ge h1 (by
  rw [Int32.lt_iff_toInt_lt]
  rw [Int32.le_iff_toInt_le] at h2
  omega) hn
theorem sp_isPanel {h : nPH} {b : Nat} {M : Nat → Nat → Nat} (H : o8 h b M) (hn : M 1 0 ≤ 12) {p : Nat} (hp : p < M 1 0) : nRd YX8_isPanel [.ref (b), .int (nI (p))] h (.int (nI 1)) := by
  refine nSp_of (by decide +kernel) rfl (Nat.le_of_ble_eq_true rfl) (ls := [some (.ref (b)), some (.int (nI (p)))]) (by exact (And.intro rfl (And.intro rfl True.intro))) ?_
  refine x_iload_n rfl d_X8_isPanel_0 ?_
  refine x_if_ltN (tgt := 16) d_X8_isPanel_1 (by decide) (by omega) (fun c_1 => by exfalso; omega) (fun c_1 => ?_)
  refine x_iload_n rfl d_X8_isPanel_4 ?_
  refine x_aload_n rfl d_X8_isPanel_5 ?_
  refine x_getf co_all (v := .int (nI (M 1 0))) d_X8_isPanel_6 fk_8_88 (o8_o H) rfl ?_
  refine x_icmp_geN (tgt := 16) d_X8_isPanel_9 (by decide) (by omega) (by omega) (fun c_2 => by exfalso; omega) (fun c_2 => ?_)
  refine x_iconst (v := nI 1) (by decide) d_X8_isPanel_12 ?_
  refine x_goto (tgt := 17) d_X8_isPanel_13 (by decide) ?_
  exact x_ireturn d_X8_isPanel_17 rfl (by first | rfl | exact nB_nar _ | exact nB_nar1 (by omega)) rfl rfl (Nat.zero_le _) (Nat.zero_le _) (⟨rfl, rfl⟩)
theorem sp_isPanelN {h : nPH} {b : Nat} {M : Nat → Nat → Nat} (H : o8 h b M) (hn : M 1 0 ≤ 12) {p : Int32} (hp : ¬ nIn p (M 1 0)) : nRd YX8_isPanel [.ref (b), .int (p)] h (.int (nI 0)) := by
  refine nSp_of (by decide +kernel) rfl (Nat.le_of_ble_eq_true rfl) (ls := [some (.ref (b)), some (.int (p))]) (by exact (And.intro rfl (And.intro rfl True.intro))) ?_
  refine x_iload_n rfl d_X8_isPanel_0 ?_
  refine x_if_lt (tgt := 16) d_X8_isPanel_1 (by decide) (fun c_1 => ?_) (fun c_1 => ?_)
  · refine x_iconst (v := nI 0) (by decide) d_X8_isPanel_16 ?_
    exact x_ireturn d_X8_isPanel_17 rfl (by first | rfl | exact nB_nar _ | exact nB_nar1 (by omega)) rfl rfl (Nat.zero_le _) (Nat.zero_le _) (⟨rfl, rfl⟩)
  · refine x_iload_n rfl d_X8_isPanel_4 ?_
    refine x_aload_n rfl d_X8_isPanel_5 ?_
    refine x_getf co_all (v := .int (nI (M 1 0))) d_X8_isPanel_6 fk_8_88 (o8_o H) rfl ?_
    refine x_icmp_ge (tgt := 16) d_X8_isPanel_9 (by decide) (fun c_2 => ?_) (fun c_2 => by exfalso; exact hp (nIn_g2 c_1 c_2 (by omega)))
    refine x_iconst (v := nI 0) (by decide) d_X8_isPanel_16 ?_
    exact x_ireturn d_X8_isPanel_17 rfl (by first | rfl | exact nB_nar _ | exact nB_nar1 (by omega)) rfl rfl (Nat.zero_le _) (Nat.zero_le _) (⟨rfl, rfl⟩)
theorem sp_isRow {h : nPH} {b : Nat} {M : Nat → Nat → Nat} (H : o8 h b M) (hn : M 1 0 ≤ 12) {p : Nat} (hp : p < M 1 0) {r : Nat} (hr : r < M 2 p) (h20 : M 2 p ≤ 20) : nRd YX8_isRow [.ref (b), .int (nI (p)), .int (nI (r))] h (.int (nI 1)) := by
  refine nSp_of (by decide +kernel) rfl (Nat.le_of_ble_eq_true rfl) (ls := [some (.ref (b)), some (.int (nI (p))), some (.int (nI (r)))]) (by exact (And.intro rfl (And.intro rfl (And.intro rfl True.intro)))) ?_
  refine x_aload_n rfl d_X8_isRow_0 ?_
  refine x_iload_n rfl d_X8_isRow_1 ?_
  refine x_rdV d_X8_isRow_2 lk_8_91 mo_X8_isPanel vi_X8_isPanel (sp_isPanel H hn hp) (o8_o H) ⟨_, rfl, rfl⟩ rfl ⟨Nat.le_of_ble_eq_true rfl, Nat.le_of_ble_eq_true rfl⟩ rfl rfl (Nat.zero_le _) (Nat.zero_le _) (Nat.le_of_ble_eq_true rfl) rfl ?_
  refine x_if_eqN (tgt := 26) d_X8_isRow_5 (by decide) (by omega) (fun c_1 => by exfalso; omega) (fun c_1 => ?_)
  refine x_iload_n rfl d_X8_isRow_8 ?_
  refine x_if_ltN (tgt := 26) d_X8_isRow_9 (by decide) (by omega) (fun c_2 => by exfalso; omega) (fun c_2 => ?_)
  refine x_iload_n rfl d_X8_isRow_12 ?_
  refine x_aload_n rfl d_X8_isRow_13 ?_
  refine x_getf co_all (v := .ref (b + 1)) d_X8_isRow_14 fk_8_13 (o8_o H) rfl ?_
  refine x_iload_n rfl d_X8_isRow_17 ?_
  refine x_iaload d_X8_isRow_18 (o8_2 H) (nIx_nI (j := p) (by omega) (by decide)) ?_
  refine x_icmp_geN (tgt := 26) d_X8_isRow_19 (by decide) (by omega) (by omega) (fun c_3 => by exfalso; omega) (fun c_3 => ?_)
  refine x_iconst (v := nI 1) (by decide) d_X8_isRow_22 ?_
  refine x_goto (tgt := 27) d_X8_isRow_23 (by decide) ?_
  exact x_ireturn d_X8_isRow_27 rfl (by first | rfl | exact nB_nar _ | exact nB_nar1 (by omega)) rfl rfl (Nat.zero_le _) (Nat.zero_le _) (⟨rfl, rfl⟩)
theorem sp_isRowP {h : nPH} {b : Nat} {M : Nat → Nat → Nat} (H : o8 h b M) (hn : M 1 0 ≤ 12) {p r : Int32} (hp : ¬ nIn p (M 1 0)) : nRd YX8_isRow [.ref (b), .int (p), .int (r)] h (.int (nI 0)) := by
  refine nSp_of (by decide +kernel) rfl (Nat.le_of_ble_eq_true rfl) (ls := [some (.ref (b)), some (.int (p)), some (.int (r))]) (by exact (And.intro rfl (And.intro rfl (And.intro rfl True.intro)))) ?_
  refine x_aload_n rfl d_X8_isRow_0 ?_
  refine x_iload_n rfl d_X8_isRow_1 ?_
  refine x_rdV d_X8_isRow_2 lk_8_91 mo_X8_isPanel vi_X8_isPanel (sp_isPanelN H hn hp) (o8_o H) ⟨_, rfl, rfl⟩ rfl ⟨Nat.le_of_ble_eq_true rfl, Nat.le_of_ble_eq_true rfl⟩ rfl rfl (Nat.zero_le _) (Nat.zero_le _) (Nat.le_of_ble_eq_true rfl) rfl ?_
  refine x_if_eqN (tgt := 26) d_X8_isRow_5 (by decide) (by omega) (fun c_1 => ?_) (fun c_1 => by exfalso; omega)
  refine x_iconst (v := nI 0) (by decide) d_X8_isRow_26 ?_
  exact x_ireturn d_X8_isRow_27 rfl (by first | rfl | exact nB_nar _ | exact nB_nar1 (by omega)) rfl rfl (Nat.zero_le _) (Nat.zero_le _) (⟨rfl, rfl⟩)
theorem sp_isRowR {h : nPH} {b : Nat} {M : Nat → Nat → Nat} (H : o8 h b M) (hn : M 1 0 ≤ 12) {p : Nat} (hp : p < M 1 0) {r : Int32} (hr : ¬ nIn r (M 2 p)) (h20 : M 2 p ≤ 20) : nRd YX8_isRow [.ref (b), .int (nI (p)), .int (r)] h (.int (nI 0)) := by
  refine nSp_of (by decide +kernel) rfl (Nat.le_of_ble_eq_true rfl) (ls := [some (.ref (b)), some (.int (nI (p))), some (.int (r))]) (by exact (And.intro rfl (And.intro rfl (And.intro rfl True.intro)))) ?_
  refine x_aload_n rfl d_X8_isRow_0 ?_
  refine x_iload_n rfl d_X8_isRow_1 ?_
  refine x_rdV d_X8_isRow_2 lk_8_91 mo_X8_isPanel vi_X8_isPanel (sp_isPanel H hn hp) (o8_o H) ⟨_, rfl, rfl⟩ rfl ⟨Nat.le_of_ble_eq_true rfl, Nat.le_of_ble_eq_true rfl⟩ rfl rfl (Nat.zero_le _) (Nat.zero_le _) (Nat.le_of_ble_eq_true rfl) rfl ?_
  refine x_if_eqN (tgt := 26) d_X8_isRow_5 (by decide) (by omega) (fun c_1 => by exfalso; omega) (fun c_1 => ?_)
  refine x_iload_n rfl d_X8_isRow_8 ?_
  refine x_if_lt (tgt := 26) d_X8_isRow_9 (by decide) (fun c_2 => ?_) (fun c_2 => ?_)
  · refine x_iconst (v := nI 0) (by decide) d_X8_isRow_26 ?_
    exact x_ireturn d_X8_isRow_27 rfl (by first | rfl | exact nB_nar _ | exact nB_nar1 (by omega)) rfl rfl (Nat.zero_le _) (Nat.zero_le _) (⟨rfl, rfl⟩)
  · refine x_iload_n rfl d_X8_isRow_12 ?_
    refine x_aload_n rfl d_X8_isRow_13 ?_
    refine x_getf co_all (v := .ref (b + 1)) d_X8_isRow_14 fk_8_13 (o8_o H) rfl ?_
    refine x_iload_n rfl d_X8_isRow_17 ?_
    refine x_iaload d_X8_isRow_18 (o8_2 H) (nIx_nI (j := p) (by omega) (by decide)) ?_
    refine x_icmp_ge (tgt := 26) d_X8_isRow_19 (by decide) (fun c_3 => ?_) (fun c_3 => by exfalso; exact hr (nIn_g2 c_2 c_3 (by omega)))
    refine x_iconst (v := nI 0) (by decide) d_X8_isRow_26 ?_
    exact x_ireturn d_X8_isRow_27 rfl (by first | rfl | exact nB_nar _ | exact nB_nar1 (by omega)) rfl rfl (Nat.zero_le _) (Nat.zero_le _) (⟨rfl, rfl⟩)
theorem sp_isKnot {h : nPH} {b : Nat} {M : Nat → Nat → Nat} (H : o8 h b M) (hn : M 1 0 ≤ 12) {p : Nat} (hp : p < M 1 0) {r : Nat} (hr : r < M 2 p) (h20 : M 2 p ≤ 20) {k : Nat} (hk : k < M 8 (20 * p + r)) (h24 : M 8 (20 * p + r) ≤ 24) : nRd YX8_isKnot [.ref (b), .int (nI (p)), .int (nI (r)), .int (nI (k))] h (.int (nI 1)) := by
  refine nSp_of (by decide +kernel) rfl (Nat.le_of_ble_eq_true rfl) (ls := [some (.ref (b)), some (.int (nI (p))), some (.int (nI (r))), some (.int (nI (k)))]) (by exact (And.intro rfl (And.intro rfl (And.intro rfl (And.intro rfl True.intro))))) ?_
  refine x_aload_n rfl d_X8_isKnot_0 ?_
  refine x_iload_n rfl d_X8_isKnot_1 ?_
  refine x_iload_n rfl d_X8_isKnot_2 ?_
  refine x_rdV d_X8_isKnot_3 lk_8_95 mo_X8_isRow vi_X8_isRow (sp_isRow H hn hp hr h20) (o8_o H) ⟨_, rfl, rfl⟩ rfl ⟨Nat.le_of_ble_eq_true rfl, Nat.le_of_ble_eq_true rfl⟩ rfl rfl (Nat.zero_le _) (Nat.zero_le _) (Nat.le_of_ble_eq_true rfl) rfl ?_
  refine x_if_eqN (tgt := 32) d_X8_isKnot_6 (by decide) (by omega) (fun c_1 => by exfalso; omega) (fun c_1 => ?_)
  refine x_iload_n rfl d_X8_isKnot_9 ?_
  refine x_if_ltN (tgt := 32) d_X8_isKnot_10 (by decide) (by omega) (fun c_2 => by exfalso; omega) (fun c_2 => ?_)
  refine x_iload_n rfl d_X8_isKnot_13 ?_
  refine x_aload_n rfl d_X8_isKnot_14 ?_
  refine x_getf co_all (v := .ref (b + 7)) d_X8_isKnot_15 fk_8_32 (o8_o H) rfl ?_
  refine x_bipush (v := nI 20) (by decide) d_X8_isKnot_18 ?_
  refine x_iload_n rfl d_X8_isKnot_20 ?_
  refine x_imulN d_X8_isKnot_21 ?_
  refine x_iload_n rfl d_X8_isKnot_22 ?_
  refine x_iaddN d_X8_isKnot_23 ?_
  refine x_iaload d_X8_isKnot_24 (o8_8 H) (nIx_nI (j := (20 * p) + r) (by omega) (by decide)) ?_
  refine x_icmp_geN (tgt := 32) d_X8_isKnot_25 (by decide) (by omega) (by omega) (fun c_3 => by exfalso; omega) (fun c_3 => ?_)
  refine x_iconst (v := nI 1) (by decide) d_X8_isKnot_28 ?_
  refine x_goto (tgt := 33) d_X8_isKnot_29 (by decide) ?_
  exact x_ireturn d_X8_isKnot_33 rfl (by first | rfl | exact nB_nar _ | exact nB_nar1 (by omega)) rfl rfl (Nat.zero_le _) (Nat.zero_le _) (⟨rfl, rfl⟩)
theorem sp_isKnotP {h : nPH} {b : Nat} {M : Nat → Nat → Nat} (H : o8 h b M) (hn : M 1 0 ≤ 12) {p r k : Int32} (hp : ¬ nIn p (M 1 0)) : nRd YX8_isKnot [.ref (b), .int (p), .int (r), .int (k)] h (.int (nI 0)) := by
  refine nSp_of (by decide +kernel) rfl (Nat.le_of_ble_eq_true rfl) (ls := [some (.ref (b)), some (.int (p)), some (.int (r)), some (.int (k))]) (by exact (And.intro rfl (And.intro rfl (And.intro rfl (And.intro rfl True.intro))))) ?_
  refine x_aload_n rfl d_X8_isKnot_0 ?_
  refine x_iload_n rfl d_X8_isKnot_1 ?_
  refine x_iload_n rfl d_X8_isKnot_2 ?_
  refine x_rdV d_X8_isKnot_3 lk_8_95 mo_X8_isRow vi_X8_isRow (sp_isRowP H hn hp) (o8_o H) ⟨_, rfl, rfl⟩ rfl ⟨Nat.le_of_ble_eq_true rfl, Nat.le_of_ble_eq_true rfl⟩ rfl rfl (Nat.zero_le _) (Nat.zero_le _) (Nat.le_of_ble_eq_true rfl) rfl ?_
  refine x_if_eqN (tgt := 32) d_X8_isKnot_6 (by decide) (by omega) (fun c_1 => ?_) (fun c_1 => by exfalso; omega)
  refine x_iconst (v := nI 0) (by decide) d_X8_isKnot_32 ?_
  exact x_ireturn d_X8_isKnot_33 rfl (by first | rfl | exact nB_nar _ | exact nB_nar1 (by omega)) rfl rfl (Nat.zero_le _) (Nat.zero_le _) (⟨rfl, rfl⟩)
theorem sp_isKnotR {h : nPH} {b : Nat} {M : Nat → Nat → Nat} (H : o8 h b M) (hn : M 1 0 ≤ 12) {p : Nat} (hp : p < M 1 0) {r k : Int32} (hr : ¬ nIn r (M 2 p)) (h20 : M 2 p ≤ 20) : nRd YX8_isKnot [.ref (b), .int (nI (p)), .int (r), .int (k)] h (.int (nI 0)) := by
  refine nSp_of (by decide +kernel) rfl (Nat.le_of_ble_eq_true rfl) (ls := [some (.ref (b)), some (.int (nI (p))), some (.int (r)), some (.int (k))]) (by exact (And.intro rfl (And.intro rfl (And.intro rfl (And.intro rfl True.intro))))) ?_
  refine x_aload_n rfl d_X8_isKnot_0 ?_
  refine x_iload_n rfl d_X8_isKnot_1 ?_
  refine x_iload_n rfl d_X8_isKnot_2 ?_
  refine x_rdV d_X8_isKnot_3 lk_8_95 mo_X8_isRow vi_X8_isRow (sp_isRowR H hn hp hr h20) (o8_o H) ⟨_, rfl, rfl⟩ rfl ⟨Nat.le_of_ble_eq_true rfl, Nat.le_of_ble_eq_true rfl⟩ rfl rfl (Nat.zero_le _) (Nat.zero_le _) (Nat.le_of_ble_eq_true rfl) rfl ?_
  refine x_if_eqN (tgt := 32) d_X8_isKnot_6 (by decide) (by omega) (fun c_1 => ?_) (fun c_1 => by exfalso; omega)
  refine x_iconst (v := nI 0) (by decide) d_X8_isKnot_32 ?_
  exact x_ireturn d_X8_isKnot_33 rfl (by first | rfl | exact nB_nar _ | exact nB_nar1 (by omega)) rfl rfl (Nat.zero_le _) (Nat.zero_le _) (⟨rfl, rfl⟩)
theorem sp_isKnotK {h : nPH} {b : Nat} {M : Nat → Nat → Nat} (H : o8 h b M) (hn : M 1 0 ≤ 12) {p : Nat} (hp : p < M 1 0) {r : Nat} (hr : r < M 2 p) (h20 : M 2 p ≤ 20) {k : Int32} (hk : ¬ nIn k (M 8 (20 * p + r))) (h24 : M 8 (20 * p + r) ≤ 24) : nRd YX8_isKnot [.ref (b), .int (nI (p)), .int (nI (r)), .int (k)] h (.int (nI 0)) := by
  refine nSp_of (by decide +kernel) rfl (Nat.le_of_ble_eq_true rfl) (ls := [some (.ref (b)), some (.int (nI (p))), some (.int (nI (r))), some (.int (k))]) (by exact (And.intro rfl (And.intro rfl (And.intro rfl (And.intro rfl True.intro))))) ?_
  refine x_aload_n rfl d_X8_isKnot_0 ?_
  refine x_iload_n rfl d_X8_isKnot_1 ?_
  refine x_iload_n rfl d_X8_isKnot_2 ?_
  refine x_rdV d_X8_isKnot_3 lk_8_95 mo_X8_isRow vi_X8_isRow (sp_isRow H hn hp hr h20) (o8_o H) ⟨_, rfl, rfl⟩ rfl ⟨Nat.le_of_ble_eq_true rfl, Nat.le_of_ble_eq_true rfl⟩ rfl rfl (Nat.zero_le _) (Nat.zero_le _) (Nat.le_of_ble_eq_true rfl) rfl ?_
  refine x_if_eqN (tgt := 32) d_X8_isKnot_6 (by decide) (by omega) (fun c_1 => by exfalso; omega) (fun c_1 => ?_)
  refine x_iload_n rfl d_X8_isKnot_9 ?_
  refine x_if_lt (tgt := 32) d_X8_isKnot_10 (by decide) (fun c_2 => ?_) (fun c_2 => ?_)
  · refine x_iconst (v := nI 0) (by decide) d_X8_isKnot_32 ?_
    exact x_ireturn d_X8_isKnot_33 rfl (by first | rfl | exact nB_nar _ | exact nB_nar1 (by omega)) rfl rfl (Nat.zero_le _) (Nat.zero_le _) (⟨rfl, rfl⟩)
  · refine x_iload_n rfl d_X8_isKnot_13 ?_
    refine x_aload_n rfl d_X8_isKnot_14 ?_
    refine x_getf co_all (v := .ref (b + 7)) d_X8_isKnot_15 fk_8_32 (o8_o H) rfl ?_
    refine x_bipush (v := nI 20) (by decide) d_X8_isKnot_18 ?_
    refine x_iload_n rfl d_X8_isKnot_20 ?_
    refine x_imulN d_X8_isKnot_21 ?_
    refine x_iload_n rfl d_X8_isKnot_22 ?_
    refine x_iaddN d_X8_isKnot_23 ?_
    refine x_iaload d_X8_isKnot_24 (o8_8 H) (nIx_nI (j := (20 * p) + r) (by omega) (by decide)) ?_
    refine x_icmp_ge (tgt := 32) d_X8_isKnot_25 (by decide) (fun c_3 => ?_) (fun c_3 => by exfalso; exact hk (nIn_g2 c_2 c_3 (by omega)))
    refine x_iconst (v := nI 0) (by decide) d_X8_isKnot_32 ?_
    exact x_ireturn d_X8_isKnot_33 rfl (by first | rfl | exact nB_nar _ | exact nB_nar1 (by omega)) rfl rfl (Nat.zero_le _) (Nat.zero_le _) (⟨rfl, rfl⟩)
theorem sp_at {h : nPH} {p r k : Nat} : nRd YX8_at [.int (nI (p)), .int (nI (r)), .int (nI (k))] h (.int (nI (24 * (20 * p + r) + k))) := by
  refine nSp_of (by decide +kernel) rfl (Nat.le_of_ble_eq_true rfl) (ls := [some (.int (nI (p))), some (.int (nI (r))), some (.int (nI (k)))]) (by exact (And.intro rfl (And.intro rfl (And.intro rfl True.intro)))) ?_
  refine x_bipush (v := nI 24) (by decide) d_X8_at_0 ?_
  refine x_bipush (v := nI 20) (by decide) d_X8_at_2 ?_
  refine x_iload_n rfl d_X8_at_4 ?_
  refine x_imulN d_X8_at_5 ?_
  refine x_iload_n rfl d_X8_at_6 ?_
  refine x_iaddN d_X8_at_7 ?_
  refine x_imulN d_X8_at_8 ?_
  refine x_iload_n rfl d_X8_at_9 ?_
  refine x_iaddN d_X8_at_10 ?_
  exact x_ireturn d_X8_at_11 rfl rfl rfl rfl (Nat.zero_le _) (Nat.zero_le _) (⟨rfl, rfl⟩)
theorem lp_mbits {h : nPH} {g : Nat} (hg : g < 2 ^ 31) : ∀ n i : Nat, i + n = 24 → nG YX8_bits (nKy YX8_bits h.1 h.2.1 (fun v h2 => v = some (.int (nI (pcn g))) ∧ h2 = h)) 0 0 4 [some (.int (nI (g))), some (.int (nI (fb_ct (fun i => g.testBit i) i))), some (.int (nI (i)))] [] h := by
  intro n
  induction n with
  | zero =>
    intro i hi
    refine x_iload_n rfl d_X8_bits_4 ?_
    refine x_bipush (v := nI 24) (by decide) d_X8_bits_5 ?_
    refine x_icmp_geN (tgt := 24) d_X8_bits_7 (by decide) (by omega) (by omega) (fun c_1 => ?_) (fun c_1 => by exfalso; omega)
    refine x_iload_n rfl d_X8_bits_24 ?_
    exact x_ireturn d_X8_bits_25 rfl rfl rfl rfl (Nat.zero_le _) (Nat.zero_le _) (⟨by rw [show i = 24 by omega]; rfl, rfl⟩)
  | succ n ih =>
    intro i hi
    refine x_iload_n rfl d_X8_bits_4 ?_
    refine x_bipush (v := nI 24) (by decide) d_X8_bits_5 ?_
    refine x_icmp_geN (tgt := 24) d_X8_bits_7 (by decide) (by omega) (by omega) (fun c_1 => by exfalso; omega) (fun c_1 => ?_)
    refine x_iload_n rfl d_X8_bits_10 ?_
    refine x_iload_n rfl d_X8_bits_11 ?_
    refine x_iload_n rfl d_X8_bits_12 ?_
    refine x_ishr d_X8_bits_13 ?_
    refine x_iconst (v := nI 1) (by decide) d_X8_bits_14 ?_
    refine x_iand d_X8_bits_15 ?_
    rw [nI_bit hg (by omega)]
    refine x_iaddN d_X8_bits_16 ?_
    refine x_istore_n d_X8_bits_17 (Nat.le_of_ble_eq_true rfl) ?_
    refine x_iincN (m := 1) d_X8_bits_18 rfl (by decide) (Nat.le_of_ble_eq_true rfl) ?_
    refine x_goto (tgt := 4) d_X8_bits_21 (by decide) ?_
    exact nG.eq (by rw [fb_ct_succ]; rfl) rfl rfl rfl rfl (ih (i + 1) (by omega))
theorem sp_mbits {h : nPH} {g : Nat} (hg : g < 2 ^ 31) : nRd YX8_bits [.int (nI g)] h (.int (nI (pcn g))) := by
  refine nSp_of (by decide +kernel) rfl (Nat.le_of_ble_eq_true rfl) (ls := [some (.int (nI (g))), none, none]) (by exact (And.intro rfl True.intro)) ?_
  refine x_iconst (v := nI 0) (by decide) d_X8_bits_0 ?_
  refine x_istore_n d_X8_bits_1 (Nat.le_of_ble_eq_true rfl) ?_
  refine x_iconst (v := nI 0) (by decide) d_X8_bits_2 ?_
  refine x_istore_n d_X8_bits_3 (Nat.le_of_ble_eq_true rfl) ?_
  exact lp_mbits hg 24 0 (by omega)
theorem sp_mtwn {h : nPH} {s o : Nat} (hs : s < 2 ^ 31) (ho : o < 2 ^ 31) : nRd YX8_twines [.int (nI (s)), .int (nI (o))] h (.int (nI (twn s o))) := by
  refine nSp_of (by decide +kernel) rfl (Nat.le_of_ble_eq_true rfl) (ls := [some (.int (nI (s))), some (.int (nI (o)))]) (by exact (And.intro rfl (And.intro rfl True.intro))) ?_
  refine x_iload_n rfl d_X8_twines_0 ?_
  refine x_if_neN (tgt := 8) d_X8_twines_1 (by decide) (by omega) (fun c_1 => ?_) (fun c_1 => ?_)
  · refine x_iload_n rfl d_X8_twines_8 ?_
    refine x_if_neN (tgt := 16) d_X8_twines_9 (by decide) (by omega) (fun c_2 => ?_) (fun c_2 => ?_)
    · refine x_iload_n rfl d_X8_twines_16 ?_
      refine x_iconst (v := nI 2) (by decide) d_X8_twines_17 ?_
      refine x_idivN d_X8_twines_18 (by omega) (by omega) (by omega) ?_
      exact x_ireturn d_X8_twines_19 rfl rfl rfl rfl (Nat.zero_le _) (Nat.zero_le _) (⟨by unfold twn; rw [if_neg c_1, if_neg c_2], rfl⟩)
    · refine x_iconst (v := nI 1) (by decide) d_X8_twines_12 ?_
      refine x_goto (tgt := 19) d_X8_twines_13 (by decide) ?_
      exact x_ireturn d_X8_twines_19 rfl rfl rfl rfl (Nat.zero_le _) (Nat.zero_le _) (⟨by unfold twn; rw [if_neg c_1, if_pos c_2], rfl⟩)
  · refine x_iconst (v := nI 0) (by decide) d_X8_twines_4 ?_
    refine x_goto (tgt := 19) d_X8_twines_5 (by decide) ?_
    exact x_ireturn d_X8_twines_19 rfl rfl rfl rfl (Nat.zero_le _) (Nat.zero_le _) (⟨by unfold twn; rw [if_pos c_1], rfl⟩)
theorem lp_sixth {h : nPH} {r : Nat} (hr : r < 2 ^ 31) : ∀ n i : Nat, i + n = r → nG YX8_sixth (nKy YX8_sixth h.1 h.2.1 (fun v h2 => v = some (.long (lN (6 ^ r))) ∧ h2 = h)) 0 0 4 [some (.int (nI (r))), some (.long (lN (6 ^ i))), none, some (.int (nI (i)))] [] h := by
  intro n
  induction n with
  | zero =>
    intro i hi
    refine x_iload_n rfl d_X8_sixth_4 ?_
    refine x_iload_n rfl d_X8_sixth_5 ?_
    refine x_icmp_geN (tgt := 21) d_X8_sixth_6 (by decide) (by omega) (by omega) (fun c_1 => ?_) (fun c_1 => by exfalso; omega)
    refine x_lload_n rfl d_X8_sixth_21 ?_
    exact x_lreturn d_X8_sixth_22 rfl rfl rfl (Nat.zero_le _) (Nat.zero_le _) (⟨by rw [show i = r by omega], rfl⟩)
  | succ n ih =>
    intro i hi
    refine x_iload_n rfl d_X8_sixth_4 ?_
    refine x_iload_n rfl d_X8_sixth_5 ?_
    refine x_icmp_geN (tgt := 21) d_X8_sixth_6 (by decide) (by omega) (by omega) (fun c_1 => by exfalso; omega) (fun c_1 => ?_)
    refine x_lload_n rfl d_X8_sixth_9 ?_
    refine x_ldc2 (v := lN 6) d_X8_sixth_10 ct_8_216 ?_
    refine x_lmulN d_X8_sixth_13 ?_
    rw [← Nat.pow_succ]
    refine x_lstore_n d_X8_sixth_14 (Nat.le_of_ble_eq_true rfl) ?_
    refine x_iincN (m := 1) d_X8_sixth_15 rfl (by decide) (Nat.le_of_ble_eq_true rfl) ?_
    refine x_goto (tgt := 4) d_X8_sixth_18 (by decide) ?_
    exact nG.sub (by exact (And.intro rfl (And.intro rfl (And.intro rfl True.intro)))) (ih (i + 1) (by omega))
theorem sp_sixth {h : nPH} {r : Nat} (hr : r < 2 ^ 31) : nRd YX8_sixth [.int (nI r)] h (.long (lN (6 ^ r))) := by
  refine nSp_of (by decide +kernel) rfl (Nat.le_of_ble_eq_true rfl) (ls := [some (.int (nI (r))), none, none, none]) (by exact (And.intro rfl True.intro)) ?_
  refine x_lconst (v := lN 1) (by decide) d_X8_sixth_0 ?_
  refine x_lstore_n d_X8_sixth_1 (Nat.le_of_ble_eq_true rfl) ?_
  refine x_iconst (v := nI 0) (by decide) d_X8_sixth_2 ?_
  refine x_istore_n d_X8_sixth_3 (Nat.le_of_ble_eq_true rfl) ?_
  exact nG.sub (by exact (And.intro rfl (And.intro rfl (And.intro rfl True.intro)))) (lp_sixth hr r 0 (by omega))
