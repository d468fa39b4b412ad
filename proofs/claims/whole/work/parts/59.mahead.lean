/-! the model: ahead, shape -/
def msh (v e z : Nat) : Nat := if z = 2 ∧ e = 1 then v - 1 else v / e
theorem msh_1 (v e : Nat) : v + msh v e 1 = shp v e 1 := by
  unfold msh shp
  rw [if_neg (by omega), if_pos rfl]
theorem msh_2 {v e : Nat} (hv : 1 ≤ v) : v - msh v e 2 = shp v e 2 ∧ msh v e 2 ≤ v := by
  unfold msh shp
  rw [if_neg (show ¬ (2 = 1) by decide)]
  by_cases e1 : e = 1
  · rw [if_pos ⟨rfl, e1⟩, if_pos e1]
    omega
  · rw [if_neg (fun z => e1 z.2), if_neg e1]
    exact ⟨rfl, Nat.div_le_self _ _⟩
theorem shp_1 {v e z : Nat} (hv : 1 ≤ v) (he : 1 ≤ e) (hz : 1 ≤ z) : 1 ≤ shp v e z := by
  unfold shp
  split
  · exact Nat.le_trans hv (Nat.le_add_right _ _)
  · split
    · omega
    · have := Nat.div_lt_self (n := v) (k := e) (by omega) (by omega)
      omega
theorem shI_1 {v e z : Nat} (hv : 1 ≤ v) (he : 1 ≤ e) (hz : 1 ≤ z) : ∀ n, 1 ≤ shI v e z n
  | 0 => hv
  | n + 1 => shp_1 (shI_1 hv he hz n) he hz
theorem shp_le2 (v e z : Nat) : shp v e z ≤ 2 * v + 1 := by
  unfold shp
  have := Nat.div_le_self v e
  generalize v / e = q at *
  split
  · omega
  · split <;> omega
theorem lN_sn {a b : Nat} (h : b ≤ a) : lN a + -(lN b) = lN (a - b) := by
  rw [← Int64.sub_eq_add_neg]
  exact lN_sub h
theorem rul_x {e z : Int32} (h1 : ¬ e < nI 1) (h2 : ¬ nI 24 < e) (h3 : ¬ z < nI 1) (h4 : z ≤ nI 2) : rul e z := by
  refine ⟨⟨Int32.not_lt.mp h1, Int32.not_lt.mp h2⟩, ?_⟩
  have h5 := i_ge h3 (by decide)
  have h6 := i_le h4 (by decide)
  obtain ⟨j, hj, rfl⟩ := nIn_of (k := z) (n := 3) ⟨by omega, by omega⟩ (by decide)
  rw [nI_toInt (by omega)] at h5 h6
  rcases (show j = 1 ∨ j = 2 by omega) with rfl | rfl
  · exact Or.inl rfl
  · exact Or.inr rfl
theorem sp_msh {h : nPH} {v e z : Nat} (hv1 : 1 ≤ v) (hv : v < 2 ^ 62) (he : 1 ≤ e) (he2 : e ≤ 24) (hz : z < 2 ^ 31) : nRd YX8_shaped [.long (lN (v)), .int (nI (e)), .int (nI (z))] h (.long (lN (msh v e z))) := by
  refine nSp_of (by decide +kernel) rfl (Nat.le_of_ble_eq_true rfl) (ls := [some (.long (lN (v))), none, some (.int (nI (e))), some (.int (nI (z)))]) (by exact (And.intro rfl (And.intro rfl (And.intro rfl True.intro)))) ?_
  refine x_iload_n rfl d_X8_shaped_0 ?_
  refine x_iconst (v := nI 2) (by decide) d_X8_shaped_1 ?_
  refine x_icmp_neN (tgt := 16) d_X8_shaped_2 (by decide) (by omega) (by omega) (fun c_1 => ?_) (fun c_1 => ?_)
  · refine x_lload_n rfl d_X8_shaped_16 ?_
    refine x_iload_n rfl d_X8_shaped_17 ?_
    refine x_i2lN d_X8_shaped_18 (by omega) ?_
    refine x_ldivN d_X8_shaped_19 (by omega) (by omega) (by omega) ?_
    exact x_lreturn d_X8_shaped_20 rfl rfl rfl (Nat.zero_le _) (Nat.zero_le _) (⟨by unfold msh; first | rw [if_pos (by omega)] | rw [if_neg (by omega)], rfl⟩)
  · refine x_iload_n rfl d_X8_shaped_5 ?_
    refine x_iconst (v := nI 1) (by decide) d_X8_shaped_6 ?_
    refine x_icmp_neN (tgt := 16) d_X8_shaped_7 (by decide) (by omega) (by omega) (fun c_2 => ?_) (fun c_2 => ?_)
    · refine x_lload_n rfl d_X8_shaped_16 ?_
      refine x_iload_n rfl d_X8_shaped_17 ?_
      refine x_i2lN d_X8_shaped_18 (by omega) ?_
      refine x_ldivN d_X8_shaped_19 (by omega) (by omega) (by omega) ?_
      exact x_lreturn d_X8_shaped_20 rfl rfl rfl (Nat.zero_le _) (Nat.zero_le _) (⟨by unfold msh; first | rw [if_pos (by omega)] | rw [if_neg (by omega)], rfl⟩)
    · refine x_lload_n rfl d_X8_shaped_10 ?_
      refine x_lconst (v := lN 1) (by decide) d_X8_shaped_11 ?_
      refine x_lsubN d_X8_shaped_12 (by omega) ?_
      refine x_goto (tgt := 20) d_X8_shaped_13 (by decide) ?_
      exact x_lreturn d_X8_shaped_20 rfl rfl rfl (Nat.zero_le _) (Nat.zero_le _) (⟨by unfold msh; first | rw [if_pos (by omega)] | rw [if_neg (by omega)], rfl⟩)
theorem md_aheadW {h : nPH} {b : Nat} {M V : Nat → Nat → Nat} {P : Nat → Nat → Nat → Nat} {R : Nat → Nat → Nat → Nat → Nat} {E Y T S : Nat → Nat → Nat} (H : o8 h b M) (W : rW M V P R E Y T S) (O : kO V P R) {w n e z : Int32} (hw : ¬ (nI 1 ≤ w ∧ w ≤ nI 1000)) : nRd YX8_ahead [.ref (b), .int (w), .int (n), .int (e), .int (z)] h (.long (-1)) := by
  refine nSp_of (by decide +kernel) rfl (Nat.le_of_ble_eq_true rfl) (ls := [some (.ref (b)), some (.int (w)), some (.int (n)), some (.int (e)), some (.int (z)), none, none, none]) (by exact (And.intro rfl (And.intro rfl (And.intro rfl (And.intro rfl (And.intro rfl True.intro)))))) ?_
  refine x_iload_n rfl d_X8_ahead_0 ?_
  refine x_iconst (v := nI 1) (by decide) d_X8_ahead_1 ?_
  refine x_icmp_lt (tgt := 47) d_X8_ahead_2 (by decide) (fun c_a => ?_) (fun c_a => ?_)
  · refine x_ldc2 d_X8_ahead_47 ct_8_135 ?_
    exact x_lreturn d_X8_ahead_50 rfl rfl rfl (Nat.zero_le _) (Nat.zero_le _) (⟨rfl, rfl⟩)
  · refine x_iload_n rfl d_X8_ahead_5 ?_
    refine x_sipush (v := nI 1000) (by decide) d_X8_ahead_6 ?_
    refine x_icmp_gt (tgt := 47) d_X8_ahead_9 (by decide) (fun c_b => ?_) (fun c_b => by exfalso; exact hw ⟨Int32.not_lt.mp c_a, Int32.not_lt.mp c_b⟩)
    refine x_ldc2 d_X8_ahead_47 ct_8_135 ?_
    exact x_lreturn d_X8_ahead_50 rfl rfl rfl (Nat.zero_le _) (Nat.zero_le _) (⟨rfl, rfl⟩)
theorem md_aheadN {h : nPH} {b : Nat} {M V : Nat → Nat → Nat} {P : Nat → Nat → Nat → Nat} {R : Nat → Nat → Nat → Nat → Nat} {E Y T S : Nat → Nat → Nat} (H : o8 h b M) (W : rW M V P R E Y T S) (O : kO V P R) {w : Nat} (hw1 : 1 ≤ w) (hw2 : w ≤ 1000) {n e z : Int32} (hn : ¬ (nI 1 ≤ n ∧ n ≤ nI 1000)) : nRd YX8_ahead [.ref (b), .int (nI (w)), .int (n), .int (e), .int (z)] h (.long (-1)) := by
  refine nSp_of (by decide +kernel) rfl (Nat.le_of_ble_eq_true rfl) (ls := [some (.ref (b)), some (.int (nI (w))), some (.int (n)), some (.int (e)), some (.int (z)), none, none, none]) (by exact (And.intro rfl (And.intro rfl (And.intro rfl (And.intro rfl (And.intro rfl True.intro)))))) ?_
  refine x_iload_n rfl d_X8_ahead_0 ?_
  refine x_iconst (v := nI 1) (by decide) d_X8_ahead_1 ?_
  refine x_icmp_ltN (tgt := 47) d_X8_ahead_2 (by decide) (by omega) (by omega) (fun c_1 => by exfalso; omega) (fun c_1 => ?_)
  refine x_iload_n rfl d_X8_ahead_5 ?_
  refine x_sipush (v := nI 1000) (by decide) d_X8_ahead_6 ?_
  refine x_icmp_gtN (tgt := 47) d_X8_ahead_9 (by decide) (by omega) (by omega) (fun c_2 => by exfalso; omega) (fun c_2 => ?_)
  refine x_iload_n rfl d_X8_ahead_12 ?_
  refine x_iconst (v := nI 1) (by decide) d_X8_ahead_13 ?_
  refine x_icmp_lt (tgt := 47) d_X8_ahead_14 (by decide) (fun c_a => ?_) (fun c_a => ?_)
  · refine x_ldc2 d_X8_ahead_47 ct_8_135 ?_
    exact x_lreturn d_X8_ahead_50 rfl rfl rfl (Nat.zero_le _) (Nat.zero_le _) (⟨rfl, rfl⟩)
  · refine x_iload_n rfl d_X8_ahead_17 ?_
    refine x_sipush (v := nI 1000) (by decide) d_X8_ahead_18 ?_
    refine x_icmp_gt (tgt := 47) d_X8_ahead_21 (by decide) (fun c_b => ?_) (fun c_b => by exfalso; exact hn ⟨Int32.not_lt.mp c_a, Int32.not_lt.mp c_b⟩)
    refine x_ldc2 d_X8_ahead_47 ct_8_135 ?_
    exact x_lreturn d_X8_ahead_50 rfl rfl rfl (Nat.zero_le _) (Nat.zero_le _) (⟨rfl, rfl⟩)
theorem md_aheadR {h : nPH} {b : Nat} {M V : Nat → Nat → Nat} {P : Nat → Nat → Nat → Nat} {R : Nat → Nat → Nat → Nat → Nat} {E Y T S : Nat → Nat → Nat} (H : o8 h b M) (W : rW M V P R E Y T S) (O : kO V P R) {w : Nat} (hw1 : 1 ≤ w) (hw2 : w ≤ 1000) {n : Nat} (hn1 : 1 ≤ n) (hn2 : n ≤ 1000) {e z : Int32} (hr : ¬ rul e z) : nRd YX8_ahead [.ref (b), .int (nI (w)), .int (nI (n)), .int (e), .int (z)] h (.long (-1)) := by
  refine nSp_of (by decide +kernel) rfl (Nat.le_of_ble_eq_true rfl) (ls := [some (.ref (b)), some (.int (nI (w))), some (.int (nI (n))), some (.int (e)), some (.int (z)), none, none, none]) (by exact (And.intro rfl (And.intro rfl (And.intro rfl (And.intro rfl (And.intro rfl True.intro)))))) ?_
  refine x_iload_n rfl d_X8_ahead_0 ?_
  refine x_iconst (v := nI 1) (by decide) d_X8_ahead_1 ?_
  refine x_icmp_ltN (tgt := 47) d_X8_ahead_2 (by decide) (by omega) (by omega) (fun c_1 => by exfalso; omega) (fun c_1 => ?_)
  refine x_iload_n rfl d_X8_ahead_5 ?_
  refine x_sipush (v := nI 1000) (by decide) d_X8_ahead_6 ?_
  refine x_icmp_gtN (tgt := 47) d_X8_ahead_9 (by decide) (by omega) (by omega) (fun c_2 => by exfalso; omega) (fun c_2 => ?_)
  refine x_iload_n rfl d_X8_ahead_12 ?_
  refine x_iconst (v := nI 1) (by decide) d_X8_ahead_13 ?_
  refine x_icmp_ltN (tgt := 47) d_X8_ahead_14 (by decide) (by omega) (by omega) (fun c_3 => by exfalso; omega) (fun c_3 => ?_)
  refine x_iload_n rfl d_X8_ahead_17 ?_
  refine x_sipush (v := nI 1000) (by decide) d_X8_ahead_18 ?_
  refine x_icmp_gtN (tgt := 47) d_X8_ahead_21 (by decide) (by omega) (by omega) (fun c_4 => by exfalso; omega) (fun c_4 => ?_)
  refine x_iload_n rfl d_X8_ahead_24 ?_
  refine x_iconst (v := nI 1) (by decide) d_X8_ahead_25 ?_
  refine x_icmp_lt (tgt := 47) d_X8_ahead_26 (by decide) (fun c_a => ?_) (fun c_a => ?_)
  · refine x_ldc2 d_X8_ahead_47 ct_8_135 ?_
    exact x_lreturn d_X8_ahead_50 rfl rfl rfl (Nat.zero_le _) (Nat.zero_le _) (⟨rfl, rfl⟩)
  · refine x_iload_n rfl d_X8_ahead_29 ?_
    refine x_bipush (v := nI 24) (by decide) d_X8_ahead_30 ?_
    refine x_icmp_gt (tgt := 47) d_X8_ahead_32 (by decide) (fun c_b => ?_) (fun c_b => ?_)
    · refine x_ldc2 d_X8_ahead_47 ct_8_135 ?_
      exact x_lreturn d_X8_ahead_50 rfl rfl rfl (Nat.zero_le _) (Nat.zero_le _) (⟨rfl, rfl⟩)
    · refine x_iload rfl d_X8_ahead_35 ?_
      refine x_iconst (v := nI 1) (by decide) d_X8_ahead_37 ?_
      refine x_icmp_lt (tgt := 47) d_X8_ahead_38 (by decide) (fun c_c => ?_) (fun c_c => ?_)
      · refine x_ldc2 d_X8_ahead_47 ct_8_135 ?_
        exact x_lreturn d_X8_ahead_50 rfl rfl rfl (Nat.zero_le _) (Nat.zero_le _) (⟨rfl, rfl⟩)
      · refine x_iload rfl d_X8_ahead_41 ?_
        refine x_iconst (v := nI 2) (by decide) d_X8_ahead_43 ?_
        refine x_icmp_le (tgt := 51) d_X8_ahead_44 (by decide) (fun c_d => by exfalso; exact hr (rul_x c_a c_b c_c c_d)) (fun c_d => ?_)
        refine x_ldc2 d_X8_ahead_47 ct_8_135 ?_
        exact x_lreturn d_X8_ahead_50 rfl rfl rfl (Nat.zero_le _) (Nat.zero_le _) (⟨rfl, rfl⟩)
theorem lp_mahS {h : nPH} {b : Nat} {w n : Nat} (hw1 : 1 ≤ w) (hw2 : w ≤ 1000) (hn2 : n ≤ 1000) {e z : Nat} (he : 1 ≤ e) (he2 : e ≤ 24) (hz : 1 ≤ z) (hz2 : z ≤ 2) (hok : ∀ i, i < n → shI w e z (i + 1) ≤ 1000000000000) : ∀ m i : Nat, i + m = n → shI w e z i ≤ 1000000000000 → nG YX8_ahead (nKy YX8_ahead h.1 h.2.1 (fun v h2 => v = some (.long (lN (shI w e z n))) ∧ h2 = h)) 0 0 58 [some (.ref (b)), some (.int (nI (w))), some (.int (nI (n))), some (.int (nI (e))), some (.int (nI (z))), some (.long (lN (shI w e z i))), none, some (.int (nI (i)))] [] h := by
  intro m
  induction m with
  | zero =>
    intro i hi hb
    have e0 : i = n := by omega
    refine x_iload rfl d_X8_ahead_58 ?_
    refine x_iload_n rfl d_X8_ahead_60 ?_
    refine x_icmp_geN (tgt := 112) d_X8_ahead_61 (by decide) (by omega) (by omega) (fun c_1 => ?_) (fun c_1 => by exfalso; omega)
    refine x_lload rfl d_X8_ahead_112 ?_
    exact x_lreturn d_X8_ahead_114 rfl rfl rfl (Nat.zero_le _) (Nat.zero_le _) (⟨by rw [e0], rfl⟩)
  | succ m ih =>
    intro i hi hb
    have hk := hok i (by omega)
    have hb2 := shp_le2 (shI w e z i) e z
    have hb3 : shI w e z (i + 1) = shp (shI w e z i) e z := rfl
    refine x_iload rfl d_X8_ahead_58 ?_
    refine x_iload_n rfl d_X8_ahead_60 ?_
    refine x_icmp_geN (tgt := 112) d_X8_ahead_61 (by decide) (by omega) (by omega) (fun c_1 => by exfalso; omega) (fun c_1 => ?_)
    refine x_lload rfl d_X8_ahead_64 ?_
    refine x_iload rfl d_X8_ahead_66 ?_
    refine x_iconst (v := nI 1) (by decide) d_X8_ahead_68 ?_
    refine x_icmp_neN (tgt := 82) d_X8_ahead_69 (by decide) (by omega) (by omega) (fun c_z => ?_) (fun c_z => ?_)
    · refine x_lload rfl d_X8_ahead_82 ?_
      refine x_iload_n rfl d_X8_ahead_84 ?_
      refine x_iconst (v := nI 2) (by decide) d_X8_ahead_85 ?_
      refine x_rdS d_X8_ahead_86 lk_8_125 mo_X8_shaped sc_X8_shaped (sp_msh (v := shI w e z i) (e := e) (z := 2) (shI_1 (by omega) he hz i) (by omega) he he2 (by decide)) rfl ⟨Nat.le_of_ble_eq_true rfl, Nat.le_of_ble_eq_true rfl⟩ rfl rfl (Nat.zero_le _) (Nat.zero_le _) (Nat.le_of_ble_eq_true rfl) rfl ?_
      refine x_lneg d_X8_ahead_89 ?_
      refine x_ladd d_X8_ahead_90 ?_
      have ez : z = 2 := by omega
      rw [lN_sn (msh_2 (shI_1 (by omega) he hz i)).2, show shI w e z i - msh (shI w e z i) e 2 = shI w e z (i + 1) by subst ez; exact (msh_2 (shI_1 (by omega) he hz i)).1]
      refine x_lstore d_X8_ahead_91 (Nat.le_of_ble_eq_true rfl) ?_
      refine x_lload rfl d_X8_ahead_93 ?_
      refine x_ldc2 (v := lN 1000000000000) d_X8_ahead_95 ct_8_137 ?_
      refine x_lcmp d_X8_ahead_98 ?_
      refine x_lif_leN (tgt := 106) d_X8_ahead_99 (by decide) (by omega) (by omega) (fun c_9 => ?_) (fun c_9 => by exfalso; omega)
      refine x_iincN (m := 1) d_X8_ahead_106 rfl (by decide) (Nat.le_of_ble_eq_true rfl) ?_
      refine x_goto (tgt := 58) d_X8_ahead_109 (by decide) ?_
      exact ih (i + 1) (by omega) hk
    · refine x_lload rfl d_X8_ahead_72 ?_
      refine x_iload_n rfl d_X8_ahead_74 ?_
      refine x_iconst (v := nI 1) (by decide) d_X8_ahead_75 ?_
      refine x_rdS d_X8_ahead_76 lk_8_125 mo_X8_shaped sc_X8_shaped (sp_msh (v := shI w e z i) (e := e) (z := 1) (shI_1 (by omega) he hz i) (by omega) he he2 (by decide)) rfl ⟨Nat.le_of_ble_eq_true rfl, Nat.le_of_ble_eq_true rfl⟩ rfl rfl (Nat.zero_le _) (Nat.zero_le _) (Nat.le_of_ble_eq_true rfl) rfl ?_
      refine x_goto (tgt := 90) d_X8_ahead_79 (by decide) ?_
      refine x_laddN d_X8_ahead_90 ?_
      have ez : z = 1 := c_z
      rw [show shI w e z i + msh (shI w e z i) e 1 = shI w e z (i + 1) by subst ez; exact msh_1 _ _]
      refine x_lstore d_X8_ahead_91 (Nat.le_of_ble_eq_true rfl) ?_
      refine x_lload rfl d_X8_ahead_93 ?_
      refine x_ldc2 (v := lN 1000000000000) d_X8_ahead_95 ct_8_137 ?_
      refine x_lcmp d_X8_ahead_98 ?_
      refine x_lif_leN (tgt := 106) d_X8_ahead_99 (by decide) (by omega) (by omega) (fun c_9 => ?_) (fun c_9 => by exfalso; omega)
      refine x_iincN (m := 1) d_X8_ahead_106 rfl (by decide) (Nat.le_of_ble_eq_true rfl) ?_
      refine x_goto (tgt := 58) d_X8_ahead_109 (by decide) ?_
      exact ih (i + 1) (by omega) hk
theorem lp_mahX {h : nPH} {b : Nat} {w n : Nat} (hw1 : 1 ≤ w) (hw2 : w ≤ 1000) (hn2 : n ≤ 1000) {e z : Nat} (he : 1 ≤ e) (he2 : e ≤ 24) (hz : 1 ≤ z) (hz2 : z ≤ 2) {m0 : Nat} (hm : m0 < n) (hok : ∀ i, i < m0 → shI w e z (i + 1) ≤ 1000000000000) (hbad : 1000000000000 < shI w e z (m0 + 1)) : ∀ m i : Nat, i + m = m0 → shI w e z i ≤ 1000000000000 → nG YX8_ahead (nKy YX8_ahead h.1 h.2.1 (fun v h2 => v = some (.long (-1)) ∧ h2 = h)) 0 0 58 [some (.ref (b)), some (.int (nI (w))), some (.int (nI (n))), some (.int (nI (e))), some (.int (nI (z))), some (.long (lN (shI w e z i))), none, some (.int (nI (i)))] [] h := by
  intro m
  induction m with
  | zero =>
    intro i hi hb
    have e0 : i = m0 := by omega
    subst e0
    have hb2 := shp_le2 (shI w e z i) e z
    have hb3 : shI w e z (i + 1) = shp (shI w e z i) e z := rfl
    refine x_iload rfl d_X8_ahead_58 ?_
    refine x_iload_n rfl d_X8_ahead_60 ?_
    refine x_icmp_geN (tgt := 112) d_X8_ahead_61 (by decide) (by omega) (by omega) (fun c_1 => by exfalso; omega) (fun c_1 => ?_)
    refine x_lload rfl d_X8_ahead_64 ?_
    refine x_iload rfl d_X8_ahead_66 ?_
    refine x_iconst (v := nI 1) (by decide) d_X8_ahead_68 ?_
    refine x_icmp_neN (tgt := 82) d_X8_ahead_69 (by decide) (by omega) (by omega) (fun c_z => ?_) (fun c_z => ?_)
    · refine x_lload rfl d_X8_ahead_82 ?_
      refine x_iload_n rfl d_X8_ahead_84 ?_
      refine x_iconst (v := nI 2) (by decide) d_X8_ahead_85 ?_
      refine x_rdS d_X8_ahead_86 lk_8_125 mo_X8_shaped sc_X8_shaped (sp_msh (v := shI w e z i) (e := e) (z := 2) (shI_1 (by omega) he hz i) (by omega) he he2 (by decide)) rfl ⟨Nat.le_of_ble_eq_true rfl, Nat.le_of_ble_eq_true rfl⟩ rfl rfl (Nat.zero_le _) (Nat.zero_le _) (Nat.le_of_ble_eq_true rfl) rfl ?_
      refine x_lneg d_X8_ahead_89 ?_
      refine x_ladd d_X8_ahead_90 ?_
      have ez : z = 2 := by omega
      rw [lN_sn (msh_2 (shI_1 (by omega) he hz i)).2, show shI w e z i - msh (shI w e z i) e 2 = shI w e z (i + 1) by subst ez; exact (msh_2 (shI_1 (by omega) he hz i)).1]
      refine x_lstore d_X8_ahead_91 (Nat.le_of_ble_eq_true rfl) ?_
      refine x_lload rfl d_X8_ahead_93 ?_
      refine x_ldc2 (v := lN 1000000000000) d_X8_ahead_95 ct_8_137 ?_
      refine x_lcmp d_X8_ahead_98 ?_
      refine x_lif_leN (tgt := 106) d_X8_ahead_99 (by decide) (by omega) (by omega) (fun c_9 => by exfalso; omega) (fun c_9 => ?_)
      refine x_ldc2 d_X8_ahead_102 ct_8_135 ?_
      exact x_lreturn d_X8_ahead_105 rfl rfl rfl (Nat.zero_le _) (Nat.zero_le _) (⟨rfl, rfl⟩)
    · refine x_lload rfl d_X8_ahead_72 ?_
      refine x_iload_n rfl d_X8_ahead_74 ?_
      refine x_iconst (v := nI 1) (by decide) d_X8_ahead_75 ?_
      refine x_rdS d_X8_ahead_76 lk_8_125 mo_X8_shaped sc_X8_shaped (sp_msh (v := shI w e z i) (e := e) (z := 1) (shI_1 (by omega) he hz i) (by omega) he he2 (by decide)) rfl ⟨Nat.le_of_ble_eq_true rfl, Nat.le_of_ble_eq_true rfl⟩ rfl rfl (Nat.zero_le _) (Nat.zero_le _) (Nat.le_of_ble_eq_true rfl) rfl ?_
      refine x_goto (tgt := 90) d_X8_ahead_79 (by decide) ?_
      refine x_laddN d_X8_ahead_90 ?_
      have ez : z = 1 := c_z
      rw [show shI w e z i + msh (shI w e z i) e 1 = shI w e z (i + 1) by subst ez; exact msh_1 _ _]
      refine x_lstore d_X8_ahead_91 (Nat.le_of_ble_eq_true rfl) ?_
      refine x_lload rfl d_X8_ahead_93 ?_
      refine x_ldc2 (v := lN 1000000000000) d_X8_ahead_95 ct_8_137 ?_
      refine x_lcmp d_X8_ahead_98 ?_
      refine x_lif_leN (tgt := 106) d_X8_ahead_99 (by decide) (by omega) (by omega) (fun c_9 => by exfalso; omega) (fun c_9 => ?_)
      refine x_ldc2 d_X8_ahead_102 ct_8_135 ?_
      exact x_lreturn d_X8_ahead_105 rfl rfl rfl (Nat.zero_le _) (Nat.zero_le _) (⟨rfl, rfl⟩)
  | succ m ih =>
    intro i hi hb
    have hk := hok i (by omega)
    have hb2 := shp_le2 (shI w e z i) e z
    have hb3 : shI w e z (i + 1) = shp (shI w e z i) e z := rfl
    refine x_iload rfl d_X8_ahead_58 ?_
    refine x_iload_n rfl d_X8_ahead_60 ?_
    refine x_icmp_geN (tgt := 112) d_X8_ahead_61 (by decide) (by omega) (by omega) (fun c_1 => by exfalso; omega) (fun c_1 => ?_)
    refine x_lload rfl d_X8_ahead_64 ?_
    refine x_iload rfl d_X8_ahead_66 ?_
    refine x_iconst (v := nI 1) (by decide) d_X8_ahead_68 ?_
    refine x_icmp_neN (tgt := 82) d_X8_ahead_69 (by decide) (by omega) (by omega) (fun c_z => ?_) (fun c_z => ?_)
    · refine x_lload rfl d_X8_ahead_82 ?_
      refine x_iload_n rfl d_X8_ahead_84 ?_
      refine x_iconst (v := nI 2) (by decide) d_X8_ahead_85 ?_
      refine x_rdS d_X8_ahead_86 lk_8_125 mo_X8_shaped sc_X8_shaped (sp_msh (v := shI w e z i) (e := e) (z := 2) (shI_1 (by omega) he hz i) (by omega) he he2 (by decide)) rfl ⟨Nat.le_of_ble_eq_true rfl, Nat.le_of_ble_eq_true rfl⟩ rfl rfl (Nat.zero_le _) (Nat.zero_le _) (Nat.le_of_ble_eq_true rfl) rfl ?_
      refine x_lneg d_X8_ahead_89 ?_
      refine x_ladd d_X8_ahead_90 ?_
      have ez : z = 2 := by omega
      rw [lN_sn (msh_2 (shI_1 (by omega) he hz i)).2, show shI w e z i - msh (shI w e z i) e 2 = shI w e z (i + 1) by subst ez; exact (msh_2 (shI_1 (by omega) he hz i)).1]
      refine x_lstore d_X8_ahead_91 (Nat.le_of_ble_eq_true rfl) ?_
      refine x_lload rfl d_X8_ahead_93 ?_
      refine x_ldc2 (v := lN 1000000000000) d_X8_ahead_95 ct_8_137 ?_
      refine x_lcmp d_X8_ahead_98 ?_
      refine x_lif_leN (tgt := 106) d_X8_ahead_99 (by decide) (by omega) (by omega) (fun c_9 => ?_) (fun c_9 => by exfalso; omega)
      refine x_iincN (m := 1) d_X8_ahead_106 rfl (by decide) (Nat.le_of_ble_eq_true rfl) ?_
      refine x_goto (tgt := 58) d_X8_ahead_109 (by decide) ?_
      exact ih (i + 1) (by omega) hk
    · refine x_lload rfl d_X8_ahead_72 ?_
      refine x_iload_n rfl d_X8_ahead_74 ?_
      refine x_iconst (v := nI 1) (by decide) d_X8_ahead_75 ?_
      refine x_rdS d_X8_ahead_76 lk_8_125 mo_X8_shaped sc_X8_shaped (sp_msh (v := shI w e z i) (e := e) (z := 1) (shI_1 (by omega) he hz i) (by omega) he he2 (by decide)) rfl ⟨Nat.le_of_ble_eq_true rfl, Nat.le_of_ble_eq_true rfl⟩ rfl rfl (Nat.zero_le _) (Nat.zero_le _) (Nat.le_of_ble_eq_true rfl) rfl ?_
      refine x_goto (tgt := 90) d_X8_ahead_79 (by decide) ?_
      refine x_laddN d_X8_ahead_90 ?_
      have ez : z = 1 := c_z
      rw [show shI w e z i + msh (shI w e z i) e 1 = shI w e z (i + 1) by subst ez; exact msh_1 _ _]
      refine x_lstore d_X8_ahead_91 (Nat.le_of_ble_eq_true rfl) ?_
      refine x_lload rfl d_X8_ahead_93 ?_
      refine x_ldc2 (v := lN 1000000000000) d_X8_ahead_95 ct_8_137 ?_
      refine x_lcmp d_X8_ahead_98 ?_
      refine x_lif_leN (tgt := 106) d_X8_ahead_99 (by decide) (by omega) (by omega) (fun c_9 => ?_) (fun c_9 => by exfalso; omega)
      refine x_iincN (m := 1) d_X8_ahead_106 rfl (by decide) (Nat.le_of_ble_eq_true rfl) ?_
      refine x_goto (tgt := 58) d_X8_ahead_109 (by decide) ?_
      exact ih (i + 1) (by omega) hk
theorem md_aheadS {h : nPH} {b : Nat} {M V : Nat → Nat → Nat} {P : Nat → Nat → Nat → Nat} {R : Nat → Nat → Nat → Nat → Nat} {E Y T S : Nat → Nat → Nat} (H : o8 h b M) (W : rW M V P R E Y T S) (O : kO V P R) {w : Nat} (hw1 : 1 ≤ w) (hw2 : w ≤ 1000) {n : Nat} (hn1 : 1 ≤ n) (hn2 : n ≤ 1000) {e z : Nat} (he : 1 ≤ e) (he2 : e ≤ 24) (hz : 1 ≤ z) (hz2 : z ≤ 2) (hok : ∀ i, i < n → shI w e z (i + 1) ≤ 1000000000000) : nRd YX8_ahead [.ref (b), .int (nI (w)), .int (nI (n)), .int (nI (e)), .int (nI (z))] h (.long (lN (shI w e z n))) := by
  refine nSp_of (by decide +kernel) rfl (Nat.le_of_ble_eq_true rfl) (ls := [some (.ref (b)), some (.int (nI (w))), some (.int (nI (n))), some (.int (nI (e))), some (.int (nI (z))), none, none, none]) (by exact (And.intro rfl (And.intro rfl (And.intro rfl (And.intro rfl (And.intro rfl True.intro)))))) ?_
  refine x_iload_n rfl d_X8_ahead_0 ?_
  refine x_iconst (v := nI 1) (by decide) d_X8_ahead_1 ?_
  refine x_icmp_ltN (tgt := 47) d_X8_ahead_2 (by decide) (by omega) (by omega) (fun c_1 => by exfalso; omega) (fun c_1 => ?_)
  refine x_iload_n rfl d_X8_ahead_5 ?_
  refine x_sipush (v := nI 1000) (by decide) d_X8_ahead_6 ?_
  refine x_icmp_gtN (tgt := 47) d_X8_ahead_9 (by decide) (by omega) (by omega) (fun c_2 => by exfalso; omega) (fun c_2 => ?_)
  refine x_iload_n rfl d_X8_ahead_12 ?_
  refine x_iconst (v := nI 1) (by decide) d_X8_ahead_13 ?_
  refine x_icmp_ltN (tgt := 47) d_X8_ahead_14 (by decide) (by omega) (by omega) (fun c_3 => by exfalso; omega) (fun c_3 => ?_)
  refine x_iload_n rfl d_X8_ahead_17 ?_
  refine x_sipush (v := nI 1000) (by decide) d_X8_ahead_18 ?_
  refine x_icmp_gtN (tgt := 47) d_X8_ahead_21 (by decide) (by omega) (by omega) (fun c_4 => by exfalso; omega) (fun c_4 => ?_)
  refine x_iload_n rfl d_X8_ahead_24 ?_
  refine x_iconst (v := nI 1) (by decide) d_X8_ahead_25 ?_
  refine x_icmp_ltN (tgt := 47) d_X8_ahead_26 (by decide) (by omega) (by omega) (fun c_5 => by exfalso; omega) (fun c_5 => ?_)
  refine x_iload_n rfl d_X8_ahead_29 ?_
  refine x_bipush (v := nI 24) (by decide) d_X8_ahead_30 ?_
  refine x_icmp_gtN (tgt := 47) d_X8_ahead_32 (by decide) (by omega) (by omega) (fun c_6 => by exfalso; omega) (fun c_6 => ?_)
  refine x_iload rfl d_X8_ahead_35 ?_
  refine x_iconst (v := nI 1) (by decide) d_X8_ahead_37 ?_
  refine x_icmp_ltN (tgt := 47) d_X8_ahead_38 (by decide) (by omega) (by omega) (fun c_7 => by exfalso; omega) (fun c_7 => ?_)
  refine x_iload rfl d_X8_ahead_41 ?_
  refine x_iconst (v := nI 2) (by decide) d_X8_ahead_43 ?_
  refine x_icmp_leN (tgt := 51) d_X8_ahead_44 (by decide) (by omega) (by omega) (fun c_8 => ?_) (fun c_8 => by exfalso; omega)
  refine x_iload_n rfl d_X8_ahead_51 ?_
  refine x_i2lN d_X8_ahead_52 (by omega) ?_
  refine x_lstore d_X8_ahead_53 (Nat.le_of_ble_eq_true rfl) ?_
  refine x_iconst (v := nI 0) (by decide) d_X8_ahead_55 ?_
  refine x_istore d_X8_ahead_56 (Nat.le_of_ble_eq_true rfl) ?_
  exact lp_mahS hw1 hw2 hn2 he he2 hz hz2 hok n 0 (by omega) (show w ≤ 1000000000000 by omega)
theorem md_aheadX {h : nPH} {b : Nat} {M V : Nat → Nat → Nat} {P : Nat → Nat → Nat → Nat} {R : Nat → Nat → Nat → Nat → Nat} {E Y T S : Nat → Nat → Nat} (H : o8 h b M) (W : rW M V P R E Y T S) (O : kO V P R) {w : Nat} (hw1 : 1 ≤ w) (hw2 : w ≤ 1000) {n : Nat} (hn1 : 1 ≤ n) (hn2 : n ≤ 1000) {e z : Nat} (he : 1 ≤ e) (he2 : e ≤ 24) (hz : 1 ≤ z) (hz2 : z ≤ 2) {m : Nat} (hm : m < n) (hok : ∀ i, i < m → shI w e z (i + 1) ≤ 1000000000000) (hbad : 1000000000000 < shI w e z (m + 1)) : nRd YX8_ahead [.ref (b), .int (nI (w)), .int (nI (n)), .int (nI (e)), .int (nI (z))] h (.long (-1)) := by
  refine nSp_of (by decide +kernel) rfl (Nat.le_of_ble_eq_true rfl) (ls := [some (.ref (b)), some (.int (nI (w))), some (.int (nI (n))), some (.int (nI (e))), some (.int (nI (z))), none, none, none]) (by exact (And.intro rfl (And.intro rfl (And.intro rfl (And.intro rfl (And.intro rfl True.intro)))))) ?_
  refine x_iload_n rfl d_X8_ahead_0 ?_
  refine x_iconst (v := nI 1) (by decide) d_X8_ahead_1 ?_
  refine x_icmp_ltN (tgt := 47) d_X8_ahead_2 (by decide) (by omega) (by omega) (fun c_1 => by exfalso; omega) (fun c_1 => ?_)
  refine x_iload_n rfl d_X8_ahead_5 ?_
  refine x_sipush (v := nI 1000) (by decide) d_X8_ahead_6 ?_
  refine x_icmp_gtN (tgt := 47) d_X8_ahead_9 (by decide) (by omega) (by omega) (fun c_2 => by exfalso; omega) (fun c_2 => ?_)
  refine x_iload_n rfl d_X8_ahead_12 ?_
  refine x_iconst (v := nI 1) (by decide) d_X8_ahead_13 ?_
  refine x_icmp_ltN (tgt := 47) d_X8_ahead_14 (by decide) (by omega) (by omega) (fun c_3 => by exfalso; omega) (fun c_3 => ?_)
  refine x_iload_n rfl d_X8_ahead_17 ?_
  refine x_sipush (v := nI 1000) (by decide) d_X8_ahead_18 ?_
  refine x_icmp_gtN (tgt := 47) d_X8_ahead_21 (by decide) (by omega) (by omega) (fun c_4 => by exfalso; omega) (fun c_4 => ?_)
  refine x_iload_n rfl d_X8_ahead_24 ?_
  refine x_iconst (v := nI 1) (by decide) d_X8_ahead_25 ?_
  refine x_icmp_ltN (tgt := 47) d_X8_ahead_26 (by decide) (by omega) (by omega) (fun c_5 => by exfalso; omega) (fun c_5 => ?_)
  refine x_iload_n rfl d_X8_ahead_29 ?_
  refine x_bipush (v := nI 24) (by decide) d_X8_ahead_30 ?_
  refine x_icmp_gtN (tgt := 47) d_X8_ahead_32 (by decide) (by omega) (by omega) (fun c_6 => by exfalso; omega) (fun c_6 => ?_)
  refine x_iload rfl d_X8_ahead_35 ?_
  refine x_iconst (v := nI 1) (by decide) d_X8_ahead_37 ?_
  refine x_icmp_ltN (tgt := 47) d_X8_ahead_38 (by decide) (by omega) (by omega) (fun c_7 => by exfalso; omega) (fun c_7 => ?_)
  refine x_iload rfl d_X8_ahead_41 ?_
  refine x_iconst (v := nI 2) (by decide) d_X8_ahead_43 ?_
  refine x_icmp_leN (tgt := 51) d_X8_ahead_44 (by decide) (by omega) (by omega) (fun c_8 => ?_) (fun c_8 => by exfalso; omega)
  refine x_iload_n rfl d_X8_ahead_51 ?_
  refine x_i2lN d_X8_ahead_52 (by omega) ?_
  refine x_lstore d_X8_ahead_53 (Nat.le_of_ble_eq_true rfl) ?_
  refine x_iconst (v := nI 0) (by decide) d_X8_ahead_55 ?_
  refine x_istore d_X8_ahead_56 (Nat.le_of_ble_eq_true rfl) ?_
  exact lp_mahX hw1 hw2 hn2 he he2 hz hz2 hm hok hbad m 0 (by omega) (show w ≤ 1000000000000 by omega)
theorem md_shapeP {h : nPH} {b : Nat} {M V : Nat → Nat → Nat} {P : Nat → Nat → Nat → Nat} {R : Nat → Nat → Nat → Nat → Nat} {E Y T S : Nat → Nat → Nat} (H : o8 h b M) (W : rW M V P R E Y T S) (O : kO V P R) {p : Int32} (hp : ¬ nIn p (V 1 0)) {n e z : Int32} : nRd YX8_shape [.ref (b), .int (p), .int (n), .int (e), .int (z)] h (.int (-1)) := by
  refine nSp_of (by decide +kernel) rfl (Nat.le_of_ble_eq_true rfl) (ls := [some (.ref (b)), some (.int (p)), some (.int (n)), some (.int (e)), some (.int (z)), none, none, none, none, none]) (by exact (And.intro rfl (And.intro rfl (And.intro rfl (And.intro rfl (And.intro rfl True.intro)))))) ?_
  refine x_aload_n rfl d_X8_shape_0 ?_
  refine x_iload_n rfl d_X8_shape_1 ?_
  refine x_rdV d_X8_shape_2 lk_8_91 mo_X8_isPanel vi_X8_isPanel (sp_isPanelN H (rW_n W O) (rW_x W hp)) (o8_o H) ⟨_, rfl, rfl⟩ rfl ⟨Nat.le_of_ble_eq_true rfl, Nat.le_of_ble_eq_true rfl⟩ rfl rfl (Nat.zero_le _) (Nat.zero_le _) (Nat.le_of_ble_eq_true rfl) rfl ?_
  refine x_if_eqN (tgt := 42) d_X8_shape_5 (by decide) (by omega) (fun c_1 => ?_) (fun c_1 => by exfalso; omega)
  refine x_iconst (v := -1) (by decide) d_X8_shape_42 ?_
  exact x_ireturn d_X8_shape_43 rfl rfl rfl rfl (Nat.zero_le _) (Nat.zero_le _) (⟨rfl, rfl⟩)
theorem md_shapeN {h : nPH} {b : Nat} {M V : Nat → Nat → Nat} {P : Nat → Nat → Nat → Nat} {R : Nat → Nat → Nat → Nat → Nat} {E Y T S : Nat → Nat → Nat} (H : o8 h b M) (W : rW M V P R E Y T S) (O : kO V P R) {p : Nat} (hp : p < V 1 0) {n e z : Int32} (hn : ¬ (nI 1 ≤ n ∧ n ≤ nI 19)) : nRd YX8_shape [.ref (b), .int (nI (p)), .int (n), .int (e), .int (z)] h (.int (-1)) := by
  obtain ⟨p1, p2, p3, p4, p5, p6, p7, p8⟩ := rW_p W O hp
  refine nSp_of (by decide +kernel) rfl (Nat.le_of_ble_eq_true rfl) (ls := [some (.ref (b)), some (.int (nI (p))), some (.int (n)), some (.int (e)), some (.int (z)), none, none, none, none, none]) (by exact (And.intro rfl (And.intro rfl (And.intro rfl (And.intro rfl (And.intro rfl True.intro)))))) ?_
  refine x_aload_n rfl d_X8_shape_0 ?_
  refine x_iload_n rfl d_X8_shape_1 ?_
  refine x_rdV d_X8_shape_2 lk_8_91 mo_X8_isPanel vi_X8_isPanel (sp_isPanel H p2 p1) (o8_o H) ⟨_, rfl, rfl⟩ rfl ⟨Nat.le_of_ble_eq_true rfl, Nat.le_of_ble_eq_true rfl⟩ rfl rfl (Nat.zero_le _) (Nat.zero_le _) (Nat.le_of_ble_eq_true rfl) rfl ?_
  refine x_if_eqN (tgt := 42) d_X8_shape_5 (by decide) (by omega) (fun c_1 => by exfalso; omega) (fun c_1 => ?_)
  refine x_iload_n rfl d_X8_shape_8 ?_
  refine x_iconst (v := nI 1) (by decide) d_X8_shape_9 ?_
  refine x_icmp_lt (tgt := 42) d_X8_shape_10 (by decide) (fun c_a => ?_) (fun c_a => ?_)
  · refine x_iconst (v := -1) (by decide) d_X8_shape_42 ?_
    exact x_ireturn d_X8_shape_43 rfl rfl rfl rfl (Nat.zero_le _) (Nat.zero_le _) (⟨rfl, rfl⟩)
  · refine x_iload_n rfl d_X8_shape_13 ?_
    refine x_bipush (v := nI 19) (by decide) d_X8_shape_14 ?_
    refine x_icmp_gt (tgt := 42) d_X8_shape_16 (by decide) (fun c_b => ?_) (fun c_b => by exfalso; exact hn ⟨Int32.not_lt.mp c_a, Int32.not_lt.mp c_b⟩)
    refine x_iconst (v := -1) (by decide) d_X8_shape_42 ?_
    exact x_ireturn d_X8_shape_43 rfl rfl rfl rfl (Nat.zero_le _) (Nat.zero_le _) (⟨rfl, rfl⟩)
theorem md_shapeR {h : nPH} {b : Nat} {M V : Nat → Nat → Nat} {P : Nat → Nat → Nat → Nat} {R : Nat → Nat → Nat → Nat → Nat} {E Y T S : Nat → Nat → Nat} (H : o8 h b M) (W : rW M V P R E Y T S) (O : kO V P R) {p : Nat} (hp : p < V 1 0) {n : Nat} (hn1 : 1 ≤ n) (hn2 : n ≤ 19) {e z : Int32} (hr : ¬ rul e z) : nRd YX8_shape [.ref (b), .int (nI (p)), .int (nI (n)), .int (e), .int (z)] h (.int (-1)) := by
  obtain ⟨p1, p2, p3, p4, p5, p6, p7, p8⟩ := rW_p W O hp
  refine nSp_of (by decide +kernel) rfl (Nat.le_of_ble_eq_true rfl) (ls := [some (.ref (b)), some (.int (nI (p))), some (.int (nI (n))), some (.int (e)), some (.int (z)), none, none, none, none, none]) (by exact (And.intro rfl (And.intro rfl (And.intro rfl (And.intro rfl (And.intro rfl True.intro)))))) ?_
  refine x_aload_n rfl d_X8_shape_0 ?_
  refine x_iload_n rfl d_X8_shape_1 ?_
  refine x_rdV d_X8_shape_2 lk_8_91 mo_X8_isPanel vi_X8_isPanel (sp_isPanel H p2 p1) (o8_o H) ⟨_, rfl, rfl⟩ rfl ⟨Nat.le_of_ble_eq_true rfl, Nat.le_of_ble_eq_true rfl⟩ rfl rfl (Nat.zero_le _) (Nat.zero_le _) (Nat.le_of_ble_eq_true rfl) rfl ?_
  refine x_if_eqN (tgt := 42) d_X8_shape_5 (by decide) (by omega) (fun c_1 => by exfalso; omega) (fun c_1 => ?_)
  refine x_iload_n rfl d_X8_shape_8 ?_
  refine x_iconst (v := nI 1) (by decide) d_X8_shape_9 ?_
  refine x_icmp_ltN (tgt := 42) d_X8_shape_10 (by decide) (by omega) (by omega) (fun c_2 => by exfalso; omega) (fun c_2 => ?_)
  refine x_iload_n rfl d_X8_shape_13 ?_
  refine x_bipush (v := nI 19) (by decide) d_X8_shape_14 ?_
  refine x_icmp_gtN (tgt := 42) d_X8_shape_16 (by decide) (by omega) (by omega) (fun c_3 => by exfalso; omega) (fun c_3 => ?_)
  refine x_iload_n rfl d_X8_shape_19 ?_
  refine x_iconst (v := nI 1) (by decide) d_X8_shape_20 ?_
  refine x_icmp_lt (tgt := 42) d_X8_shape_21 (by decide) (fun c_a => ?_) (fun c_a => ?_)
  · refine x_iconst (v := -1) (by decide) d_X8_shape_42 ?_
    exact x_ireturn d_X8_shape_43 rfl rfl rfl rfl (Nat.zero_le _) (Nat.zero_le _) (⟨rfl, rfl⟩)
  · refine x_iload_n rfl d_X8_shape_24 ?_
    refine x_bipush (v := nI 24) (by decide) d_X8_shape_25 ?_
    refine x_icmp_gt (tgt := 42) d_X8_shape_27 (by decide) (fun c_b => ?_) (fun c_b => ?_)
    · refine x_iconst (v := -1) (by decide) d_X8_shape_42 ?_
      exact x_ireturn d_X8_shape_43 rfl rfl rfl rfl (Nat.zero_le _) (Nat.zero_le _) (⟨rfl, rfl⟩)
    · refine x_iload rfl d_X8_shape_30 ?_
      refine x_iconst (v := nI 1) (by decide) d_X8_shape_32 ?_
      refine x_icmp_lt (tgt := 42) d_X8_shape_33 (by decide) (fun c_c => ?_) (fun c_c => ?_)
      · refine x_iconst (v := -1) (by decide) d_X8_shape_42 ?_
        exact x_ireturn d_X8_shape_43 rfl rfl rfl rfl (Nat.zero_le _) (Nat.zero_le _) (⟨rfl, rfl⟩)
      · refine x_iload rfl d_X8_shape_36 ?_
        refine x_iconst (v := nI 2) (by decide) d_X8_shape_38 ?_
        refine x_icmp_le (tgt := 44) d_X8_shape_39 (by decide) (fun c_d => by exfalso; exact hr (rul_x c_a c_b c_c c_d)) (fun c_d => ?_)
        refine x_iconst (v := -1) (by decide) d_X8_shape_42 ?_
        exact x_ireturn d_X8_shape_43 rfl rfl rfl rfl (Nat.zero_le _) (Nat.zero_le _) (⟨rfl, rfl⟩)
theorem md_shape0 {h : nPH} {b : Nat} {M V : Nat → Nat → Nat} {P : Nat → Nat → Nat → Nat} {R : Nat → Nat → Nat → Nat → Nat} {E Y T S : Nat → Nat → Nat} (H : o8 h b M) (W : rW M V P R E Y T S) (O : kO V P R) {p : Nat} (hp : p < V 1 0) {n : Nat} (hn1 : 1 ≤ n) (hn2 : n ≤ 19) {e z : Nat} (he : 1 ≤ e) (he2 : e ≤ 24) (hz : 1 ≤ z) (hz2 : z ≤ 2) (hb : (R p (P p 5 0 - 1) 0 0) = 0 ∨ 20 - P p 5 0 < n) : nRd YX8_shape [.ref (b), .int (nI (p)), .int (nI (n)), .int (nI (e)), .int (nI (z))] h (.int (-1)) := by
  obtain ⟨p1, p2, p3, p4, p5, p6, p7, p8⟩ := rW_p W O hp
  obtain ⟨r, hre⟩ : ∃ r, P p 5 0 = r + 1 := ⟨P p 5 0 - 1, by omega⟩
  have e1 : P p 5 0 - 1 = r := by omega
  rw [e1] at hb
  have hr : r < P p 5 0 := by omega
  obtain ⟨r1, r2, r3, r4, r5, r6⟩ := rW_r W O hp hr
  refine nSp_of (by decide +kernel) rfl (Nat.le_of_ble_eq_true rfl) (ls := [some (.ref (b)), some (.int (nI (p))), some (.int (nI (n))), some (.int (nI (e))), some (.int (nI (z))), none, none, none, none, none]) (by exact (And.intro rfl (And.intro rfl (And.intro rfl (And.intro rfl (And.intro rfl True.intro)))))) ?_
  refine x_aload_n rfl d_X8_shape_0 ?_
  refine x_iload_n rfl d_X8_shape_1 ?_
  refine x_rdV d_X8_shape_2 lk_8_91 mo_X8_isPanel vi_X8_isPanel (sp_isPanel H p2 p1) (o8_o H) ⟨_, rfl, rfl⟩ rfl ⟨Nat.le_of_ble_eq_true rfl, Nat.le_of_ble_eq_true rfl⟩ rfl rfl (Nat.zero_le _) (Nat.zero_le _) (Nat.le_of_ble_eq_true rfl) rfl ?_
  refine x_if_eqN (tgt := 42) d_X8_shape_5 (by decide) (by omega) (fun c_1 => by exfalso; omega) (fun c_1 => ?_)
  refine x_iload_n rfl d_X8_shape_8 ?_
  refine x_iconst (v := nI 1) (by decide) d_X8_shape_9 ?_
  refine x_icmp_ltN (tgt := 42) d_X8_shape_10 (by decide) (by omega) (by omega) (fun c_2 => by exfalso; omega) (fun c_2 => ?_)
  refine x_iload_n rfl d_X8_shape_13 ?_
  refine x_bipush (v := nI 19) (by decide) d_X8_shape_14 ?_
  refine x_icmp_gtN (tgt := 42) d_X8_shape_16 (by decide) (by omega) (by omega) (fun c_3 => by exfalso; omega) (fun c_3 => ?_)
  refine x_iload_n rfl d_X8_shape_19 ?_
  refine x_iconst (v := nI 1) (by decide) d_X8_shape_20 ?_
  refine x_icmp_ltN (tgt := 42) d_X8_shape_21 (by decide) (by omega) (by omega) (fun c_4 => by exfalso; omega) (fun c_4 => ?_)
  refine x_iload_n rfl d_X8_shape_24 ?_
  refine x_bipush (v := nI 24) (by decide) d_X8_shape_25 ?_
  refine x_icmp_gtN (tgt := 42) d_X8_shape_27 (by decide) (by omega) (by omega) (fun c_5 => by exfalso; omega) (fun c_5 => ?_)
  refine x_iload rfl d_X8_shape_30 ?_
  refine x_iconst (v := nI 1) (by decide) d_X8_shape_32 ?_
  refine x_icmp_ltN (tgt := 42) d_X8_shape_33 (by decide) (by omega) (by omega) (fun c_6 => by exfalso; omega) (fun c_6 => ?_)
  refine x_iload rfl d_X8_shape_36 ?_
  refine x_iconst (v := nI 2) (by decide) d_X8_shape_38 ?_
  refine x_icmp_leN (tgt := 44) d_X8_shape_39 (by decide) (by omega) (by omega) (fun c_7 => ?_) (fun c_7 => by exfalso; omega)
  refine x_aload_n rfl d_X8_shape_44 ?_
  refine x_getf co_all (v := .ref (b + 7)) d_X8_shape_45 fk_8_32 (o8_o H) rfl ?_
  refine x_bipush (v := nI 20) (by decide) d_X8_shape_48 ?_
  refine x_iload_n rfl d_X8_shape_50 ?_
  refine x_imulN d_X8_shape_51 ?_
  refine x_aload_n rfl d_X8_shape_52 ?_
  refine x_getf co_all (v := .ref (b + 1)) d_X8_shape_53 fk_8_13 (o8_o H) rfl ?_
  refine x_iload_n rfl d_X8_shape_56 ?_
  refine x_iaload d_X8_shape_57 (o8_2 H) (nIx_nI (j := p) (by omega) (by decide)) ?_
  refine x_iaddN d_X8_shape_58 ?_
  refine x_iconst (v := nI 1) (by decide) d_X8_shape_59 ?_
  refine x_isubN d_X8_shape_60 (by omega) ?_
  rw [show 20 * p + M 2 p - 1 = 20 * p + r by omega]
  refine x_iaload d_X8_shape_61 (o8_8 H) (nIx_nI (j := 20 * p + r) (by omega) (by decide)) ?_
  rw [r3]
  refine x_i2lN d_X8_shape_62 (by omega) ?_
  refine x_lstore d_X8_shape_63 (Nat.le_of_ble_eq_true rfl) ?_
  refine x_lload rfl d_X8_shape_65 ?_
  refine x_lconst (v := lN 0) (by decide) d_X8_shape_67 ?_
  refine x_lcmp d_X8_shape_68 ?_
  refine x_lif_eqN (tgt := 85) d_X8_shape_69 (by decide) (by omega) (by omega) (fun c_8 => ?_) (fun c_8 => ?_)
  · refine x_iconst (v := -1) (by decide) d_X8_shape_85 ?_
    exact x_ireturn d_X8_shape_86 rfl rfl rfl rfl (Nat.zero_le _) (Nat.zero_le _) (⟨rfl, rfl⟩)
  · refine x_aload_n rfl d_X8_shape_72 ?_
    refine x_getf co_all (v := .ref (b + 1)) d_X8_shape_73 fk_8_13 (o8_o H) rfl ?_
    refine x_iload_n rfl d_X8_shape_76 ?_
    refine x_iaload d_X8_shape_77 (o8_2 H) (nIx_nI (j := p) (by omega) (by decide)) ?_
    refine x_iload_n rfl d_X8_shape_78 ?_
    refine x_iaddN d_X8_shape_79 ?_
    refine x_bipush (v := nI 20) (by decide) d_X8_shape_80 ?_
    refine x_icmp_leN (tgt := 87) d_X8_shape_82 (by decide) (by omega) (by omega) (fun c_9 => by exfalso; omega) (fun c_9 => ?_)
    refine x_iconst (v := -1) (by decide) d_X8_shape_85 ?_
    exact x_ireturn d_X8_shape_86 rfl rfl rfl rfl (Nat.zero_le _) (Nat.zero_le _) (⟨rfl, rfl⟩)
theorem lp_mshS {h : nPH} {D0 : va_G} {B0 : Nat} {Post : Option Value → nPH → Prop} {b : Nat} {p n v : Nat} (hv1 : 1 ≤ v) (hv2 : v ≤ 24) (hn2 : n ≤ 19) {e z : Nat} (he : 1 ≤ e) (he2 : e ≤ 24) (hz : 1 ≤ z) (hz2 : z ≤ 2) (hok : ∀ i, i < n → shI v e z (i + 1) ≤ 24) (kk : nG YX8_shape (nKy YX8_shape D0 B0 Post) 0 0 142 [some (.ref (b)), some (.int (nI (p))), some (.int (nI (n))), some (.int (nI (e))), some (.int (nI (z))), none, none, none, none, none] [] h) : ∀ m i : Nat, i + m = n → shI v e z i ≤ 24 → nG YX8_shape (nKy YX8_shape D0 B0 Post) 0 0 90 [some (.ref (b)), some (.int (nI (p))), some (.int (nI (n))), some (.int (nI (e))), some (.int (nI (z))), some (.long (lN (shI v e z i))), none, some (.int (nI (i))), none, none] [] h := by
  intro m
  induction m with
  | zero =>
    intro i hi hb
    refine x_iload rfl d_X8_shape_90 ?_
    refine x_iload_n rfl d_X8_shape_92 ?_
    refine x_icmp_geN (tgt := 142) d_X8_shape_93 (by decide) (by omega) (by omega) (fun c_1 => ?_) (fun c_1 => by exfalso; omega)
    exact nG.sub (by exact (And.intro rfl (And.intro rfl (And.intro rfl (And.intro rfl (And.intro rfl True.intro)))))) kk
  | succ m ih =>
    intro i hi hb
    have hk := hok i (by omega)
    have hb2 := shp_le2 (shI v e z i) e z
    have hb3 : shI v e z (i + 1) = shp (shI v e z i) e z := rfl
    refine x_iload rfl d_X8_shape_90 ?_
    refine x_iload_n rfl d_X8_shape_92 ?_
    refine x_icmp_geN (tgt := 142) d_X8_shape_93 (by decide) (by omega) (by omega) (fun c_1 => by exfalso; omega) (fun c_1 => ?_)
    refine x_lload rfl d_X8_shape_96 ?_
    refine x_iload rfl d_X8_shape_98 ?_
    refine x_iconst (v := nI 1) (by decide) d_X8_shape_100 ?_
    refine x_icmp_neN (tgt := 114) d_X8_shape_101 (by decide) (by omega) (by omega) (fun c_z => ?_) (fun c_z => ?_)
    · refine x_lload rfl d_X8_shape_114 ?_
      refine x_iload_n rfl d_X8_shape_116 ?_
      refine x_iconst (v := nI 2) (by decide) d_X8_shape_117 ?_
      refine x_rdS d_X8_shape_118 lk_8_125 mo_X8_shaped sc_X8_shaped (sp_msh (v := shI v e z i) (e := e) (z := 2) (shI_1 (by omega) he hz i) (by omega) he he2 (by decide)) rfl ⟨Nat.le_of_ble_eq_true rfl, Nat.le_of_ble_eq_true rfl⟩ rfl rfl (Nat.zero_le _) (Nat.zero_le _) (Nat.le_of_ble_eq_true rfl) rfl ?_
      refine x_lneg d_X8_shape_121 ?_
      refine x_ladd d_X8_shape_122 ?_
      have ez : z = 2 := by omega
      rw [lN_sn (msh_2 (shI_1 (by omega) he hz i)).2, show shI v e z i - msh (shI v e z i) e 2 = shI v e z (i + 1) by subst ez; exact (msh_2 (shI_1 (by omega) he hz i)).1]
      refine x_lstore d_X8_shape_123 (Nat.le_of_ble_eq_true rfl) ?_
      refine x_lload rfl d_X8_shape_125 ?_
      refine x_ldc2 (v := lN 24) d_X8_shape_127 ct_8_129 ?_
      refine x_lcmp d_X8_shape_130 ?_
      refine x_lif_leN (tgt := 136) d_X8_shape_131 (by decide) (by omega) (by omega) (fun c_9 => ?_) (fun c_9 => by exfalso; omega)
      refine x_iincN (m := 1) d_X8_shape_136 rfl (by decide) (Nat.le_of_ble_eq_true rfl) ?_
      refine x_goto (tgt := 90) d_X8_shape_139 (by decide) ?_
      exact ih (i + 1) (by omega) hk
    · refine x_lload rfl d_X8_shape_104 ?_
      refine x_iload_n rfl d_X8_shape_106 ?_
      refine x_iconst (v := nI 1) (by decide) d_X8_shape_107 ?_
      refine x_rdS d_X8_shape_108 lk_8_125 mo_X8_shaped sc_X8_shaped (sp_msh (v := shI v e z i) (e := e) (z := 1) (shI_1 (by omega) he hz i) (by omega) he he2 (by decide)) rfl ⟨Nat.le_of_ble_eq_true rfl, Nat.le_of_ble_eq_true rfl⟩ rfl rfl (Nat.zero_le _) (Nat.zero_le _) (Nat.le_of_ble_eq_true rfl) rfl ?_
      refine x_goto (tgt := 122) d_X8_shape_111 (by decide) ?_
      refine x_laddN d_X8_shape_122 ?_
      have ez : z = 1 := c_z
      rw [show shI v e z i + msh (shI v e z i) e 1 = shI v e z (i + 1) by subst ez; exact msh_1 _ _]
      refine x_lstore d_X8_shape_123 (Nat.le_of_ble_eq_true rfl) ?_
      refine x_lload rfl d_X8_shape_125 ?_
      refine x_ldc2 (v := lN 24) d_X8_shape_127 ct_8_129 ?_
      refine x_lcmp d_X8_shape_130 ?_
      refine x_lif_leN (tgt := 136) d_X8_shape_131 (by decide) (by omega) (by omega) (fun c_9 => ?_) (fun c_9 => by exfalso; omega)
      refine x_iincN (m := 1) d_X8_shape_136 rfl (by decide) (Nat.le_of_ble_eq_true rfl) ?_
      refine x_goto (tgt := 90) d_X8_shape_139 (by decide) ?_
      exact ih (i + 1) (by omega) hk
theorem lp_mshX {h : nPH} {b : Nat} {p n v : Nat} (hv1 : 1 ≤ v) (hv2 : v ≤ 24) (hn2 : n ≤ 19) {e z : Nat} (he : 1 ≤ e) (he2 : e ≤ 24) (hz : 1 ≤ z) (hz2 : z ≤ 2) {m0 : Nat} (hm : m0 < n) (hok : ∀ i, i < m0 → shI v e z (i + 1) ≤ 24) (hbad : 24 < shI v e z (m0 + 1)) : ∀ m i : Nat, i + m = m0 → shI v e z i ≤ 24 → nG YX8_shape (nKy YX8_shape h.1 h.2.1 (fun v h2 => v = some (.int (-1)) ∧ h2 = h)) 0 0 90 [some (.ref (b)), some (.int (nI (p))), some (.int (nI (n))), some (.int (nI (e))), some (.int (nI (z))), some (.long (lN (shI v e z i))), none, some (.int (nI (i))), none, none] [] h := by
  intro m
  induction m with
  | zero =>
    intro i hi hb
    have e0 : i = m0 := by omega
    subst e0
    have hb2 := shp_le2 (shI v e z i) e z
    have hb3 : shI v e z (i + 1) = shp (shI v e z i) e z := rfl
    refine x_iload rfl d_X8_shape_90 ?_
    refine x_iload_n rfl d_X8_shape_92 ?_
    refine x_icmp_geN (tgt := 142) d_X8_shape_93 (by decide) (by omega) (by omega) (fun c_1 => by exfalso; omega) (fun c_1 => ?_)
    refine x_lload rfl d_X8_shape_96 ?_
    refine x_iload rfl d_X8_shape_98 ?_
    refine x_iconst (v := nI 1) (by decide) d_X8_shape_100 ?_
    refine x_icmp_neN (tgt := 114) d_X8_shape_101 (by decide) (by omega) (by omega) (fun c_z => ?_) (fun c_z => ?_)
    · refine x_lload rfl d_X8_shape_114 ?_
      refine x_iload_n rfl d_X8_shape_116 ?_
      refine x_iconst (v := nI 2) (by decide) d_X8_shape_117 ?_
      refine x_rdS d_X8_shape_118 lk_8_125 mo_X8_shaped sc_X8_shaped (sp_msh (v := shI v e z i) (e := e) (z := 2) (shI_1 (by omega) he hz i) (by omega) he he2 (by decide)) rfl ⟨Nat.le_of_ble_eq_true rfl, Nat.le_of_ble_eq_true rfl⟩ rfl rfl (Nat.zero_le _) (Nat.zero_le _) (Nat.le_of_ble_eq_true rfl) rfl ?_
      refine x_lneg d_X8_shape_121 ?_
      refine x_ladd d_X8_shape_122 ?_
      have ez : z = 2 := by omega
      rw [lN_sn (msh_2 (shI_1 (by omega) he hz i)).2, show shI v e z i - msh (shI v e z i) e 2 = shI v e z (i + 1) by subst ez; exact (msh_2 (shI_1 (by omega) he hz i)).1]
      refine x_lstore d_X8_shape_123 (Nat.le_of_ble_eq_true rfl) ?_
      refine x_lload rfl d_X8_shape_125 ?_
      refine x_ldc2 (v := lN 24) d_X8_shape_127 ct_8_129 ?_
      refine x_lcmp d_X8_shape_130 ?_
      refine x_lif_leN (tgt := 136) d_X8_shape_131 (by decide) (by omega) (by omega) (fun c_9 => by exfalso; omega) (fun c_9 => ?_)
      refine x_iconst (v := -1) (by decide) d_X8_shape_134 ?_
      exact x_ireturn d_X8_shape_135 rfl rfl rfl rfl (Nat.zero_le _) (Nat.zero_le _) (⟨rfl, rfl⟩)
    · refine x_lload rfl d_X8_shape_104 ?_
      refine x_iload_n rfl d_X8_shape_106 ?_
      refine x_iconst (v := nI 1) (by decide) d_X8_shape_107 ?_
      refine x_rdS d_X8_shape_108 lk_8_125 mo_X8_shaped sc_X8_shaped (sp_msh (v := shI v e z i) (e := e) (z := 1) (shI_1 (by omega) he hz i) (by omega) he he2 (by decide)) rfl ⟨Nat.le_of_ble_eq_true rfl, Nat.le_of_ble_eq_true rfl⟩ rfl rfl (Nat.zero_le _) (Nat.zero_le _) (Nat.le_of_ble_eq_true rfl) rfl ?_
      refine x_goto (tgt := 122) d_X8_shape_111 (by decide) ?_
      refine x_laddN d_X8_shape_122 ?_
      have ez : z = 1 := c_z
      rw [show shI v e z i + msh (shI v e z i) e 1 = shI v e z (i + 1) by subst ez; exact msh_1 _ _]
      refine x_lstore d_X8_shape_123 (Nat.le_of_ble_eq_true rfl) ?_
      refine x_lload rfl d_X8_shape_125 ?_
      refine x_ldc2 (v := lN 24) d_X8_shape_127 ct_8_129 ?_
      refine x_lcmp d_X8_shape_130 ?_
      refine x_lif_leN (tgt := 136) d_X8_shape_131 (by decide) (by omega) (by omega) (fun c_9 => by exfalso; omega) (fun c_9 => ?_)
      refine x_iconst (v := -1) (by decide) d_X8_shape_134 ?_
      exact x_ireturn d_X8_shape_135 rfl rfl rfl rfl (Nat.zero_le _) (Nat.zero_le _) (⟨rfl, rfl⟩)
  | succ m ih =>
    intro i hi hb
    have hk := hok i (by omega)
    have hb2 := shp_le2 (shI v e z i) e z
    have hb3 : shI v e z (i + 1) = shp (shI v e z i) e z := rfl
    refine x_iload rfl d_X8_shape_90 ?_
    refine x_iload_n rfl d_X8_shape_92 ?_
    refine x_icmp_geN (tgt := 142) d_X8_shape_93 (by decide) (by omega) (by omega) (fun c_1 => by exfalso; omega) (fun c_1 => ?_)
    refine x_lload rfl d_X8_shape_96 ?_
    refine x_iload rfl d_X8_shape_98 ?_
    refine x_iconst (v := nI 1) (by decide) d_X8_shape_100 ?_
    refine x_icmp_neN (tgt := 114) d_X8_shape_101 (by decide) (by omega) (by omega) (fun c_z => ?_) (fun c_z => ?_)
    · refine x_lload rfl d_X8_shape_114 ?_
      refine x_iload_n rfl d_X8_shape_116 ?_
      refine x_iconst (v := nI 2) (by decide) d_X8_shape_117 ?_
      refine x_rdS d_X8_shape_118 lk_8_125 mo_X8_shaped sc_X8_shaped (sp_msh (v := shI v e z i) (e := e) (z := 2) (shI_1 (by omega) he hz i) (by omega) he he2 (by decide)) rfl ⟨Nat.le_of_ble_eq_true rfl, Nat.le_of_ble_eq_true rfl⟩ rfl rfl (Nat.zero_le _) (Nat.zero_le _) (Nat.le_of_ble_eq_true rfl) rfl ?_
      refine x_lneg d_X8_shape_121 ?_
      refine x_ladd d_X8_shape_122 ?_
      have ez : z = 2 := by omega
      rw [lN_sn (msh_2 (shI_1 (by omega) he hz i)).2, show shI v e z i - msh (shI v e z i) e 2 = shI v e z (i + 1) by subst ez; exact (msh_2 (shI_1 (by omega) he hz i)).1]
      refine x_lstore d_X8_shape_123 (Nat.le_of_ble_eq_true rfl) ?_
      refine x_lload rfl d_X8_shape_125 ?_
      refine x_ldc2 (v := lN 24) d_X8_shape_127 ct_8_129 ?_
      refine x_lcmp d_X8_shape_130 ?_
      refine x_lif_leN (tgt := 136) d_X8_shape_131 (by decide) (by omega) (by omega) (fun c_9 => ?_) (fun c_9 => by exfalso; omega)
      refine x_iincN (m := 1) d_X8_shape_136 rfl (by decide) (Nat.le_of_ble_eq_true rfl) ?_
      refine x_goto (tgt := 90) d_X8_shape_139 (by decide) ?_
      exact ih (i + 1) (by omega) hk
    · refine x_lload rfl d_X8_shape_104 ?_
      refine x_iload_n rfl d_X8_shape_106 ?_
      refine x_iconst (v := nI 1) (by decide) d_X8_shape_107 ?_
      refine x_rdS d_X8_shape_108 lk_8_125 mo_X8_shaped sc_X8_shaped (sp_msh (v := shI v e z i) (e := e) (z := 1) (shI_1 (by omega) he hz i) (by omega) he he2 (by decide)) rfl ⟨Nat.le_of_ble_eq_true rfl, Nat.le_of_ble_eq_true rfl⟩ rfl rfl (Nat.zero_le _) (Nat.zero_le _) (Nat.le_of_ble_eq_true rfl) rfl ?_
      refine x_goto (tgt := 122) d_X8_shape_111 (by decide) ?_
      refine x_laddN d_X8_shape_122 ?_
      have ez : z = 1 := c_z
      rw [show shI v e z i + msh (shI v e z i) e 1 = shI v e z (i + 1) by subst ez; exact msh_1 _ _]
      refine x_lstore d_X8_shape_123 (Nat.le_of_ble_eq_true rfl) ?_
      refine x_lload rfl d_X8_shape_125 ?_
      refine x_ldc2 (v := lN 24) d_X8_shape_127 ct_8_129 ?_
      refine x_lcmp d_X8_shape_130 ?_
      refine x_lif_leN (tgt := 136) d_X8_shape_131 (by decide) (by omega) (by omega) (fun c_9 => ?_) (fun c_9 => by exfalso; omega)
      refine x_iincN (m := 1) d_X8_shape_136 rfl (by decide) (Nat.le_of_ble_eq_true rfl) ?_
      refine x_goto (tgt := 90) d_X8_shape_139 (by decide) ?_
      exact ih (i + 1) (by omega) hk
theorem md_shapeF {h : nPH} {b : Nat} {M V : Nat → Nat → Nat} {P : Nat → Nat → Nat → Nat} {R : Nat → Nat → Nat → Nat → Nat} {E Y T S : Nat → Nat → Nat} (H : o8 h b M) (W : rW M V P R E Y T S) (O : kO V P R) {p : Nat} (hp : p < V 1 0) {n : Nat} (hn1 : 1 ≤ n) (hn2 : n ≤ 19) {e z : Nat} (he : 1 ≤ e) (he2 : e ≤ 24) (hz : 1 ≤ z) (hz2 : z ≤ 2) (hp0 : ¬ (R p (P p 5 0 - 1) 0 0) = 0) (hn3 : n ≤ 20 - P p 5 0) {i0 : Nat} (hi0 : i0 < n) (hs : ∀ i, i < i0 → 1 ≤ shI (R p (P p 5 0 - 1) 0 0) e z (i + 1) ∧ shI (R p (P p 5 0 - 1) 0 0) e z (i + 1) ≤ 24) (hbad : ¬ (1 ≤ shI (R p (P p 5 0 - 1) 0 0) e z (i0 + 1) ∧ shI (R p (P p 5 0 - 1) 0 0) e z (i0 + 1) ≤ 24)) : nRd YX8_shape [.ref (b), .int (nI (p)), .int (nI (n)), .int (nI (e)), .int (nI (z))] h (.int (-1)) := by
  obtain ⟨p1, p2, p3, p4, p5, p6, p7, p8⟩ := rW_p W O hp
  obtain ⟨r, hre⟩ : ∃ r, P p 5 0 = r + 1 := ⟨P p 5 0 - 1, by omega⟩
  have e1 : P p 5 0 - 1 = r := by omega
  rw [e1] at hp0 hs hbad
  have hr : r < P p 5 0 := by omega
  obtain ⟨r1, r2, r3, r4, r5, r6⟩ := rW_r W O hp hr
  refine nSp_of (by decide +kernel) rfl (Nat.le_of_ble_eq_true rfl) (ls := [some (.ref (b)), some (.int (nI (p))), some (.int (nI (n))), some (.int (nI (e))), some (.int (nI (z))), none, none, none, none, none]) (by exact (And.intro rfl (And.intro rfl (And.intro rfl (And.intro rfl (And.intro rfl True.intro)))))) ?_
  refine x_aload_n rfl d_X8_shape_0 ?_
  refine x_iload_n rfl d_X8_shape_1 ?_
  refine x_rdV d_X8_shape_2 lk_8_91 mo_X8_isPanel vi_X8_isPanel (sp_isPanel H p2 p1) (o8_o H) ⟨_, rfl, rfl⟩ rfl ⟨Nat.le_of_ble_eq_true rfl, Nat.le_of_ble_eq_true rfl⟩ rfl rfl (Nat.zero_le _) (Nat.zero_le _) (Nat.le_of_ble_eq_true rfl) rfl ?_
  refine x_if_eqN (tgt := 42) d_X8_shape_5 (by decide) (by omega) (fun c_1 => by exfalso; omega) (fun c_1 => ?_)
  refine x_iload_n rfl d_X8_shape_8 ?_
  refine x_iconst (v := nI 1) (by decide) d_X8_shape_9 ?_
  refine x_icmp_ltN (tgt := 42) d_X8_shape_10 (by decide) (by omega) (by omega) (fun c_2 => by exfalso; omega) (fun c_2 => ?_)
  refine x_iload_n rfl d_X8_shape_13 ?_
  refine x_bipush (v := nI 19) (by decide) d_X8_shape_14 ?_
  refine x_icmp_gtN (tgt := 42) d_X8_shape_16 (by decide) (by omega) (by omega) (fun c_3 => by exfalso; omega) (fun c_3 => ?_)
  refine x_iload_n rfl d_X8_shape_19 ?_
  refine x_iconst (v := nI 1) (by decide) d_X8_shape_20 ?_
  refine x_icmp_ltN (tgt := 42) d_X8_shape_21 (by decide) (by omega) (by omega) (fun c_4 => by exfalso; omega) (fun c_4 => ?_)
  refine x_iload_n rfl d_X8_shape_24 ?_
  refine x_bipush (v := nI 24) (by decide) d_X8_shape_25 ?_
  refine x_icmp_gtN (tgt := 42) d_X8_shape_27 (by decide) (by omega) (by omega) (fun c_5 => by exfalso; omega) (fun c_5 => ?_)
  refine x_iload rfl d_X8_shape_30 ?_
  refine x_iconst (v := nI 1) (by decide) d_X8_shape_32 ?_
  refine x_icmp_ltN (tgt := 42) d_X8_shape_33 (by decide) (by omega) (by omega) (fun c_6 => by exfalso; omega) (fun c_6 => ?_)
  refine x_iload rfl d_X8_shape_36 ?_
  refine x_iconst (v := nI 2) (by decide) d_X8_shape_38 ?_
  refine x_icmp_leN (tgt := 44) d_X8_shape_39 (by decide) (by omega) (by omega) (fun c_7 => ?_) (fun c_7 => by exfalso; omega)
  refine x_aload_n rfl d_X8_shape_44 ?_
  refine x_getf co_all (v := .ref (b + 7)) d_X8_shape_45 fk_8_32 (o8_o H) rfl ?_
  refine x_bipush (v := nI 20) (by decide) d_X8_shape_48 ?_
  refine x_iload_n rfl d_X8_shape_50 ?_
  refine x_imulN d_X8_shape_51 ?_
  refine x_aload_n rfl d_X8_shape_52 ?_
  refine x_getf co_all (v := .ref (b + 1)) d_X8_shape_53 fk_8_13 (o8_o H) rfl ?_
  refine x_iload_n rfl d_X8_shape_56 ?_
  refine x_iaload d_X8_shape_57 (o8_2 H) (nIx_nI (j := p) (by omega) (by decide)) ?_
  refine x_iaddN d_X8_shape_58 ?_
  refine x_iconst (v := nI 1) (by decide) d_X8_shape_59 ?_
  refine x_isubN d_X8_shape_60 (by omega) ?_
  rw [show 20 * p + M 2 p - 1 = 20 * p + r by omega]
  refine x_iaload d_X8_shape_61 (o8_8 H) (nIx_nI (j := 20 * p + r) (by omega) (by decide)) ?_
  rw [r3]
  refine x_i2lN d_X8_shape_62 (by omega) ?_
  refine x_lstore d_X8_shape_63 (Nat.le_of_ble_eq_true rfl) ?_
  refine x_lload rfl d_X8_shape_65 ?_
  refine x_lconst (v := lN 0) (by decide) d_X8_shape_67 ?_
  refine x_lcmp d_X8_shape_68 ?_
  refine x_lif_eqN (tgt := 85) d_X8_shape_69 (by decide) (by omega) (by omega) (fun c_8 => by exfalso; omega) (fun c_8 => ?_)
  refine x_aload_n rfl d_X8_shape_72 ?_
  refine x_getf co_all (v := .ref (b + 1)) d_X8_shape_73 fk_8_13 (o8_o H) rfl ?_
  refine x_iload_n rfl d_X8_shape_76 ?_
  refine x_iaload d_X8_shape_77 (o8_2 H) (nIx_nI (j := p) (by omega) (by decide)) ?_
  refine x_iload_n rfl d_X8_shape_78 ?_
  refine x_iaddN d_X8_shape_79 ?_
  refine x_bipush (v := nI 20) (by decide) d_X8_shape_80 ?_
  refine x_icmp_leN (tgt := 87) d_X8_shape_82 (by decide) (by omega) (by omega) (fun c_9 => ?_) (fun c_9 => by exfalso; omega)
  refine x_iconst (v := nI 0) (by decide) d_X8_shape_87 ?_
  refine x_istore d_X8_shape_88 (Nat.le_of_ble_eq_true rfl) ?_
  exact lp_mshX (v := R p r 0 0) (by omega) r4 hn2 he he2 hz hz2 hi0 (fun i hi => (hs i hi).2) (by have := shI_1 (v := R p r 0 0) (by omega) he hz (i0 + 1); omega) i0 0 (by omega) (show R p r 0 0 ≤ 24 from r4)
