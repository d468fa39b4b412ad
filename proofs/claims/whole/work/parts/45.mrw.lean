/-! the model: the next row -/
def mR1 (M : Nat → Nat → Nat) (p r t : Nat) : Nat → Nat → Nat := u2 (u2 (mCk M (20 * p + (r + 1)) 24) 8 (20 * p + (r + 1)) t) 2 p (r + 1 + 1)
def mRw (M : Nat → Nat → Nat) (p r t : Nat) : Nat → Nat → Nat := mHg (mR1 M p r t) p r t
theorem mR1_o {M : Nat → Nat → Nat} {p r t f i : Nat} (h : 10 ≤ f → f ≤ 15 → i < 24 * (20 * p + (r + 1))) (h2 : f = 8 ∨ f = 9 → i ≠ 20 * p + (r + 1)) (h3 : ¬ (f = 2 ∧ i = p)) : mR1 M p r t f i = M f i := by
  unfold mR1
  rw [u2_ne (by omega), u2_ne (by omega)]
  unfold mCk
  rw [if_neg (by omega), if_neg (by omega)]
theorem mR1_r {M : Nat → Nat → Nat} {p r t : Nat} : ∀ f k, k < 24 → mR (mR1 M p r t) p r f k = mR M p r f k := fun f k hk => by
  by_cases h0 : f = 0
  · subst h0
    rw [mR_0, mR_0, mR1_o (by omega) (by omega) (by omega)]
  · by_cases h4 : f = 4
    · subst h4
      rw [mR_4, mR_4, mR1_o (by omega) (by omega) (by omega)]
    · have e : ∀ N : Nat → Nat → Nat, mR N p r f k = N (mF f) (24 * (20 * p + r) + k) := fun N => by
        unfold mR
        rw [if_neg h0, if_neg h4]
      have hF : mF f = 10 ∨ mF f = 11 ∨ mF f = 15 ∨ mF f = 13 ∨ mF f = 14 := by
        unfold mF
        split
        · omega
        · split
          · omega
          · split
            · omega
            · split <;> omega
      rw [e, e, mR1_o (by omega) (by omega) (by omega)]
theorem mR1_off {M : Nat → Nat → Nat} {p r t : Nat} {n : Nat} (hn : n ≤ 24) : off (mR (mR1 M p r t) p r) n = off (mR M p r) n := fb_sm_cong (fun k hk => mR1_r 2 k (by omega))
theorem sp_mrow20 {h : nPH} {b : Nat} {M : Nat → Nat → Nat} (H : o8 h b M) (hn : M 1 0 ≤ 12) {p r t : Nat} (hp : p < M 1 0) (h2 : M 2 p = r + 1) (h24 : M 8 (20 * p + r) ≤ 24) (ht : off (mR M p r) (M 8 (20 * p + r)) = t) (h20 : r + 1 = 20) : nRd YX8_row [.ref (b), .int (nI (p))] h (.int (-1)) := by
  refine nSp_of (by decide +kernel) rfl (Nat.le_of_ble_eq_true rfl) (ls := [some (.ref (b)), some (.int (nI (p))), none, none, none]) (by exact (And.intro rfl (And.intro rfl True.intro))) ?_
  refine x_aload_n rfl d_X8_row_0 ?_
  refine x_iload_n rfl d_X8_row_1 ?_
  refine x_rdV d_X8_row_2 lk_8_91 mo_X8_isPanel vi_X8_isPanel (sp_isPanel H hn hp) (o8_o H) ⟨_, rfl, rfl⟩ rfl ⟨Nat.le_of_ble_eq_true rfl, Nat.le_of_ble_eq_true rfl⟩ rfl rfl (Nat.zero_le _) (Nat.zero_le _) (Nat.le_of_ble_eq_true rfl) rfl ?_
  refine x_if_eqN (tgt := 19) d_X8_row_5 (by decide) (by omega) (fun c_1 => by exfalso; omega) (fun c_1 => ?_)
  refine x_aload_n rfl d_X8_row_8 ?_
  refine x_getf co_all (v := .ref (b + 1)) d_X8_row_9 fk_8_13 (o8_o H) rfl ?_
  refine x_iload_n rfl d_X8_row_12 ?_
  refine x_iaload d_X8_row_13 (o8_2 H) (nIx_nI (j := p) (by omega) (by decide)) ?_
  refine x_bipush (v := nI 20) (by decide) d_X8_row_14 ?_
  refine x_icmp_neN (tgt := 21) d_X8_row_16 (by decide) (by omega) (by omega) (fun c_2 => by exfalso; omega) (fun c_2 => ?_)
  refine x_iconst (v := -1) (by decide) d_X8_row_19 ?_
  exact x_ireturn d_X8_row_20 rfl rfl rfl rfl (Nat.zero_le _) (Nat.zero_le _) (⟨rfl, rfl⟩)
theorem sp_mrowN {h : nPH} {b : Nat} {M : Nat → Nat → Nat} (H : o8 h b M) (hn : M 1 0 ≤ 12) {p r t : Nat} (hp : p < M 1 0) (h2 : M 2 p = r + 1) (h24 : M 8 (20 * p + r) ≤ 24) (ht : off (mR M p r) (M 8 (20 * p + r)) = t) (h20 : r + 1 < 20) (hbt : t < 2 ^ 31) (hno : ¬ (1 ≤ t ∧ t ≤ 24)) : nRd YX8_row [.ref (b), .int (nI (p))] h (.int (-1)) := by
  refine nSp_of (by decide +kernel) rfl (Nat.le_of_ble_eq_true rfl) (ls := [some (.ref (b)), some (.int (nI (p))), none, none, none]) (by exact (And.intro rfl (And.intro rfl True.intro))) ?_
  refine x_aload_n rfl d_X8_row_0 ?_
  refine x_iload_n rfl d_X8_row_1 ?_
  refine x_rdV d_X8_row_2 lk_8_91 mo_X8_isPanel vi_X8_isPanel (sp_isPanel H hn hp) (o8_o H) ⟨_, rfl, rfl⟩ rfl ⟨Nat.le_of_ble_eq_true rfl, Nat.le_of_ble_eq_true rfl⟩ rfl rfl (Nat.zero_le _) (Nat.zero_le _) (Nat.le_of_ble_eq_true rfl) rfl ?_
  refine x_if_eqN (tgt := 19) d_X8_row_5 (by decide) (by omega) (fun c_1 => by exfalso; omega) (fun c_1 => ?_)
  refine x_aload_n rfl d_X8_row_8 ?_
  refine x_getf co_all (v := .ref (b + 1)) d_X8_row_9 fk_8_13 (o8_o H) rfl ?_
  refine x_iload_n rfl d_X8_row_12 ?_
  refine x_iaload d_X8_row_13 (o8_2 H) (nIx_nI (j := p) (by omega) (by decide)) ?_
  refine x_bipush (v := nI 20) (by decide) d_X8_row_14 ?_
  refine x_icmp_neN (tgt := 21) d_X8_row_16 (by decide) (by omega) (by omega) (fun c_2 => ?_) (fun c_2 => by exfalso; omega)
  refine x_aload_n rfl d_X8_row_21 ?_
  refine x_getf co_all (v := .ref (b + 1)) d_X8_row_22 fk_8_13 (o8_o H) rfl ?_
  refine x_iload_n rfl d_X8_row_25 ?_
  refine x_iaload d_X8_row_26 (o8_2 H) (nIx_nI (j := p) (by omega) (by decide)) ?_
  refine x_iconst (v := nI 1) (by decide) d_X8_row_27 ?_
  refine x_isubN d_X8_row_28 (by omega) ?_
  rw [show M 2 p - 1 = r by omega]
  refine x_istore_n d_X8_row_29 (Nat.le_of_ble_eq_true rfl) ?_
  refine x_aload_n rfl d_X8_row_30 ?_
  refine x_iload_n rfl d_X8_row_31 ?_
  refine x_iload_n rfl d_X8_row_32 ?_
  refine x_rdV d_X8_row_33 lk_8_112 mo_X8_given vi_X8_given (sp_mgv H (p := p) (r := r) (by omega) (by omega) h24) (o8_o H) ⟨_, rfl, rfl⟩ rfl ⟨Nat.le_of_ble_eq_true rfl, Nat.le_of_ble_eq_true rfl⟩ rfl rfl (Nat.zero_le _) (Nat.zero_le _) (Nat.le_of_ble_eq_true rfl) rfl ?_
  rw [ht]
  refine x_istore_n d_X8_row_36 (Nat.le_of_ble_eq_true rfl) ?_
  refine x_iload_n rfl d_X8_row_37 ?_
  refine x_if_eqN (tgt := 47) d_X8_row_38 (by decide) (by omega) (fun c_3 => ?_) (fun c_3 => ?_)
  · refine x_iconst (v := -1) (by decide) d_X8_row_47 ?_
    exact x_ireturn d_X8_row_48 rfl rfl rfl rfl (Nat.zero_le _) (Nat.zero_le _) (⟨rfl, rfl⟩)
  · refine x_iload_n rfl d_X8_row_41 ?_
    refine x_bipush (v := nI 24) (by decide) d_X8_row_42 ?_
    refine x_icmp_leN (tgt := 49) d_X8_row_44 (by decide) (by omega) (by omega) (fun c_4 => by exfalso; omega) (fun c_4 => ?_)
    refine x_iconst (v := -1) (by decide) d_X8_row_47 ?_
    exact x_ireturn d_X8_row_48 rfl rfl rfl rfl (Nat.zero_le _) (Nat.zero_le _) (⟨rfl, rfl⟩)
theorem sp_mrowP {h : nPH} {b : Nat} {M : Nat → Nat → Nat} (H : o8 h b M) (hn : M 1 0 ≤ 12) {p : Int32} (hp : ¬ nIn p (M 1 0)) : nRd YX8_row [.ref (b), .int (p)] h (.int (-1)) := by
  refine nSp_of (by decide +kernel) rfl (Nat.le_of_ble_eq_true rfl) (ls := [some (.ref (b)), some (.int (p)), none, none, none]) (by exact (And.intro rfl (And.intro rfl True.intro))) ?_
  refine x_aload_n rfl d_X8_row_0 ?_
  refine x_iload_n rfl d_X8_row_1 ?_
  refine x_rdV d_X8_row_2 lk_8_91 mo_X8_isPanel vi_X8_isPanel (sp_isPanelN H hn hp) (o8_o H) ⟨_, rfl, rfl⟩ rfl ⟨Nat.le_of_ble_eq_true rfl, Nat.le_of_ble_eq_true rfl⟩ rfl rfl (Nat.zero_le _) (Nat.zero_le _) (Nat.le_of_ble_eq_true rfl) rfl ?_
  refine x_if_eqN (tgt := 19) d_X8_row_5 (by decide) (by omega) (fun c_1 => ?_) (fun c_1 => by exfalso; omega)
  refine x_iconst (v := -1) (by decide) d_X8_row_19 ?_
  exact x_ireturn d_X8_row_20 rfl rfl rfl rfl (Nat.zero_le _) (Nat.zero_le _) (⟨rfl, rfl⟩)
theorem mR1_e (M : Nat → Nat → Nat) (p r : Nat) : mCk M (20 * p + (r + 1)) 24 2 p = M 2 p := by
  unfold mCk
  rw [if_neg (by omega), if_neg (by omega)]
theorem sp_mrow {h : nPH} {b : Nat} {M : Nat → Nat → Nat} (H : o8 h b M) (hn : M 1 0 ≤ 12) {p r t : Nat} (hp : p < M 1 0) (h2 : M 2 p = r + 1) (h24 : M 8 (20 * p + r) ≤ 24) (ht : off (mR M p r) (M 8 (20 * p + r)) = t) (h20 : r + 1 < 20) (h1t : 1 ≤ t) (h24t : t ≤ 24) (hg : ∀ k, k < 24 → M 11 (24 * (20 * p + r) + k) ≤ 2) : nWv YX8_row [.ref b, .int (nI p)] h (some (.int (nI t))) (fun h2 => nFr (nIv b 24) h h2 ∧ o8 h2 b (mRw M p r t)) := by
  refine nSp_of (by decide +kernel) rfl (Nat.le_of_ble_eq_true rfl) (ls := [some (.ref (b)), some (.int (nI (p))), none, none, none]) (by exact (And.intro rfl (And.intro rfl True.intro))) ?_
  refine x_aload_n rfl d_X8_row_0 ?_
  refine x_iload_n rfl d_X8_row_1 ?_
  refine x_rdV d_X8_row_2 lk_8_91 mo_X8_isPanel vi_X8_isPanel (sp_isPanel H hn hp) (o8_o H) ⟨_, rfl, rfl⟩ rfl ⟨Nat.le_of_ble_eq_true rfl, Nat.le_of_ble_eq_true rfl⟩ rfl rfl (Nat.zero_le _) (Nat.zero_le _) (Nat.le_of_ble_eq_true rfl) rfl ?_
  refine x_if_eqN (tgt := 19) d_X8_row_5 (by decide) (by omega) (fun c_1 => by exfalso; omega) (fun c_1 => ?_)
  refine x_aload_n rfl d_X8_row_8 ?_
  refine x_getf co_all (v := .ref (b + 1)) d_X8_row_9 fk_8_13 (o8_o H) rfl ?_
  refine x_iload_n rfl d_X8_row_12 ?_
  refine x_iaload d_X8_row_13 (o8_2 H) (nIx_nI (j := p) (by omega) (by decide)) ?_
  refine x_bipush (v := nI 20) (by decide) d_X8_row_14 ?_
  refine x_icmp_neN (tgt := 21) d_X8_row_16 (by decide) (by omega) (by omega) (fun c_2 => ?_) (fun c_2 => by exfalso; omega)
  refine x_aload_n rfl d_X8_row_21 ?_
  refine x_getf co_all (v := .ref (b + 1)) d_X8_row_22 fk_8_13 (o8_o H) rfl ?_
  refine x_iload_n rfl d_X8_row_25 ?_
  refine x_iaload d_X8_row_26 (o8_2 H) (nIx_nI (j := p) (by omega) (by decide)) ?_
  refine x_iconst (v := nI 1) (by decide) d_X8_row_27 ?_
  refine x_isubN d_X8_row_28 (by omega) ?_
  rw [show M 2 p - 1 = r by omega]
  refine x_istore_n d_X8_row_29 (Nat.le_of_ble_eq_true rfl) ?_
  refine x_aload_n rfl d_X8_row_30 ?_
  refine x_iload_n rfl d_X8_row_31 ?_
  refine x_iload_n rfl d_X8_row_32 ?_
  refine x_rdV d_X8_row_33 lk_8_112 mo_X8_given vi_X8_given (sp_mgv H (p := p) (r := r) (by omega) (by omega) h24) (o8_o H) ⟨_, rfl, rfl⟩ rfl ⟨Nat.le_of_ble_eq_true rfl, Nat.le_of_ble_eq_true rfl⟩ rfl rfl (Nat.zero_le _) (Nat.zero_le _) (Nat.le_of_ble_eq_true rfl) rfl ?_
  rw [ht]
  refine x_istore_n d_X8_row_36 (Nat.le_of_ble_eq_true rfl) ?_
  refine x_iload_n rfl d_X8_row_37 ?_
  refine x_if_eqN (tgt := 47) d_X8_row_38 (by decide) (by omega) (fun c_3 => by exfalso; omega) (fun c_3 => ?_)
  refine x_iload_n rfl d_X8_row_41 ?_
  refine x_bipush (v := nI 24) (by decide) d_X8_row_42 ?_
  refine x_icmp_leN (tgt := 49) d_X8_row_44 (by decide) (by omega) (by omega) (fun c_4 => ?_) (fun c_4 => by exfalso; omega)
  refine x_aload_n rfl d_X8_row_49 ?_
  refine x_getf co_all (v := .ref (b + 1)) d_X8_row_50 fk_8_13 (o8_o H) rfl ?_
  refine x_iload_n rfl d_X8_row_53 ?_
  refine x_iaload d_X8_row_54 (o8_2 H) (nIx_nI (j := p) (by omega) (by decide)) ?_
  rw [h2]
  refine x_istore d_X8_row_55 (Nat.le_of_ble_eq_true rfl) ?_
  refine x_aload_n rfl d_X8_row_57 ?_
  refine x_iload_n rfl d_X8_row_58 ?_
  refine x_iload rfl d_X8_row_59 ?_
  refine x_wvV d_X8_row_61 lk_8_108 mo_X8_clears vi_X8_clears (sp_mcl (p := p) (r := r + 1) (by omega) h20 H) (o8_o H) ⟨_, rfl, rfl⟩ rfl ⟨Nat.le_of_ble_eq_true rfl, Nat.le_of_ble_eq_true rfl⟩ (Nat.zero_le _) (Nat.zero_le _) (Nat.le_of_ble_eq_true rfl) rfl (fun h3 hq e1 e2 => ?_)
  obtain ⟨F3, H3⟩ := hq
  have f0 := F3
  refine x_aload_n rfl d_X8_row_64 ?_
  refine x_getf co_all (v := .ref (b + 7)) d_X8_row_65 fk_8_32 (o8_o H3) rfl ?_
  refine x_bipush (v := nI 20) (by decide) d_X8_row_68 ?_
  refine x_iload_n rfl d_X8_row_70 ?_
  refine x_imulN d_X8_row_71 ?_
  refine x_iload rfl d_X8_row_72 ?_
  refine x_iaddN d_X8_row_74 ?_
  refine x_iload_n rfl d_X8_row_75 ?_
  refine x_iastore d_X8_row_76 (o8_8 H3) (nIx_nI (j := (20 * p) + (r + 1)) (by omega) (by decide)) (Nat.le_trans (o8_B H3) (Nat.le_add_right _ _)) ?_
  have H5_8 := o8_ast8 ((20 * p) + (r + 1)) (t) H3
  have f_6 := o8_f8 ((20 * p) + (r + 1)) (t) H3 (F3) (by exact ⟨by omega, by omega⟩)
  refine x_aload_n rfl d_X8_row_77 ?_
  refine x_getf co_all (v := .ref (b + 1)) d_X8_row_78 fk_8_13 (o8_o H5_8) rfl ?_
  refine x_iload_n rfl d_X8_row_81 ?_
  refine x_dup2 rfl rfl d_X8_row_82 ?_
  refine x_iaload d_X8_row_83 (o8_2 H5_8) (nIx_nI (j := p) (by omega) (by decide)) ?_
  show nG _ _ _ _ _ _ (.int (nI ((mCk M (20 * p + (r + 1)) 24) 2 p)) :: _) _
  refine x_iconst (v := nI 1) (by decide) d_X8_row_84 ?_
  refine x_iaddN d_X8_row_85 ?_
  rw [show (mCk M (20 * p + (r + 1)) 24) 2 p + 1 = r + 1 + 1 by rw [mR1_e, h2]]
  refine x_iastore d_X8_row_86 (o8_2 H5_8) (nIx_nI (j := p) (by omega) (by decide)) (Nat.le_trans (o8_B H5_8) (Nat.le_add_right _ _)) ?_
  have H7_8 := o8_ast2 (p) (r + 1 + 1) H5_8
  have f_8 := o8_f2 (p) (r + 1 + 1) H5_8 (f_6) (by exact ⟨by omega, by omega⟩)
  refine x_aload_n rfl d_X8_row_87 ?_
  refine x_iload_n rfl d_X8_row_88 ?_
  refine x_iload rfl d_X8_row_89 ?_
  have eo : off (mR (mR1 M p r t) p r) (mR1 M p r t 8 (20 * p + r)) = t := by rw [mR1_o (by omega) (by omega) (by omega), mR1_off h24, ht]
  refine x_wvV d_X8_row_91 lk_8_115 mo_X8_hangs vi_X8_hangs (sp_mhangs (p := p) (r := r) (by omega) h20 (by rw [mR1_o (by omega) (by omega) (by omega)]; exact h24) (fun k hk => by rw [mR1_o (by omega) (by omega) (by omega)]; exact hg k hk) (by rw [eo]; omega) (M := mR1 M p r t) H7_8) (o8_o H7_8) ⟨_, rfl, rfl⟩ rfl ⟨Nat.le_of_ble_eq_true rfl, Nat.le_of_ble_eq_true rfl⟩ (Nat.zero_le _) (Nat.zero_le _) (Nat.le_of_ble_eq_true rfl) rfl (fun h4 hq e3 e4 => ?_)
  obtain ⟨F4, H4⟩ := hq
  rw [eo] at H4
  refine x_iload_n rfl d_X8_row_94 ?_
  exact x_ireturn d_X8_row_95 rfl rfl (f_8.tr F4).1 (f_8.tr F4).2.1 (Nat.zero_le _) (Nat.zero_le _) (⟨rfl, f_8.tr F4, H4⟩)
