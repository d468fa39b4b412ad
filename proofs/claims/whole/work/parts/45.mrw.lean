/-! the model: the next row -/
def mR1 (M : Nat → Nat → Nat) (p r t : Nat) : Nat → Nat → Nat := u2 (u2 (mCk M (20 * p + (r + 1)) 24) 8 (20 * p + (r + 1)) t) 2 p (r + 1 + 1)
def mRw (M : Nat → Nat → Nat) (p r t : Nat) : Nat → Nat → Nat := mHg (mR1 M p r t) p r t
theorem mR1_o {M : Nat → Nat → Nat} {p r t f i : Nat} (h : 10 ≤ f → f ≤ 15 → i < 24 * (20 * p + (r + 1))) (h2 : f = 8 ∨ f = 9 → i ≠ 20 * p + (r + 1)) (h3 : ¬ (f = 2 ∧ i = p)) : mR1 M p r t f i = M f i := by
  unfold mR1
  rw [u2_ne (by omega), u2_ne (by omega)]
  unfold mCk
  rw [if_neg (by omega), if_neg (by omega)]
theorem mR1_r {M : Nat → Nat → Nat} {p r t : Nat} : ∀ f k, k < 24 → mR (mR1 M p r t) p r f k = mR M p r f k := fun f k hk => by
  by_cases h0 : f = 0
  · subst h0
    rw [mR_0, mR_0, mR1_o (by omega) (by omega) (by omega)]
  · by_cases h4 : f = 4
    · subst h4
      rw [mR_4, mR_4, mR1_o (by omega) (by omega) (by omega)]
    · have e : ∀ N : Nat → Nat → Nat, mR N p r f k = N (mF f) (24 * (20 * p + r) + k) := fun N => by
        unfold mR
        rw [if_neg h0, if_neg h4]
      have hF : mF f = 10 ∨ mF f = 11 ∨ mF f = 15 ∨ mF f = 13 ∨ mF f = 14 := by
        unfold mF
        split
        · omega
        · split
          · omega
          · split
            · omega
            · split <;> omega
      rw [e, e, mR1_o (by omega) (by omega) (by omega)]
theorem mR1_off {M : Nat → Nat → Nat} {p r t : Nat} {n : Nat} (hn : n ≤ 24) : off (mR (mR1 M p r t) p r) n = off (mR M p r) n := fb_sm_cong (fun k hk => mR1_r 2 k (by omega))
theorem sp_mrow20 {h : nPH} {b : Nat} {M : Nat → Nat → Nat} (H : o8 h b M) (hn : M 1 0 ≤ 12) {p r t : Nat} (hp : p < M 1 0) (h2 : M 2 p = r + 1) (h24 : M 8 (20 * p + r) ≤ 24) (ht : off (mR M p r) (M 8 (20 * p + r)) = t) (h20 : r + 1 = 20) : nRd YX8_row [.ref (b), .int (nI (p))] h (.int (-1)) := by
  refine nSp_of (by decide +kernel) rfl (Nat.le_of_ble_eq_true rfl) (ls := [some (.ref (b)), some (.int (nI (p))), none, none, none]) (by exact (And.intro rfl (And.intro rfl True.intro))) ?_
  refine x_aload_n rfl d_X8_row_0 ?_
  refine x_iload_n rfl d_X8_row_1 ?_
  refine x_rdV d_X8_row_2 lk_8_91 mo_X8_isPanel vi_X8_isPanel (sp_isPanel H hn hp) (o8_o H) ⟨_, rfl, rfl⟩ rfl ⟨Nat.le_of_ble_eq_true rfl, Nat.le_of_ble_eq_true rfl⟩ rfl rfl (Nat.zero_le _) (Nat.zero_le _) (Nat.le_of_ble_eq_true rfl) rfl ?_
  refine x_if_eqN (tgt := 19) d_X8_row_5 (by decide) (by omega) (fun c_1 => by exfalso; omega) (fun c_1 => ?_)
  refine x_aload_n rfl d_X8_row_8 ?_
  refine x_getf co_all (v := .ref (b + 1)) d_X8_row_9 fk_8_13 (o8_o H) rfl ?_
  refine x_iload_n rfl d_X8_row_12 ?_
  refine x_iaload d_X8_row_13 (o8_2 H) (nIx_nI (j := p) (by omega) (by decide)) ?_
  refine x_bipush (v := nI 20) (by decide) d_X8_row_14 ?_
  refine x_icmp_neN (tgt := 21) d_X8_row_16 (by decide) (by omega) (by omega) (fun c_2 => by exfalso; omega) (fun c_2 => ?_)
  refine x_iconst (v := -1) (by decide) d_X8_row_19 ?_
  exact x_ireturn d_X8_row_20 rfl rfl rfl rfl (Nat.zero_le _) (Nat.zero_le _) (⟨rfl, rfl⟩)
theorem sp_mrowN {h : nPH} {b : Nat} {M : Nat → Nat → Nat} (H : o8 h b M) (hn : M 1 0 ≤ 12) {p r t : Nat} (hp : p < M 1 0) (h2 : M 2 p = r + 1) (h24 : M 8 (20 * p + r) ≤ 24) (ht : off (mR M p r) (M 8 (20 * p + r)) = t) (h20 : r + 1 < 20) (hbt : t < 2 ^ 31) (hno : ¬ (1 ≤ t ∧ t ≤ 24)) : nRd YX8_row [.ref (b), .int (nI (p))] h (.int (-1)) := by
  refine nSp_of (by decide +kernel) rfl (Nat.le_of_ble_eq_true rfl) (ls := [some (.ref (b)), some (.int (nI (p))), none, none, none]) (by exact (And.intro rfl (And.intro rfl True.intro))) ?_
  refine x_aload_n rfl d_X8_row_0 ?_
  refine x_iload_n rfl d_X8_row_1 ?_
  refine x_rdV d_X8_row_2 lk_8_91 mo_X8_isPanel vi_X8_isPanel (sp_isPanel H hn hp) (o8_o H) ⟨_, rfl, rfl⟩ rfl ⟨Nat.le_of_ble_eq_true rfl, Nat.le_of_ble_eq_true rfl⟩ rfl rfl (Nat.zero_le _) (Nat.zero_le _) (Nat.le_of_ble_eq_true rfl) rfl ?_
  refine x_if_eqN (tgt := 19) d_X8_row_5 (by decide) (by omega) (fun c_1 => by exfalso; omega) (fun c_1 => ?_)
  refine x_aload_n rfl d_X8_row_8 ?_
  refine x_getf co_all (v := .ref (b + 1)) d_X8_row_9 fk_8_13 (o8_o H) rfl ?_
  refine x_iload_n rfl d_X8_row_12 ?_
  refine x_iaload d_X8_row_13 (o8_2 H) (nIx_nI (j := p) (by omega) (by decide)) ?_
  refine x_bipush (v := nI 20) (by decide) d_X8_row_14 ?_
  refine x_icmp_neN (tgt := 21) d_X8_row_16 (by decide) (by omega) (by omega) (fun c_2 => ?_) (fun c_2 => by exfalso; omega)
  refine x_aload_n rfl d_X8_row_21 ?_
  refine x_getf co_all (v := .ref (b + 1)) d_X8_row_22 fk_8_13 (o8_o H) rfl ?_
  refine x_iload_n rfl d_X8_row_25 ?_
  refine x_iaload d_X8_row_26 (o8_2 H) (nIx_nI (j := p) (by omega) (by decide)) ?_
  refine x_iconst (v := nI 1) (by decide) d_X8_row_27 ?_
  refine x_isubN d_X8_row_28 (by omega) ?_
  rw [show M 2 p - 1 = r by omega]
  refine x_istore_n d_X8_row_29 (Nat.le_of_ble_eq_true rfl) ?_
  refine x_aload_n rfl d_X8_row_30 ?_
  refine x_iload_n rfl d_X8_row_31 ?_
  refine x_iload_n rfl d_X8_row_32 ?_
  refine x_rdV d_X8_row_33 lk_8_112 mo_X8_given vi_X8_given (sp_mgv H (p := p) (r := r) (by omega) (by omega) h24) (o8_o H) ⟨_, rfl, rfl⟩ rfl ⟨Nat.le_of_ble_eq_true rfl, Nat.le_of_ble_eq_true rfl⟩ rfl rfl (Nat.zero_le _) (Nat.zero_le _) (Nat.le_of_ble_eq_true rfl) rfl ?_
  rw [ht]
  refine x_istore_n d_X8_row_36 (Nat.le_of_ble_eq_true rfl) ?_
  refine x_iload_n rfl d_X8_row_37 ?_
  refine x_if_eqN (tgt := 47) d_X8_row_38 (by decide) (by omega) (fun c_3 => ?_) (fun c_3 => ?_)
  · refine x_iconst (v := -1) (by decide) d_X8_row_47 ?_
    exact x_ireturn d_X8_row_48 rfl rfl rfl rfl (Nat.zero_le _) (Nat.zero_le _) (⟨rfl, rfl⟩)
  · refine x_iload_n rfl d_X8_row_41 ?_
    refine x_bipush (v := nI 24) (by decide) d_X8_row_42 ?_
    refine x_icmp_leN (tgt := 49) d_X8_row_44 (by decide) (by omega) (by omega) (fun c_4 => by exfalso; omega) (fun c_4 => ?_)
    refine x_iconst (v := -1) (by decide) d_X8_row_47 ?_
    exact x_ireturn d_X8_row_48 rfl rfl rfl rfl (Nat.zero_le _) (Nat.zero_le _) (⟨rfl, rfl⟩)
theorem sp_mrowP {h : nPH} {b : Nat} {M : Nat → Nat → Nat} (H : o8 h b M) (hn : M 1 0 ≤ 12) {p : Int32} (hp : ¬ nIn p (M 1 0)) : nRd YX8_row [.ref (b), .int (p)] h (.int (-1)) := by
  refine nSp_of (by decide +kernel) rfl (Nat.le_of_ble_eq_true rfl) (ls := [some (.ref (b)), some (.int (p)), none, none, none]) (by exact (And.intro rfl (And.intro rfl True.intro))) ?_
  refine x_aload_n rfl d_X8_row_0 ?_
  refine x_iload_n rfl d_X8_row_1 ?_
  refine x_rdV d_X8_row_2 lk_8_91 mo_X8_isPanel vi_X8_isPanel (sp_isPanelN H hn hp) (o8_o H) ⟨_, rfl, rfl⟩ rfl ⟨Nat.le_of_ble_eq_true rfl, Nat.le_of_ble_eq_true rfl⟩ rfl rfl (Nat.zero_le _) (Nat.zero_le _) (Nat.le_of_ble_eq_true rfl) rfl ?_
  refine x_if_eqN (tgt := 19) d_X8_row_5 (by decide) (by omega) (fun c_1 => ?_) (fun c_1 => by exfalso; omega)
  refine x_iconst (v := -1) (by decide) d_X8_row_19 ?_
  exact x_ireturn d_X8_row_20 rfl rfl rfl rfl (Nat.zero_le _) (Nat.zero_le _) (⟨rfl, rfl⟩)
