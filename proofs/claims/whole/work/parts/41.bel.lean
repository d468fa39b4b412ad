/-! the model: what hangs in a knot -/
def mbl (M : Nat → Nat → Nat) (p r k c : Nat) : Nat := if r + 1 < M 2 p then fb_sm (fun j => hw (mR M p (r + 1)) c j k) (M 8 (20 * p + r + 1)) else 0
theorem mbl_le {M : Nat → Nat → Nat} {p r k c : Nat} (h : M 8 (20 * p + r + 1) ≤ 24) : mbl M p r k c ≤ 24 := by
  unfold mbl
  split
  · have : fb_sm (fun j => hw (mR M p (r + 1)) c j k) (M 8 (20 * p + r + 1)) ≤ M 8 (20 * p + r + 1) * 1 := fb_sm_bound (fun j _ => hw_le _ _ _ _)
    omega
  · omega
/-- what every row of panel p keeps -/
def mP (M : Nat → Nat → Nat) (p : Nat) : Prop := M 2 p ≤ 20 ∧ ∀ r, r < M 2 p → M 8 (20 * p + r) ≤ 24 ∧ ∀ j, j < 24 → mK M (24 * (20 * p + r) + j)
theorem lp_mbl {h : nPH} {b : Nat} {M : Nat → Nat → Nat} (H : o8 h b M) {p r k c : Nat} (hp : p < 12) (hr : r < 20) (Q : mP M p) (hk : k < 2 ^ 30) (hc : c ≤ 2) (h1 : r + 1 < M 2 p) : ∀ n j : Nat, j + n = M 8 (20 * p + r + 1) → nG YX8_below (nKy YX8_below h.1 h.2.1 (fun v h2 => v = some (.int (nI (fb_sm (fun j => hw (mR M p (r + 1)) c j k) (M 8 (20 * p + r + 1))))) ∧ h2 = h)) 0 0 20 [some (.ref (b)), some (.int (nI (p))), some (.int (nI (r))), some (.int (nI (k))), some (.int (nI (c))), some (.int (nI (fb_sm (fun j => hw (mR M p (r + 1)) c j k) j))), some (.int (nI (j)))] [] h := by
  intro n
  have h24 : M 8 (20 * p + r + 1) ≤ 24 := (Q.2 (r + 1) h1).1
  have h20 := Q.1
  induction n with
  | zero =>
    intro j hj
    refine x_iload rfl d_X8_below_20 ?_
    refine x_aload_n rfl d_X8_below_22 ?_
    refine x_getf co_all (v := .ref (b + 7)) d_X8_below_23 fk_8_32 (o8_o H) rfl ?_
    refine x_bipush (v := nI 20) (by decide) d_X8_below_26 ?_
    refine x_iload_n rfl d_X8_below_28 ?_
    refine x_imulN d_X8_below_29 ?_
    refine x_iload_n rfl d_X8_below_30 ?_
    refine x_iaddN d_X8_below_31 ?_
    refine x_iconst (v := nI 1) (by decide) d_X8_below_32 ?_
    refine x_iaddN d_X8_below_33 ?_
    refine x_iaload d_X8_below_34 (o8_8 H) (nIx_nI (j := ((20 * p) + r) + 1) (by omega) (by decide)) ?_
    refine x_icmp_geN (tgt := 66) d_X8_below_35 (by decide) (by omega) (by omega) (fun c_1 => ?_) (fun c_1 => by exfalso; omega)
    refine x_iload rfl d_X8_below_66 ?_
    exact x_ireturn d_X8_below_68 rfl rfl rfl rfl (Nat.zero_le _) (Nat.zero_le _) (⟨by rw [show M 8 (20 * p + r + 1) = j by omega], rfl⟩)
  | succ n ih =>
    intro j hj
    refine x_iload rfl d_X8_below_20 ?_
    refine x_aload_n rfl d_X8_below_22 ?_
    refine x_getf co_all (v := .ref (b + 7)) d_X8_below_23 fk_8_32 (o8_o H) rfl ?_
    refine x_bipush (v := nI 20) (by decide) d_X8_below_26 ?_
    refine x_iload_n rfl d_X8_below_28 ?_
    refine x_imulN d_X8_below_29 ?_
    refine x_iload_n rfl d_X8_below_30 ?_
    refine x_iaddN d_X8_below_31 ?_
    refine x_iconst (v := nI 1) (by decide) d_X8_below_32 ?_
    refine x_iaddN d_X8_below_33 ?_
    refine x_iaload d_X8_below_34 (o8_8 H) (nIx_nI (j := ((20 * p) + r) + 1) (by omega) (by decide)) ?_
    refine x_icmp_geN (tgt := 66) d_X8_below_35 (by decide) (by omega) (by omega) (fun c_1 => by exfalso; omega) (fun c_1 => ?_)
    refine x_aload_n rfl d_X8_below_38 ?_
    refine x_iload_n rfl d_X8_below_39 ?_
    refine x_iload_n rfl d_X8_below_40 ?_
    refine x_iconst (v := nI 1) (by decide) d_X8_below_41 ?_
    refine x_iaddN d_X8_below_42 ?_
    refine x_iload rfl d_X8_below_43 ?_
    refine x_rdS d_X8_below_45 lk_8_99 mo_X8_at sc_X8_at (sp_at) rfl ⟨Nat.le_of_ble_eq_true rfl, Nat.le_of_ble_eq_true rfl⟩ rfl rfl (Nat.zero_le _) (Nat.zero_le _) (Nat.le_of_ble_eq_true rfl) rfl ?_
    refine x_iload_n rfl d_X8_below_48 ?_
    refine x_iload rfl d_X8_below_49 ?_
    refine x_rdV d_X8_below_51 lk_8_139 mo_X8_hangsIn vi_X8_hangsIn (sp_mhg H hp (r := r + 1) (by omega) (j := j) (by omega) hk ((Q.2 (r + 1) h1).2 j (by omega)) hc) (o8_o H) ⟨_, rfl, rfl⟩ rfl ⟨Nat.le_of_ble_eq_true rfl, Nat.le_of_ble_eq_true rfl⟩ rfl rfl (Nat.zero_le _) (Nat.zero_le _) (Nat.le_of_ble_eq_true rfl) rfl ?_
    have hle := hw_le (mR M p (r + 1)) c j k
    refine x_if_eqN (tgt := 60) d_X8_below_54 (by decide) (by omega) (fun c_2 => ?_) (fun c_2 => ?_)
    · refine x_iincN (m := 1) d_X8_below_60 rfl (by decide) (Nat.le_of_ble_eq_true rfl) ?_
      refine x_goto (tgt := 20) d_X8_below_63 (by decide) ?_
      exact nG.eq (by rw [fb_sm_succ, show hw (mR M p (r + 1)) c j k = 0 by omega]; rfl) rfl rfl rfl rfl (ih (j + 1) (by omega))
    · refine x_iincN (m := 1) d_X8_below_57 rfl (by decide) (Nat.le_of_ble_eq_true rfl) ?_
      refine x_iincN (m := 1) d_X8_below_60 rfl (by decide) (Nat.le_of_ble_eq_true rfl) ?_
      refine x_goto (tgt := 20) d_X8_below_63 (by decide) ?_
      exact nG.eq (by rw [fb_sm_succ, show hw (mR M p (r + 1)) c j k = 1 by omega]; rfl) rfl rfl rfl rfl (ih (j + 1) (by omega))
theorem sp_mbl {h : nPH} {b : Nat} {M : Nat → Nat → Nat} (H : o8 h b M) {p r k c : Nat} (hp : p < 12) (hr : r < 20) (Q : mP M p) (hk : k < 2 ^ 30) (hc : c ≤ 2) : nRd YX8_below [.ref b, .int (nI p), .int (nI r), .int (nI k), .int (nI c)] h (.int (nI (mbl M p r k c))) := by
  have h20 := Q.1
  unfold mbl
  by_cases h1 : r + 1 < M 2 p
  · rw [if_pos h1]
    refine nSp_of (by decide +kernel) rfl (Nat.le_of_ble_eq_true rfl) (ls := [some (.ref (b)), some (.int (nI (p))), some (.int (nI (r))), some (.int (nI (k))), some (.int (nI (c))), none, none]) (by exact (And.intro rfl (And.intro rfl (And.intro rfl (And.intro rfl (And.intro rfl True.intro)))))) ?_
    refine x_iload_n rfl d_X8_below_0 ?_
    refine x_iconst (v := nI 1) (by decide) d_X8_below_1 ?_
    refine x_iaddN d_X8_below_2 ?_
    refine x_aload_n rfl d_X8_below_3 ?_
    refine x_getf co_all (v := .ref (b + 1)) d_X8_below_4 fk_8_13 (o8_o H) rfl ?_
    refine x_iload_n rfl d_X8_below_7 ?_
    refine x_iaload d_X8_below_8 (o8_2 H) (nIx_nI (j := p) (by omega) (by decide)) ?_
    refine x_icmp_ltN (tgt := 14) d_X8_below_9 (by decide) (by omega) (by omega) (fun c_1 => ?_) (fun c_1 => by exfalso; omega)
    refine x_iconst (v := nI 0) (by decide) d_X8_below_14 ?_
    refine x_istore d_X8_below_15 (Nat.le_of_ble_eq_true rfl) ?_
    refine x_iconst (v := nI 0) (by decide) d_X8_below_17 ?_
    refine x_istore d_X8_below_18 (Nat.le_of_ble_eq_true rfl) ?_
    exact lp_mbl H hp hr Q hk hc h1 (M 8 (20 * p + r + 1)) 0 (by omega)
  · rw [if_neg h1]
    refine nSp_of (by decide +kernel) rfl (Nat.le_of_ble_eq_true rfl) (ls := [some (.ref (b)), some (.int (nI (p))), some (.int (nI (r))), some (.int (nI (k))), some (.int (nI (c))), none, none]) (by exact (And.intro rfl (And.intro rfl (And.intro rfl (And.intro rfl (And.intro rfl True.intro)))))) ?_
    refine x_iload_n rfl d_X8_below_0 ?_
    refine x_iconst (v := nI 1) (by decide) d_X8_below_1 ?_
    refine x_iaddN d_X8_below_2 ?_
    refine x_aload_n rfl d_X8_below_3 ?_
    refine x_getf co_all (v := .ref (b + 1)) d_X8_below_4 fk_8_13 (o8_o H) rfl ?_
    refine x_iload_n rfl d_X8_below_7 ?_
    refine x_iaload d_X8_below_8 (o8_2 H) (nIx_nI (j := p) (by omega) (by decide)) ?_
    refine x_icmp_ltN (tgt := 14) d_X8_below_9 (by decide) (by omega) (by omega) (fun c_1 => by exfalso; omega) (fun c_1 => ?_)
    refine x_iconst (v := nI 0) (by decide) d_X8_below_12 ?_
    exact x_ireturn d_X8_below_13 rfl rfl rfl rfl (Nat.zero_le _) (Nat.zero_le _) (⟨rfl, rfl⟩)
def mgs (M : Nat → Nat → Nat) (p r k : Nat) : Nat := pcn (M 14 (24 * (20 * p + r) + k)) + mbl M p r k 1
theorem sp_mgs {h : nPH} {b : Nat} {M : Nat → Nat → Nat} (H : o8 h b M) {p r k : Nat} (hp : p < 12) (hr : r < M 2 p) (hk : k < 24) (Q : mP M p) : nRd YX8_goneAt [.ref (b), .int (nI (p)), .int (nI (r)), .int (nI (k))] h (.int (nI (mgs M p r k))) := by
  have h20 := Q.1
  have k3 := ((Q.2 r hr).2 k hk).2.2.1
  refine nSp_of (by decide +kernel) rfl (Nat.le_of_ble_eq_true rfl) (ls := [some (.ref (b)), some (.int (nI (p))), some (.int (nI (r))), some (.int (nI (k)))]) (by exact (And.intro rfl (And.intro rfl (And.intro rfl (And.intro rfl True.intro))))) ?_
  refine x_aload_n rfl d_X8_goneAt_0 ?_
  refine x_getf co_all (v := .ref (b + 13)) d_X8_goneAt_1 fk_8_51 (o8_o H) rfl ?_
  refine x_iload_n rfl d_X8_goneAt_4 ?_
  refine x_iload_n rfl d_X8_goneAt_5 ?_
  refine x_iload_n rfl d_X8_goneAt_6 ?_
  refine x_rdS d_X8_goneAt_7 lk_8_99 mo_X8_at sc_X8_at (sp_at) rfl ⟨Nat.le_of_ble_eq_true rfl, Nat.le_of_ble_eq_true rfl⟩ rfl rfl (Nat.zero_le _) (Nat.zero_le _) (Nat.le_of_ble_eq_true rfl) rfl ?_
  refine x_iaload d_X8_goneAt_10 (o8_14 H) (nIx_nI (j := 24 * (20 * p + r) + k) (by omega) (by decide)) ?_
  refine x_rdS d_X8_goneAt_11 lk_8_142 mo_X8_bits sc_X8_bits (sp_mbits (g := M 14 (24 * (20 * p + r) + k)) (by omega)) rfl ⟨Nat.le_of_ble_eq_true rfl, Nat.le_of_ble_eq_true rfl⟩ rfl rfl (Nat.zero_le _) (Nat.zero_le _) (Nat.le_of_ble_eq_true rfl) rfl ?_
  refine x_aload_n rfl d_X8_goneAt_14 ?_
  refine x_iload_n rfl d_X8_goneAt_15 ?_
  refine x_iload_n rfl d_X8_goneAt_16 ?_
  refine x_iload_n rfl d_X8_goneAt_17 ?_
  refine x_iconst (v := nI 1) (by decide) d_X8_goneAt_18 ?_
  refine x_rdV d_X8_goneAt_19 lk_8_145 mo_X8_below vi_X8_below (sp_mbl H hp (r := r) (k := k) (c := 1) (by omega) Q (by omega) (by decide)) (o8_o H) ⟨_, rfl, rfl⟩ rfl ⟨Nat.le_of_ble_eq_true rfl, Nat.le_of_ble_eq_true rfl⟩ rfl rfl (Nat.zero_le _) (Nat.zero_le _) (Nat.le_of_ble_eq_true rfl) rfl ?_
  refine x_iaddN d_X8_goneAt_22 ?_
  exact x_ireturn d_X8_goneAt_23 rfl rfl rfl rfl (Nat.zero_le _) (Nat.zero_le _) (⟨rfl, rfl⟩)
theorem lp_mgv {h : nPH} {b : Nat} {M : Nat → Nat → Nat} (H : o8 h b M) {p r : Nat} (hp : p < 12) (hr : r < 20) (h24 : M 8 (20 * p + r) ≤ 24) : ∀ n k : Nat, k + n = M 8 (20 * p + r) → nG YX8_given (nKy YX8_given h.1 h.2.1 (fun v h2 => v = some (.int (nI (off (mR M p r) (M 8 (20 * p + r))))) ∧ h2 = h)) 0 0 5 [some (.ref (b)), some (.int (nI (p))), some (.int (nI (r))), some (.int (nI (off (mR M p r) k))), some (.int (nI (k)))] [] h := by
  intro n
  induction n with
  | zero =>
    intro k hk
    refine x_iload rfl d_X8_given_5 ?_
    refine x_aload_n rfl d_X8_given_7 ?_
    refine x_getf co_all (v := .ref (b + 7)) d_X8_given_8 fk_8_32 (o8_o H) rfl ?_
    refine x_bipush (v := nI 20) (by decide) d_X8_given_11 ?_
    refine x_iload_n rfl d_X8_given_13 ?_
    refine x_imulN d_X8_given_14 ?_
    refine x_iload_n rfl d_X8_given_15 ?_
    refine x_iaddN d_X8_given_16 ?_
    refine x_iaload d_X8_given_17 (o8_8 H) (nIx_nI (j := (20 * p) + r) (by omega) (by decide)) ?_
    refine x_icmp_geN (tgt := 42) d_X8_given_18 (by decide) (by omega) (by omega) (fun c_1 => ?_) (fun c_1 => by exfalso; omega)
    refine x_iload_n rfl d_X8_given_42 ?_
    exact x_ireturn d_X8_given_43 rfl rfl rfl rfl (Nat.zero_le _) (Nat.zero_le _) (⟨by rw [show M 8 (20 * p + r) = k by omega], rfl⟩)
  | succ n ih =>
    intro k hk
    refine x_iload rfl d_X8_given_5 ?_
    refine x_aload_n rfl d_X8_given_7 ?_
    refine x_getf co_all (v := .ref (b + 7)) d_X8_given_8 fk_8_32 (o8_o H) rfl ?_
    refine x_bipush (v := nI 20) (by decide) d_X8_given_11 ?_
    refine x_iload_n rfl d_X8_given_13 ?_
    refine x_imulN d_X8_given_14 ?_
    refine x_iload_n rfl d_X8_given_15 ?_
    refine x_iaddN d_X8_given_16 ?_
    refine x_iaload d_X8_given_17 (o8_8 H) (nIx_nI (j := (20 * p) + r) (by omega) (by decide)) ?_
    refine x_icmp_geN (tgt := 42) d_X8_given_18 (by decide) (by omega) (by omega) (fun c_1 => by exfalso; omega) (fun c_1 => ?_)
    refine x_iload_n rfl d_X8_given_21 ?_
    refine x_aload_n rfl d_X8_given_22 ?_
    refine x_getf co_all (v := .ref (b + 10)) d_X8_given_23 fk_8_42 (o8_o H) rfl ?_
    refine x_iload_n rfl d_X8_given_26 ?_
    refine x_iload_n rfl d_X8_given_27 ?_
    refine x_iload rfl d_X8_given_28 ?_
    refine x_rdS d_X8_given_30 lk_8_99 mo_X8_at sc_X8_at (sp_at) rfl ⟨Nat.le_of_ble_eq_true rfl, Nat.le_of_ble_eq_true rfl⟩ rfl rfl (Nat.zero_le _) (Nat.zero_le _) (Nat.le_of_ble_eq_true rfl) rfl ?_
    refine x_iaload d_X8_given_33 (o8_11 H) (nIx_nI (j := 24 * (20 * p + r) + k) (by omega) (by decide)) ?_
    refine x_iaddN d_X8_given_34 ?_
    refine x_istore_n d_X8_given_35 (Nat.le_of_ble_eq_true rfl) ?_
    refine x_iincN (m := 1) d_X8_given_36 rfl (by decide) (Nat.le_of_ble_eq_true rfl) ?_
    refine x_goto (tgt := 5) d_X8_given_39 (by decide) ?_
    exact nG.eq (by rw [off_s, mR_2]; rfl) rfl rfl rfl rfl (ih (k + 1) (by omega))
theorem sp_mgv {h : nPH} {b : Nat} {M : Nat → Nat → Nat} (H : o8 h b M) {p r : Nat} (hp : p < 12) (hr : r < 20) (h24 : M 8 (20 * p + r) ≤ 24) : nRd YX8_given [.ref b, .int (nI p), .int (nI r)] h (.int (nI (off (mR M p r) (M 8 (20 * p + r))))) := by
  refine nSp_of (by decide +kernel) rfl (Nat.le_of_ble_eq_true rfl) (ls := [some (.ref (b)), some (.int (nI (p))), some (.int (nI (r))), none, none]) (by exact (And.intro rfl (And.intro rfl (And.intro rfl True.intro)))) ?_
  refine x_iconst (v := nI 0) (by decide) d_X8_given_0 ?_
  refine x_istore_n d_X8_given_1 (Nat.le_of_ble_eq_true rfl) ?_
  refine x_iconst (v := nI 0) (by decide) d_X8_given_2 ?_
  refine x_istore d_X8_given_3 (Nat.le_of_ble_eq_true rfl) ?_
  exact lp_mgv H hp hr h24 (M 8 (20 * p + r)) 0 (by omega)
theorem sp_becomes {h : nPH} {b : Nat} {M : Nat → Nat → Nat} (H : o8 h b M) {x z : Nat} (hx : x < 5760) (hz : z ≤ 2) : nWv YX8_becomes [.ref (b), .int (nI (x)), .int (nI (z))] h none (fun h2 => nFr (nIv b 24) h h2 ∧ o8 h2 b (u2 (u2 M 10 x z) 11 x (gvo z))) := by
  refine nSp_of (by decide +kernel) rfl (Nat.le_of_ble_eq_true rfl) (ls := [some (.ref (b)), some (.int (nI (x))), some (.int (nI (z)))]) (by exact (And.intro rfl (And.intro rfl (And.intro rfl True.intro)))) ?_
  refine x_aload_n rfl d_X8_becomes_0 ?_
  refine x_getf co_all (v := .ref (b + 9)) d_X8_becomes_1 fk_8_39 (o8_o H) rfl ?_
  refine x_iload_n rfl d_X8_becomes_4 ?_
  refine x_iload_n rfl d_X8_becomes_5 ?_
  refine x_iastore d_X8_becomes_6 (o8_10 H) (nIx_nI (j := x) (by omega) (by decide)) (Nat.le_trans (o8_B H) (Nat.le_add_right _ _)) ?_
  have H1_8 := o8_ast10 (x) (z) H
  have f_2 := o8_f10 (x) (z) H ((nFr.rf (S := nIv b 24) (h := h))) (by exact ⟨by omega, by omega⟩)
  refine x_aload_n rfl d_X8_becomes_7 ?_
  refine x_getf co_all (v := .ref (b + 10)) d_X8_becomes_8 fk_8_42 (o8_o H1_8) rfl ?_
  refine x_iload_n rfl d_X8_becomes_11 ?_
  refine x_iload_n rfl d_X8_becomes_12 ?_
  refine x_if_neN (tgt := 20) d_X8_becomes_13 (by decide) (by omega) (fun c_3 => ?_) (fun c_3 => ?_)
  · refine x_iload_n rfl d_X8_becomes_20 ?_
    refine x_iconst (v := nI 1) (by decide) d_X8_becomes_21 ?_
    refine x_icmp_neN (tgt := 29) d_X8_becomes_22 (by decide) (by omega) (by omega) (fun c_4 => ?_) (fun c_4 => ?_)
    · refine x_iconst (v := nI 0) (by decide) d_X8_becomes_29 ?_
      refine x_iastore d_X8_becomes_30 (o8_11 H1_8) (nIx_nI (j := x) (by omega) (by decide)) (Nat.le_trans (o8_B H1_8) (Nat.le_add_right _ _)) ?_
      have H5_8 := o8_ast11 (x) (0) H1_8
      have f_6 := o8_f11 (x) (0) H1_8 (f_2) (by exact ⟨by omega, by omega⟩)
      exact x_return d_X8_becomes_31 rfl (f_6).1 (f_6).2.1 (Nat.zero_le _) (Nat.zero_le _) (⟨rfl, f_6, by unfold gvo; rw [if_neg (by omega), if_pos (by omega)]; exact H5_8⟩)
    · refine x_iconst (v := nI 2) (by decide) d_X8_becomes_25 ?_
      refine x_goto (tgt := 30) d_X8_becomes_26 (by decide) ?_
      refine x_iastore d_X8_becomes_30 (o8_11 H1_8) (nIx_nI (j := x) (by omega) (by decide)) (Nat.le_trans (o8_B H1_8) (Nat.le_add_right _ _)) ?_
      have H7_8 := o8_ast11 (x) (2) H1_8
      have f_8 := o8_f11 (x) (2) H1_8 (f_2) (by exact ⟨by omega, by omega⟩)
      exact x_return d_X8_becomes_31 rfl (f_8).1 (f_8).2.1 (Nat.zero_le _) (Nat.zero_le _) (⟨rfl, f_8, by unfold gvo; rw [if_pos (by omega)]; exact H7_8⟩)
  · refine x_iconst (v := nI 1) (by decide) d_X8_becomes_16 ?_
    refine x_goto (tgt := 30) d_X8_becomes_17 (by decide) ?_
    refine x_iastore d_X8_becomes_30 (o8_11 H1_8) (nIx_nI (j := x) (by omega) (by decide)) (Nat.le_trans (o8_B H1_8) (Nat.le_add_right _ _)) ?_
    have H9_8 := o8_ast11 (x) (1) H1_8
    have f_10 := o8_f11 (x) (1) H1_8 (f_2) (by exact ⟨by omega, by omega⟩)
    exact x_return d_X8_becomes_31 rfl (f_10).1 (f_10).2.1 (Nat.zero_le _) (Nat.zero_le _) (⟨rfl, f_10, by unfold gvo; rw [if_neg (by omega), if_neg (by omega)]; exact H9_8⟩)
