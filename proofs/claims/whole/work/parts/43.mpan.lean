/-! the model: a new panel -/
def mN0 (M : Nat → Nat → Nat) (g s : Nat) : Nat → Nat → Nat := u2 (u2 (u2 (u2 (u2 M 2 (M 1 0) 0) 3 (M 1 0) g) 4 (M 1 0) s) 5 (M 1 0) 1) 6 (M 1 0) 1
def mNk (M : Nat → Nat → Nat) (p k : Nat) : Nat → Nat → Nat := fun f i => if f = 7 ∧ 24 * p ≤ i ∧ i < 24 * p + k then 0 else M f i
theorem mNk_s (M : Nat → Nat → Nat) (p k f i : Nat) : mNk M p (k + 1) f i = u2 (mNk M p k) 7 (24 * p + k) 0 f i := by
  show (if f = 7 ∧ 24 * p ≤ i ∧ i < 24 * p + (k + 1) then 0 else M f i) = (if f = 7 ∧ i = 24 * p + k then 0 else if f = 7 ∧ 24 * p ≤ i ∧ i < 24 * p + k then 0 else M f i)
  by_cases h1 : f = 7 ∧ i = 24 * p + k
  · rw [if_pos (by omega), if_pos h1]
  · rw [if_neg h1]
    by_cases h2 : f = 7 ∧ 24 * p ≤ i ∧ i < 24 * p + k
    · rw [if_pos (by omega), if_pos h2]
    · rw [if_neg (by omega), if_neg h2]
def mNp (M : Nat → Nat → Nat) (g s : Nat) : Nat → Nat → Nat := u2 (mNk (mN0 M g s) (M 1 0) 24) 1 0 (M 1 0 + 1)
theorem lp_mnp {h0 : nPH} {b : Nat} {M : Nat → Nat → Nat} (hn : M 1 0 < 12) {g s : Nat} : ∀ n k : Nat, k + n = 24 → ∀ h : nPH, nFr (nIv b 24) h0 h → o8 h b (mNk (mN0 M g s) (M 1 0) k) → nG YX8_newPanel (nKy YX8_newPanel h0.1 h0.2.1 (fun v h2 => v = some (.int (nI (M 1 0))) ∧ nFr (nIv b 24) h0 h2 ∧ o8 h2 b (mNp M g s))) 0 0 43 [some (.ref (b)), some (.int (nI (g))), some (.int (nI (s))), some (.int (nI (M 1 0))), some (.int (nI (k)))] [] h := by
  intro n
  have e1 : ∀ k, mNk (mN0 M g s) (M 1 0) k 1 0 = M 1 0 := fun _ => rfl
  induction n with
  | zero =>
    intro k hk h F H
    have e : k = 24 := by omega
    subst e
    refine x_iload rfl d_X8_newPanel_43 ?_
    refine x_bipush (v := nI 24) (by decide) d_X8_newPanel_45 ?_
    refine x_icmp_geN (tgt := 69) d_X8_newPanel_47 (by decide) (by omega) (by omega) (fun c_1 => ?_) (fun c_1 => by exfalso; omega)
    refine x_aload_n rfl d_X8_newPanel_69 ?_
    refine x_dup rfl d_X8_newPanel_70 ?_
    refine x_getf co_all (v := .int (nI ((mNk (mN0 M g s) (M 1 0) 24) 1 0))) d_X8_newPanel_71 fk_8_88 (o8_o H) rfl ?_
    rw [e1 24]
    refine x_iconst (v := nI 1) (by decide) d_X8_newPanel_74 ?_
    refine x_iaddN d_X8_newPanel_75 ?_
    refine x_putf co_all d_X8_newPanel_76 fk_8_88 ft_8_1 (o8_o H) (Nat.le_of_ble_eq_true rfl) rfl rfl (o8_B H) ?_
    have H2_8 := o8_put1 (((mNk (mN0 M g s) (M 1 0) 24) 1 0) + 1) H
    have f_3 := o8_g1 (((mNk (mN0 M g s) (M 1 0) 24) 1 0) + 1) H (F) (by exact ⟨by omega, by omega⟩)
    refine x_iload_n rfl d_X8_newPanel_79 ?_
    exact x_ireturn d_X8_newPanel_80 rfl rfl (f_3).1 (f_3).2.1 (Nat.zero_le _) (Nat.zero_le _) (⟨rfl, f_3, H2_8⟩)
  | succ n ih =>
    intro k hk h F H
    refine x_iload rfl d_X8_newPanel_43 ?_
    refine x_bipush (v := nI 24) (by decide) d_X8_newPanel_45 ?_
    refine x_icmp_geN (tgt := 69) d_X8_newPanel_47 (by decide) (by omega) (by omega) (fun c_1 => by exfalso; omega) (fun c_1 => ?_)
    refine x_aload_n rfl d_X8_newPanel_50 ?_
    refine x_getf co_all (v := .ref (b + 6)) d_X8_newPanel_51 fk_8_29 (o8_o H) rfl ?_
    refine x_bipush (v := nI 24) (by decide) d_X8_newPanel_54 ?_
    refine x_iload_n rfl d_X8_newPanel_56 ?_
    refine x_imulN d_X8_newPanel_57 ?_
    refine x_iload rfl d_X8_newPanel_58 ?_
    refine x_iaddN d_X8_newPanel_60 ?_
    refine x_iconst (v := nI 0) (by decide) d_X8_newPanel_61 ?_
    refine x_iastore d_X8_newPanel_62 (o8_7 H) (nIx_nI (j := (24 * (M 1 0)) + k) (by omega) (by decide)) (Nat.le_trans (o8_B H) (Nat.le_add_right _ _)) ?_
    have H2_8 := o8_ast7 ((24 * (M 1 0)) + k) (0) H
    have f_3 := o8_f7 ((24 * (M 1 0)) + k) (0) H (F) (by exact ⟨by omega, by omega⟩)
    refine x_iincN (m := 1) d_X8_newPanel_63 rfl (by decide) (Nat.le_of_ble_eq_true rfl) ?_
    refine x_goto (tgt := 43) d_X8_newPanel_66 (by decide) ?_
    exact ih (k + 1) (by omega) _ f_3 (o8_cg H2_8 (mNk_s (mN0 M g s) (M 1 0) k))
theorem sp_mnp {h : nPH} {b : Nat} {M : Nat → Nat → Nat} (hn : M 1 0 < 12) {g s : Nat} (H : o8 h b M) : nWv YX8_newPanel [.ref b, .int (nI g), .int (nI s)] h (some (.int (nI (M 1 0)))) (fun h2 => nFr (nIv b 24) h h2 ∧ o8 h2 b (mNp M g s)) := by
  refine nSp_of (by decide +kernel) rfl (Nat.le_of_ble_eq_true rfl) (ls := [some (.ref (b)), some (.int (nI (g))), some (.int (nI (s))), none, none]) (by exact (And.intro rfl (And.intro rfl (And.intro rfl True.intro)))) ?_
  refine x_aload_n rfl d_X8_newPanel_0 ?_
  refine x_getf co_all (v := .int (nI (M 1 0))) d_X8_newPanel_1 fk_8_88 (o8_o H) rfl ?_
  refine x_istore_n d_X8_newPanel_4 (Nat.le_of_ble_eq_true rfl) ?_
  refine x_aload_n rfl d_X8_newPanel_5 ?_
  refine x_getf co_all (v := .ref (b + 1)) d_X8_newPanel_6 fk_8_13 (o8_o H) rfl ?_
  refine x_iload_n rfl d_X8_newPanel_9 ?_
  refine x_iconst (v := nI 0) (by decide) d_X8_newPanel_10 ?_
  refine x_iastore d_X8_newPanel_11 (o8_2 H) (nIx_nI (j := M 1 0) (by omega) (by decide)) (Nat.le_trans (o8_B H) (Nat.le_add_right _ _)) ?_
  have H1_8 := o8_ast2 (M 1 0) (0) H
  have f_2 := o8_f2 (M 1 0) (0) H ((nFr.rf (S := nIv b 24) (h := h))) (by exact ⟨by omega, by omega⟩)
  refine x_aload_n rfl d_X8_newPanel_12 ?_
  refine x_getf co_all (v := .ref (b + 2)) d_X8_newPanel_13 fk_8_17 (o8_o H1_8) rfl ?_
  refine x_iload_n rfl d_X8_newPanel_16 ?_
  refine x_iload_n rfl d_X8_newPanel_17 ?_
  refine x_iastore d_X8_newPanel_18 (o8_3 H1_8) (nIx_nI (j := M 1 0) (by omega) (by decide)) (Nat.le_trans (o8_B H1_8) (Nat.le_add_right _ _)) ?_
  have H3_8 := o8_ast3 (M 1 0) (g) H1_8
  have f_4 := o8_f3 (M 1 0) (g) H1_8 (f_2) (by exact ⟨by omega, by omega⟩)
  refine x_aload_n rfl d_X8_newPanel_19 ?_
  refine x_getf co_all (v := .ref (b + 3)) d_X8_newPanel_20 fk_8_20 (o8_o H3_8) rfl ?_
  refine x_iload_n rfl d_X8_newPanel_23 ?_
  refine x_iload_n rfl d_X8_newPanel_24 ?_
  refine x_iastore d_X8_newPanel_25 (o8_4 H3_8) (nIx_nI (j := M 1 0) (by omega) (by decide)) (Nat.le_trans (o8_B H3_8) (Nat.le_add_right _ _)) ?_
  have H5_8 := o8_ast4 (M 1 0) (s) H3_8
  have f_6 := o8_f4 (M 1 0) (s) H3_8 (f_4) (by exact ⟨by omega, by omega⟩)
  refine x_aload_n rfl d_X8_newPanel_26 ?_
  refine x_getf co_all (v := .ref (b + 4)) d_X8_newPanel_27 fk_8_23 (o8_o H5_8) rfl ?_
  refine x_iload_n rfl d_X8_newPanel_30 ?_
  refine x_iconst (v := nI 1) (by decide) d_X8_newPanel_31 ?_
  refine x_iastore d_X8_newPanel_32 (o8_5 H5_8) (nIx_nI (j := M 1 0) (by omega) (by decide)) (Nat.le_trans (o8_B H5_8) (Nat.le_add_right _ _)) ?_
  have H7_8 := o8_ast5 (M 1 0) (1) H5_8
  have f_8 := o8_f5 (M 1 0) (1) H5_8 (f_6) (by exact ⟨by omega, by omega⟩)
  refine x_aload_n rfl d_X8_newPanel_33 ?_
  refine x_getf co_all (v := .ref (b + 5)) d_X8_newPanel_34 fk_8_26 (o8_o H7_8) rfl ?_
  refine x_iload_n rfl d_X8_newPanel_37 ?_
  refine x_iconst (v := nI 1) (by decide) d_X8_newPanel_38 ?_
  refine x_iastore d_X8_newPanel_39 (o8_6 H7_8) (nIx_nI (j := M 1 0) (by omega) (by decide)) (Nat.le_trans (o8_B H7_8) (Nat.le_add_right _ _)) ?_
  have H9_8 := o8_ast6 (M 1 0) (1) H7_8
  have f_10 := o8_f6 (M 1 0) (1) H7_8 (f_8) (by exact ⟨by omega, by omega⟩)
  refine x_iconst (v := nI 0) (by decide) d_X8_newPanel_40 ?_
  refine x_istore d_X8_newPanel_41 (Nat.le_of_ble_eq_true rfl) ?_
  exact lp_mnp hn 24 0 (by omega) _ f_10 (o8_cg H9_8 (fun f i => if_neg (by omega)))
