/-! the model: rows are made -/
def mCk (M : Nat → Nat → Nat) (y k : Nat) : Nat → Nat → Nat := fun f i => if (f = 8 ∨ f = 9) ∧ i = y then 0 else if (10 ≤ f ∧ f ≤ 15) ∧ 24 * y ≤ i ∧ i < 24 * y + k then (if f = 11 then 1 else 0) else M f i
def mC6 (M : Nat → Nat → Nat) (x : Nat) : Nat → Nat → Nat := u2 (u2 (u2 (u2 (u2 (u2 M 10 x 0) 11 x 1) 12 x 0) 13 x 0) 14 x 0) 15 x 0
theorem mC6_v (M : Nat → Nat → Nat) (x f i : Nat) : mC6 M x f i = if (10 ≤ f ∧ f ≤ 15) ∧ i = x then (if f = 11 then 1 else 0) else M f i := by
  by_cases e : i = x
  · subst e
    by_cases h : 10 ≤ f ∧ f ≤ 15
    · rw [if_pos ⟨h, rfl⟩]
      rcases (show f = 10 ∨ f = 11 ∨ f = 12 ∨ f = 13 ∨ f = 14 ∨ f = 15 by omega) with rfl | rfl | rfl | rfl | rfl | rfl <;> simp [mC6, u2]
    · rw [if_neg (fun z => h z.1)]
      unfold mC6
      rw [u2_ne (by omega), u2_ne (by omega), u2_ne (by omega), u2_ne (by omega), u2_ne (by omega), u2_ne (by omega)]
  · rw [if_neg (fun z => e z.2)]
    unfold mC6
    rw [u2_ne (by omega), u2_ne (by omega), u2_ne (by omega), u2_ne (by omega), u2_ne (by omega), u2_ne (by omega)]
theorem mCk_s (M : Nat → Nat → Nat) (y k f i : Nat) : mCk M y (k + 1) f i = mC6 (mCk M y k) (24 * y + k) f i := by
  rw [mC6_v]
  unfold mCk
  by_cases h1 : (f = 8 ∨ f = 9) ∧ i = y
  · rw [if_pos h1, if_neg (by omega), if_pos h1]
  · rw [if_neg h1]
    by_cases h2 : (10 ≤ f ∧ f ≤ 15) ∧ i = 24 * y + k
    · rw [if_pos (by omega), if_pos h2]
    · rw [if_neg h2, if_neg h1]
      by_cases h3 : (10 ≤ f ∧ f ≤ 15) ∧ 24 * y ≤ i ∧ i < 24 * y + k
      · rw [if_pos (by omega), if_pos h3]
      · rw [if_neg (by omega), if_neg h3]
theorem lp_mcl {h0 : nPH} {b : Nat} {M : Nat → Nat → Nat} {p r : Nat} (hp : p < 12) (hr : r < 20) : ∀ n k : Nat, k + n = 24 → ∀ h : nPH, nFr (nIv b 24) h0 h → o8 h b (mCk M (20 * p + r) k) → nG YX8_clears (nKy YX8_clears h0.1 h0.2.1 (fun v h2 => v = none ∧ nFr (nIv b 24) h0 h2 ∧ o8 h2 b (mCk M (20 * p + r) 24))) 0 0 26 [some (.ref (b)), some (.int (nI (p))), some (.int (nI (r))), some (.int (nI (k))), none] [] h := by
  intro n
  induction n with
  | zero =>
    intro k hk h F H
    have e : k = 24 := by omega
    subst e
    refine x_iload_n rfl d_X8_clears_26 ?_
    refine x_bipush (v := nI 24) (by decide) d_X8_clears_27 ?_
    refine x_icmp_geN (tgt := 94) d_X8_clears_29 (by decide) (by omega) (by omega) (fun c_1 => ?_) (fun c_1 => by exfalso; omega)
    exact x_return d_X8_clears_94 rfl F.1 F.2.1 (Nat.zero_le _) (Nat.zero_le _) (⟨rfl, F, H⟩)
  | succ n ih =>
    intro k hk h F H
    refine x_iload_n rfl d_X8_clears_26 ?_
    refine x_bipush (v := nI 24) (by decide) d_X8_clears_27 ?_
    refine x_icmp_geN (tgt := 94) d_X8_clears_29 (by decide) (by omega) (by omega) (fun c_1 => by exfalso; omega) (fun c_1 => ?_)
    refine x_iload_n rfl d_X8_clears_32 ?_
    refine x_iload_n rfl d_X8_clears_33 ?_
    refine x_iload_n rfl d_X8_clears_34 ?_
    refine x_rdS d_X8_clears_35 lk_8_99 mo_X8_at sc_X8_at (sp_at) rfl ⟨Nat.le_of_ble_eq_true rfl, Nat.le_of_ble_eq_true rfl⟩ rfl rfl (Nat.zero_le _) (Nat.zero_le _) (Nat.le_of_ble_eq_true rfl) rfl ?_
    refine x_istore d_X8_clears_38 (Nat.le_of_ble_eq_true rfl) ?_
    refine x_aload_n rfl d_X8_clears_40 ?_
    refine x_getf co_all (v := .ref (b + 9)) d_X8_clears_41 fk_8_39 (o8_o H) rfl ?_
    refine x_iload rfl d_X8_clears_44 ?_
    refine x_iconst (v := nI 0) (by decide) d_X8_clears_46 ?_
    refine x_iastore d_X8_clears_47 (o8_10 H) (nIx_nI (j := 24 * (20 * p + r) + k) (by omega) (by decide)) (Nat.le_trans (o8_B H) (Nat.le_add_right _ _)) ?_
    have H2_8 := o8_ast10 (24 * (20 * p + r) + k) (0) H
    have f_3 := o8_f10 (24 * (20 * p + r) + k) (0) H (F) (by exact ⟨by omega, by omega⟩)
    refine x_aload_n rfl d_X8_clears_48 ?_
    refine x_getf co_all (v := .ref (b + 10)) d_X8_clears_49 fk_8_42 (o8_o H2_8) rfl ?_
    refine x_iload rfl d_X8_clears_52 ?_
    refine x_iconst (v := nI 1) (by decide) d_X8_clears_54 ?_
    refine x_iastore d_X8_clears_55 (o8_11 H2_8) (nIx_nI (j := 24 * (20 * p + r) + k) (by omega) (by decide)) (Nat.le_trans (o8_B H2_8) (Nat.le_add_right _ _)) ?_
    have H4_8 := o8_ast11 (24 * (20 * p + r) + k) (1) H2_8
    have f_5 := o8_f11 (24 * (20 * p + r) + k) (1) H2_8 (f_3) (by exact ⟨by omega, by omega⟩)
    refine x_aload_n rfl d_X8_clears_56 ?_
    refine x_getf co_all (v := .ref (b + 11)) d_X8_clears_57 fk_8_45 (o8_o H4_8) rfl ?_
    refine x_iload rfl d_X8_clears_60 ?_
    refine x_iconst (v := -1) (by decide) d_X8_clears_62 ?_
    rw [← nV_0]
    refine x_iastore d_X8_clears_63 (o8_12 H4_8) (nIx_nI (j := 24 * (20 * p + r) + k) (by omega) (by decide)) (Nat.le_trans (o8_B H4_8) (Nat.le_add_right _ _)) ?_
    have H6_8 := o8_ast12 (24 * (20 * p + r) + k) (0) H4_8
    have f_7 := o8_f12 (24 * (20 * p + r) + k) (0) H4_8 (f_5) (by exact ⟨by omega, by omega⟩)
    refine x_aload_n rfl d_X8_clears_64 ?_
    refine x_getf co_all (v := .ref (b + 12)) d_X8_clears_65 fk_8_48 (o8_o H6_8) rfl ?_
    refine x_iload rfl d_X8_clears_68 ?_
    refine x_iconst (v := nI 0) (by decide) d_X8_clears_70 ?_
    refine x_iastore d_X8_clears_71 (o8_13 H6_8) (nIx_nI (j := 24 * (20 * p + r) + k) (by omega) (by decide)) (Nat.le_trans (o8_B H6_8) (Nat.le_add_right _ _)) ?_
    have H8_8 := o8_ast13 (24 * (20 * p + r) + k) (0) H6_8
    have f_9 := o8_f13 (24 * (20 * p + r) + k) (0) H6_8 (f_7) (by exact ⟨by omega, by omega⟩)
    refine x_aload_n rfl d_X8_clears_72 ?_
    refine x_getf co_all (v := .ref (b + 13)) d_X8_clears_73 fk_8_51 (o8_o H8_8) rfl ?_
    refine x_iload rfl d_X8_clears_76 ?_
    refine x_iconst (v := nI 0) (by decide) d_X8_clears_78 ?_
    refine x_iastore d_X8_clears_79 (o8_14 H8_8) (nIx_nI (j := 24 * (20 * p + r) + k) (by omega) (by decide)) (Nat.le_trans (o8_B H8_8) (Nat.le_add_right _ _)) ?_
    have H10_8 := o8_ast14 (24 * (20 * p + r) + k) (0) H8_8
    have f_11 := o8_f14 (24 * (20 * p + r) + k) (0) H8_8 (f_9) (by exact ⟨by omega, by omega⟩)
    refine x_aload_n rfl d_X8_clears_80 ?_
    refine x_getf co_all (v := .ref (b + 14)) d_X8_clears_81 fk_8_54 (o8_o H10_8) rfl ?_
    refine x_iload rfl d_X8_clears_84 ?_
    refine x_iconst (v := nI 0) (by decide) d_X8_clears_86 ?_
    refine x_bastore d_X8_clears_87 (o8_15 H10_8) (nIx_nI (j := 24 * (20 * p + r) + k) (by omega) (by decide)) rfl (Nat.le_trans (o8_B H10_8) (Nat.le_add_right _ _)) ?_
    have H12_8 := o8_ast15 (24 * (20 * p + r) + k) (0) H10_8
    have f_13 := o8_f15 (24 * (20 * p + r) + k) (0) H10_8 (f_11) (by exact ⟨by omega, by omega⟩)
    refine x_iincN (m := 1) d_X8_clears_88 rfl (by decide) (Nat.le_of_ble_eq_true rfl) ?_
    refine x_goto (tgt := 26) d_X8_clears_91 (by decide) ?_
    exact nG.sub (by exact (And.intro rfl (And.intro rfl (And.intro rfl (And.intro rfl True.intro))))) (ih (k + 1) (by omega) _ f_13 (o8_cg H12_8 (mCk_s M (20 * p + r) k)))
theorem sp_mcl {h : nPH} {b : Nat} {M : Nat → Nat → Nat} {p r : Nat} (hp : p < 12) (hr : r < 20) (H : o8 h b M) : nWv YX8_clears [.ref b, .int (nI p), .int (nI r)] h none (fun h2 => nFr (nIv b 24) h h2 ∧ o8 h2 b (mCk M (20 * p + r) 24)) := by
  refine nSp_of (by decide +kernel) rfl (Nat.le_of_ble_eq_true rfl) (ls := [some (.ref (b)), some (.int (nI (p))), some (.int (nI (r))), none, none]) (by exact (And.intro rfl (And.intro rfl (And.intro rfl True.intro)))) ?_
  have e0 : ∀ f i, mCk M (20 * p + r) 0 f i = u2 (u2 M 9 (20 * p + r) 0) 8 (20 * p + r) 0 f i := fun f i => by
    show (if (f = 8 ∨ f = 9) ∧ i = 20 * p + r then 0 else if (10 ≤ f ∧ f ≤ 15) ∧ 24 * (20 * p + r) ≤ i ∧ i < 24 * (20 * p + r) + 0 then (if f = 11 then 1 else 0) else M f i) = (if f = 8 ∧ i = 20 * p + r then 0 else if f = 9 ∧ i = 20 * p + r then 0 else M f i)
    by_cases h1 : (f = 8 ∨ f = 9) ∧ i = 20 * p + r
    · rw [if_pos h1]
      by_cases h2 : f = 8 ∧ i = 20 * p + r
      · rw [if_pos h2]
      · rw [if_neg h2, if_pos (by omega)]
    · rw [if_neg h1, if_neg (by omega), if_neg (by omega), if_neg (by omega)]
  refine x_aload_n rfl d_X8_clears_0 ?_
  refine x_getf co_all (v := .ref (b + 8)) d_X8_clears_1 fk_8_35 (o8_o H) rfl ?_
  refine x_bipush (v := nI 20) (by decide) d_X8_clears_4 ?_
  refine x_iload_n rfl d_X8_clears_6 ?_
  refine x_imulN d_X8_clears_7 ?_
  refine x_iload_n rfl d_X8_clears_8 ?_
  refine x_iaddN d_X8_clears_9 ?_
  refine x_iconst (v := nI 0) (by decide) d_X8_clears_10 ?_
  refine x_bastore d_X8_clears_11 (o8_9 H) (nIx_nI (j := (20 * p) + r) (by omega) (by decide)) rfl (Nat.le_trans (o8_B H) (Nat.le_add_right _ _)) ?_
  have H1_8 := o8_ast9 ((20 * p) + r) (0) H
  have f_2 := o8_f9 ((20 * p) + r) (0) H ((nFr.rf (S := nIv b 24) (h := h))) (by exact ⟨by omega, by omega⟩)
  refine x_aload_n rfl d_X8_clears_12 ?_
  refine x_getf co_all (v := .ref (b + 7)) d_X8_clears_13 fk_8_32 (o8_o H1_8) rfl ?_
  refine x_bipush (v := nI 20) (by decide) d_X8_clears_16 ?_
  refine x_iload_n rfl d_X8_clears_18 ?_
  refine x_imulN d_X8_clears_19 ?_
  refine x_iload_n rfl d_X8_clears_20 ?_
  refine x_iaddN d_X8_clears_21 ?_
  refine x_iconst (v := nI 0) (by decide) d_X8_clears_22 ?_
  refine x_iastore d_X8_clears_23 (o8_8 H1_8) (nIx_nI (j := (20 * p) + r) (by omega) (by decide)) (Nat.le_trans (o8_B H1_8) (Nat.le_add_right _ _)) ?_
  have H3_8 := o8_ast8 ((20 * p) + r) (0) H1_8
  have f_4 := o8_f8 ((20 * p) + r) (0) H1_8 (f_2) (by exact ⟨by omega, by omega⟩)
  refine x_iconst (v := nI 0) (by decide) d_X8_clears_24 ?_
  refine x_istore_n d_X8_clears_25 (Nat.le_of_ble_eq_true rfl) ?_
  exact nG.sub (by exact (And.intro rfl (And.intro rfl (And.intro rfl (And.intro rfl True.intro))))) (lp_mcl hp hr 24 0 (by omega) _ f_4 (o8_cg H3_8 e0))
