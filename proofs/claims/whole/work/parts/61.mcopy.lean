/-! the model: copies of rows -/
theorem kO_sh {V : Nat → Nat → Nat} {P : Nat → Nat → Nat → Nat} {R : Nat → Nat → Nat → Nat → Nat} (O : kO V P R) {p n e z z0 v0 : Nat} (hp : p < V 1 0) (he : 1 ≤ e) (hz : 1 ≤ z) (hz2 : z ≤ 2) (hn2 : P p 5 0 + n ≤ 20) (hv : R p (P p 5 0 - 1) 0 0 = v0) (h0v : 1 ≤ v0) (hs : shB v0 e z n) : ∀ i, i ≤ n → kO V (uP P p (shP (P p) z0 i)) (uP R p (shR e z (P p 5 0) (R p) i)) := by
  have hm1 := (O.2.2.2 p hp).1
  intro i
  induction i with
  | zero =>
    intro _
    show kO V (uP P p (P p)) (uP R p (R p))
    rw [uPs, uPs]
    exact O
  | succ i ih =>
    intro hi
    have O2 := ih (by omega)
    obtain ⟨l1, l2⟩ := shR_l he hz hz2 hm1 hv h0v hs i (by omega)
    have l3 : uP R p (shR e z (P p 5 0) (R p) i) p (P p 5 0 + i - 1) 0 0 = shI v0 e z i := by rw [uP_eq]; exact l1
    have e5 : uP P p (shP (P p) z0 i) p 5 0 = P p 5 0 + i := by rw [uP_eq, shP_5]
    have hre : uP P p (shP (P p) z0 i) p 5 0 = (P p 5 0 + i - 1) + 1 := by omega
    have hs2 := hs i (by omega)
    have O3 := kO_rw (kO_TE O2 p (P p 5 0 + i - 1) e (uP R p (shR e z (P p 5 0) (R p) i) p (P p 5 0 + i - 1) 0 0) hz2) (z0 + 7 * i) hp hre (by omega) rfl (by rw [uP_eq, uR_eq, rTE_00, offTE he hz hz2 _ _ _ (Nat.le_refl _) (by rw [l3]; exact l2), l3]; exact hs2.1) (by rw [uP_eq, uR_eq, rTE_00, offTE he hz hz2 _ _ _ (Nat.le_refl _) (by rw [l3]; exact l2), l3]; exact hs2.2)
    rw [uP_eq, uuP, uP_eq, uuP, uP_eq, uuP, uR_eq, show P p 5 0 + i - 1 + 1 = P p 5 0 + i by omega] at O3
    exact O3
/-- row y of N is copied to row y2, its first k knots -/
def mBp (N : Nat → Nat → Nat) (y y2 k : Nat) : Nat → Nat → Nat := fun f x => if (f = 8 ∨ f = 9) ∧ x = y2 then N f y else if (10 ≤ f ∧ f ≤ 15) ∧ 24 * y2 ≤ x ∧ x < 24 * y2 + k then N f (24 * y + (x - 24 * y2)) else N f x
theorem mBp_0 (N : Nat → Nat → Nat) (y y2 f x : Nat) : mBp N y y2 0 f x = u2 (u2 N 9 y2 (N 9 y)) 8 y2 (N 8 y) f x := by
  unfold mBp
  by_cases h1 : f = 8 ∧ x = y2
  · obtain ⟨rfl, rfl⟩ := h1
    rw [if_pos (by omega), u2_eq]
  · rw [u2_ne h1]
    by_cases h2 : f = 9 ∧ x = y2
    · obtain ⟨rfl, rfl⟩ := h2
      rw [if_pos (by omega), u2_eq]
    · rw [u2_ne h2, if_neg (by omega), if_neg (by omega)]
theorem mBp_src {N : Nat → Nat → Nat} {y y2 k j g : Nat} (h : y ≠ y2) (hg : 10 ≤ g) (hj : j < 24) (hk : k ≤ 24) : mBp N y y2 k g (24 * y + j) = N g (24 * y + j) := by
  unfold mBp
  rw [if_neg (by omega), if_neg (by omega)]
def m6 (N : Nat → Nat → Nat) (d s : Nat) : Nat → Nat → Nat := u2 (u2 (u2 (u2 (u2 (u2 N 10 d (N 10 s)) 11 d (N 11 s)) 12 d (N 12 s)) 13 d (N 13 s)) 14 d (N 14 s)) 15 d (N 15 s)
theorem m6_v (N : Nat → Nat → Nat) (d s f x : Nat) : m6 N d s f x = if (10 ≤ f ∧ f ≤ 15) ∧ x = d then N f s else N f x := by
  by_cases e : x = d
  · subst e
    by_cases h : 10 ≤ f ∧ f ≤ 15
    · rw [if_pos ⟨h, rfl⟩]
      rcases (show f = 10 ∨ f = 11 ∨ f = 12 ∨ f = 13 ∨ f = 14 ∨ f = 15 by omega) with rfl | rfl | rfl | rfl | rfl | rfl <;> simp [m6, u2]
    · rw [if_neg (fun z => h z.1)]
      unfold m6
      rw [u2_ne (by omega), u2_ne (by omega), u2_ne (by omega), u2_ne (by omega), u2_ne (by omega), u2_ne (by omega)]
  · rw [if_neg (fun z => e z.2)]
    unfold m6
    rw [u2_ne (by omega), u2_ne (by omega), u2_ne (by omega), u2_ne (by omega), u2_ne (by omega), u2_ne (by omega)]
theorem mBp_s {N : Nat → Nat → Nat} {y y2 k : Nat} (h : y ≠ y2) (hk : k < 24) (f x : Nat) : mBp N y y2 (k + 1) f x = m6 (mBp N y y2 k) (24 * y2 + k) (24 * y + k) f x := by
  rw [m6_v]
  by_cases e : (10 ≤ f ∧ f ≤ 15) ∧ x = 24 * y2 + k
  · rw [if_pos e, mBp_src h (by omega) hk (by omega)]
    unfold mBp
    rw [if_neg (by omega), if_pos (by omega), e.2, Nat.add_sub_cancel_left]
  · rw [if_neg e]
    unfold mBp
    by_cases h1 : (f = 8 ∨ f = 9) ∧ x = y2
    · rw [if_pos h1, if_pos h1]
    · rw [if_neg h1, if_neg h1]
      by_cases h2 : (10 ≤ f ∧ f ≤ 15) ∧ 24 * y2 ≤ x ∧ x < 24 * y2 + k
      · rw [if_pos h2, if_pos (by omega)]
      · rw [if_neg h2, if_neg (by omega)]
/-- rows y .. of N are copied to rows y2 .., i of them -/
def mBk (N : Nat → Nat → Nat) (y y2 i : Nat) : Nat → Nat → Nat := fun f x => if (f = 8 ∨ f = 9) ∧ y2 ≤ x ∧ x < y2 + i then N f (y + (x - y2)) else if (10 ≤ f ∧ f ≤ 15) ∧ 24 * y2 ≤ x ∧ x < 24 * y2 + 24 * i then N f (24 * y + (x - 24 * y2)) else N f x
theorem mBk_0 (N : Nat → Nat → Nat) (y y2 f x : Nat) : mBk N y y2 0 f x = N f x := by
  unfold mBk
  rw [if_neg (by omega), if_neg (by omega)]
theorem mBk_s {N : Nat → Nat → Nat} {y y2 i : Nat} (h : y + i < y2) (f x : Nat) : mBk N y y2 (i + 1) f x = mBp (mBk N y y2 i) (y + i) (y2 + i) 24 f x := by
  have e8 : ∀ f, mBk N y y2 i f (y + i) = N f (y + i) ∨ 10 ≤ f := fun f => by
    by_cases g : 10 ≤ f
    · exact Or.inr g
    · refine Or.inl ?_
      unfold mBk
      rw [if_neg (by omega), if_neg (by omega)]
  have eg : ∀ j, j < 24 → 10 ≤ f → mBk N y y2 i f (24 * (y + i) + j) = N f (24 * (y + i) + j) := fun j hj hf => by
    unfold mBk
    rw [if_neg (by omega), if_neg (by omega)]
  unfold mBp
  by_cases h1 : (f = 8 ∨ f = 9) ∧ x = y2 + i
  · rw [if_pos h1]
    rcases e8 f with z | z
    · rw [z]
      unfold mBk
      rw [if_pos (by omega), h1.2, show y2 + i - y2 = i by omega]
    · omega
  · rw [if_neg h1]
    by_cases h2 : (10 ≤ f ∧ f ≤ 15) ∧ 24 * (y2 + i) ≤ x ∧ x < 24 * (y2 + i) + 24
    · rw [if_pos h2, eg _ (by omega) (by omega)]
      unfold mBk
      rw [if_neg (by omega), if_pos (by omega)]
      congr 1
      omega
    · rw [if_neg h2]
      unfold mBk
      by_cases h3 : (f = 8 ∨ f = 9) ∧ y2 ≤ x ∧ x < y2 + i
      · rw [if_pos h3, if_pos (by omega)]
      · rw [if_neg h3, if_neg (show ¬ ((f = 8 ∨ f = 9) ∧ y2 ≤ x ∧ x < y2 + (i + 1)) by omega)]
        by_cases h4 : (10 ≤ f ∧ f ≤ 15) ∧ 24 * y2 ≤ x ∧ x < 24 * y2 + 24 * i
        · rw [if_pos h4, if_pos (by omega)]
        · rw [if_neg h4, if_neg (by omega)]
theorem mBk_n (N : Nat → Nat → Nat) {y y2 i : Nat} (h : y + i < y2) : mBp (mBk N y y2 i) (y + i) (y2 + i) 24 = mBk N y y2 (i + 1) := funext fun f => funext fun x => (mBk_s h f x).symm
/-- what the block holds -/
theorem mBk_8 {N : Nat → Nat → Nat} {y y2 i j f : Nat} (hf : f = 8 ∨ f = 9) (hj : j < i) : mBk N y y2 i f (y2 + j) = N f (y + j) := by
  unfold mBk
  rw [if_pos (by omega), Nat.add_sub_cancel_left]
theorem mBk_g {N : Nat → Nat → Nat} {y y2 i j k f : Nat} (hf : 10 ≤ f) (hf2 : f ≤ 15) (hj : j < i) (hk : k < 24) : mBk N y y2 i f (24 * (y2 + j) + k) = N f (24 * (y + j) + k) := by
  unfold mBk
  rw [if_neg (by omega), if_pos (by omega)]
  congr 1
  omega
theorem mBk_o {N : Nat → Nat → Nat} {y y2 i f x : Nat} (h8 : f = 8 ∨ f = 9 → x < y2 ∨ y2 + i ≤ x) (hg : 10 ≤ f → f ≤ 15 → x < 24 * y2 ∨ 24 * y2 + 24 * i ≤ x) : mBk N y y2 i f x = N f x := by
  unfold mBk
  rw [if_neg (by omega), if_neg (by omega)]
theorem lp_mcp {h0 : nPH} {b : Nat} {N : Nat → Nat → Nat} {p r n s : Nat} (hp : p < 12) (hr : r < 20) (hn : n < 12) (hs : s < 20) (hy : 20 * p + r ≠ 20 * n + s) (hnd : ∀ k, k < 24 → N 15 (24 * (20 * p + r) + k) ≤ 1) : ∀ m k : Nat, k + m = 24 → ∀ h : nPH, nFr (nIv b 24) h0 h → o8 h b (mBp N (20 * p + r) (20 * n + s) k) → nG YX8_copies (nKy YX8_copies h0.1 h0.2.1 (fun v h2 => v = none ∧ nFr (nIv b 24) h0 h2 ∧ o8 h2 b (mBp N (20 * p + r) (20 * n + s) 24))) 0 0 49 [some (.ref (b)), some (.int (nI (p))), some (.int (nI (r))), some (.int (nI (n))), some (.int (nI (s))), some (.int (nI (k))), none, none] [] h := by
  intro m
  induction m with
  | zero =>
    intro k hk h F H
    have e : k = 24 := by omega
    subst e
    refine x_iload rfl d_X8_copies_49 ?_
    refine x_bipush (v := nI 24) (by decide) d_X8_copies_51 ?_
    refine x_icmp_geN (tgt := 165) d_X8_copies_53 (by decide) (by omega) (by omega) (fun c_1 => ?_) (fun c_1 => by exfalso; omega)
    exact x_return d_X8_copies_165 rfl F.1 F.2.1 (Nat.zero_le _) (Nat.zero_le _) (⟨rfl, F, H⟩)
  | succ m ih =>
    intro k hk h F H
    refine x_iload rfl d_X8_copies_49 ?_
    refine x_bipush (v := nI 24) (by decide) d_X8_copies_51 ?_
    refine x_icmp_geN (tgt := 165) d_X8_copies_53 (by decide) (by omega) (by omega) (fun c_1 => by exfalso; omega) (fun c_1 => ?_)
    refine x_iload_n rfl d_X8_copies_56 ?_
    refine x_iload_n rfl d_X8_copies_57 ?_
    refine x_iload rfl d_X8_copies_58 ?_
    refine x_rdS d_X8_copies_60 lk_8_99 mo_X8_at sc_X8_at (sp_at) rfl ⟨Nat.le_of_ble_eq_true rfl, Nat.le_of_ble_eq_true rfl⟩ rfl rfl (Nat.zero_le _) (Nat.zero_le _) (Nat.le_of_ble_eq_true rfl) rfl ?_
    refine x_istore d_X8_copies_63 (Nat.le_of_ble_eq_true rfl) ?_
    refine x_iload_n rfl d_X8_copies_65 ?_
    refine x_iload rfl d_X8_copies_66 ?_
    refine x_iload rfl d_X8_copies_68 ?_
    refine x_rdS d_X8_copies_70 lk_8_99 mo_X8_at sc_X8_at (sp_at) rfl ⟨Nat.le_of_ble_eq_true rfl, Nat.le_of_ble_eq_true rfl⟩ rfl rfl (Nat.zero_le _) (Nat.zero_le _) (Nat.le_of_ble_eq_true rfl) rfl ?_
    refine x_istore d_X8_copies_73 (Nat.le_of_ble_eq_true rfl) ?_
    refine x_aload_n rfl d_X8_copies_75 ?_
    refine x_getf co_all (v := .ref (b + 9)) d_X8_copies_76 fk_8_39 (o8_o H) rfl ?_
    refine x_iload rfl d_X8_copies_79 ?_
    refine x_aload_n rfl d_X8_copies_81 ?_
    refine x_getf co_all (v := .ref (b + 9)) d_X8_copies_82 fk_8_39 (o8_o H) rfl ?_
    refine x_iload rfl d_X8_copies_85 ?_
    refine x_iaload d_X8_copies_87 (o8_10 H) (nIx_nI (j := 24 * (20 * p + r) + k) (by omega) (by decide)) ?_
    refine x_iastore d_X8_copies_88 (o8_10 H) (nIx_nI (j := 24 * (20 * n + s) + k) (by omega) (by decide)) (Nat.le_trans (o8_B H) (Nat.le_add_right _ _)) ?_
    have H2_8 := o8_ast10 (24 * (20 * n + s) + k) ((mBp N (20 * p + r) (20 * n + s) k) 10 (24 * (20 * p + r) + k)) H
    have f_3 := o8_f10 (24 * (20 * n + s) + k) ((mBp N (20 * p + r) (20 * n + s) k) 10 (24 * (20 * p + r) + k)) H (F) (by exact ⟨by omega, by omega⟩)
    refine x_aload_n rfl d_X8_copies_89 ?_
    refine x_getf co_all (v := .ref (b + 10)) d_X8_copies_90 fk_8_42 (o8_o H2_8) rfl ?_
    refine x_iload rfl d_X8_copies_93 ?_
    refine x_aload_n rfl d_X8_copies_95 ?_
    refine x_getf co_all (v := .ref (b + 10)) d_X8_copies_96 fk_8_42 (o8_o H2_8) rfl ?_
    refine x_iload rfl d_X8_copies_99 ?_
    refine x_iaload d_X8_copies_101 (o8_11 H2_8) (nIx_nI (j := 24 * (20 * p + r) + k) (by omega) (by decide)) ?_
    show nG _ _ _ _ _ _ (.int (nI ((mBp N (20 * p + r) (20 * n + s) k) 11 (24 * (20 * p + r) + k))) :: _) _
    refine x_iastore d_X8_copies_102 (o8_11 H2_8) (nIx_nI (j := 24 * (20 * n + s) + k) (by omega) (by decide)) (Nat.le_trans (o8_B H2_8) (Nat.le_add_right _ _)) ?_
    have H4_8 := o8_ast11 (24 * (20 * n + s) + k) ((mBp N (20 * p + r) (20 * n + s) k) 11 (24 * (20 * p + r) + k)) H2_8
    have f_5 := o8_f11 (24 * (20 * n + s) + k) ((mBp N (20 * p + r) (20 * n + s) k) 11 (24 * (20 * p + r) + k)) H2_8 (f_3) (by exact ⟨by omega, by omega⟩)
    refine x_aload_n rfl d_X8_copies_103 ?_
    refine x_getf co_all (v := .ref (b + 11)) d_X8_copies_104 fk_8_45 (o8_o H4_8) rfl ?_
    refine x_iload rfl d_X8_copies_107 ?_
    refine x_aload_n rfl d_X8_copies_109 ?_
    refine x_getf co_all (v := .ref (b + 11)) d_X8_copies_110 fk_8_45 (o8_o H4_8) rfl ?_
    refine x_iload rfl d_X8_copies_113 ?_
    refine x_iaload d_X8_copies_115 (o8_12 H4_8) (nIx_nI (j := 24 * (20 * p + r) + k) (by omega) (by decide)) ?_
    show nG _ _ _ _ _ _ (.int (nV ((mBp N (20 * p + r) (20 * n + s) k) 12 (24 * (20 * p + r) + k))) :: _) _
    refine x_iastore d_X8_copies_116 (o8_12 H4_8) (nIx_nI (j := 24 * (20 * n + s) + k) (by omega) (by decide)) (Nat.le_trans (o8_B H4_8) (Nat.le_add_right _ _)) ?_
    have H6_8 := o8_ast12 (24 * (20 * n + s) + k) (((mBp N (20 * p + r) (20 * n + s) k) 12 (24 * (20 * p + r) + k))) H4_8
    have f_7 := o8_f12 (24 * (20 * n + s) + k) (((mBp N (20 * p + r) (20 * n + s) k) 12 (24 * (20 * p + r) + k))) H4_8 (f_5) (by exact ⟨by omega, by omega⟩)
    refine x_aload_n rfl d_X8_copies_117 ?_
    refine x_getf co_all (v := .ref (b + 12)) d_X8_copies_118 fk_8_48 (o8_o H6_8) rfl ?_
    refine x_iload rfl d_X8_copies_121 ?_
    refine x_aload_n rfl d_X8_copies_123 ?_
    refine x_getf co_all (v := .ref (b + 12)) d_X8_copies_124 fk_8_48 (o8_o H6_8) rfl ?_
    refine x_iload rfl d_X8_copies_127 ?_
    refine x_iaload d_X8_copies_129 (o8_13 H6_8) (nIx_nI (j := 24 * (20 * p + r) + k) (by omega) (by decide)) ?_
    show nG _ _ _ _ _ _ (.int (nI ((mBp N (20 * p + r) (20 * n + s) k) 13 (24 * (20 * p + r) + k))) :: _) _
    refine x_iastore d_X8_copies_130 (o8_13 H6_8) (nIx_nI (j := 24 * (20 * n + s) + k) (by omega) (by decide)) (Nat.le_trans (o8_B H6_8) (Nat.le_add_right _ _)) ?_
    have H8_8 := o8_ast13 (24 * (20 * n + s) + k) ((mBp N (20 * p + r) (20 * n + s) k) 13 (24 * (20 * p + r) + k)) H6_8
    have f_9 := o8_f13 (24 * (20 * n + s) + k) ((mBp N (20 * p + r) (20 * n + s) k) 13 (24 * (20 * p + r) + k)) H6_8 (f_7) (by exact ⟨by omega, by omega⟩)
    refine x_aload_n rfl d_X8_copies_131 ?_
    refine x_getf co_all (v := .ref (b + 13)) d_X8_copies_132 fk_8_51 (o8_o H8_8) rfl ?_
    refine x_iload rfl d_X8_copies_135 ?_
    refine x_aload_n rfl d_X8_copies_137 ?_
    refine x_getf co_all (v := .ref (b + 13)) d_X8_copies_138 fk_8_51 (o8_o H8_8) rfl ?_
    refine x_iload rfl d_X8_copies_141 ?_
    refine x_iaload d_X8_copies_143 (o8_14 H8_8) (nIx_nI (j := 24 * (20 * p + r) + k) (by omega) (by decide)) ?_
    show nG _ _ _ _ _ _ (.int (nI ((mBp N (20 * p + r) (20 * n + s) k) 14 (24 * (20 * p + r) + k))) :: _) _
    refine x_iastore d_X8_copies_144 (o8_14 H8_8) (nIx_nI (j := 24 * (20 * n + s) + k) (by omega) (by decide)) (Nat.le_trans (o8_B H8_8) (Nat.le_add_right _ _)) ?_
    have H10_8 := o8_ast14 (24 * (20 * n + s) + k) ((mBp N (20 * p + r) (20 * n + s) k) 14 (24 * (20 * p + r) + k)) H8_8
    have f_11 := o8_f14 (24 * (20 * n + s) + k) ((mBp N (20 * p + r) (20 * n + s) k) 14 (24 * (20 * p + r) + k)) H8_8 (f_9) (by exact ⟨by omega, by omega⟩)
    refine x_aload_n rfl d_X8_copies_145 ?_
    refine x_getf co_all (v := .ref (b + 14)) d_X8_copies_146 fk_8_54 (o8_o H10_8) rfl ?_
    refine x_iload rfl d_X8_copies_149 ?_
    refine x_aload_n rfl d_X8_copies_151 ?_
    refine x_getf co_all (v := .ref (b + 14)) d_X8_copies_152 fk_8_54 (o8_o H10_8) rfl ?_
    refine x_iload rfl d_X8_copies_155 ?_
    refine x_baload d_X8_copies_157 (o8_15 H10_8) (nIx_nI (j := 24 * (20 * p + r) + k) (by omega) (by decide)) ?_
    show nG _ _ _ _ _ _ (.int (nI ((mBp N (20 * p + r) (20 * n + s) k) 15 (24 * (20 * p + r) + k))) :: _) _
    refine x_bastore d_X8_copies_158 (o8_15 H10_8) (nIx_nI (j := 24 * (20 * n + s) + k) (by omega) (by decide)) (by exact nB_nar1 (by rw [mBp_src hy (by decide) (by omega) (by omega)]; exact hnd k (by omega))) (Nat.le_trans (o8_B H10_8) (Nat.le_add_right _ _)) ?_
    have H12_8 := o8_ast15 (24 * (20 * n + s) + k) ((mBp N (20 * p + r) (20 * n + s) k) 15 (24 * (20 * p + r) + k)) H10_8
    have f_13 := o8_f15 (24 * (20 * n + s) + k) ((mBp N (20 * p + r) (20 * n + s) k) 15 (24 * (20 * p + r) + k)) H10_8 (f_11) (by exact ⟨by omega, by omega⟩)
    refine x_iincN (m := 1) d_X8_copies_159 rfl (by decide) (Nat.le_of_ble_eq_true rfl) ?_
    refine x_goto (tgt := 49) d_X8_copies_162 (by decide) ?_
    refine nG.eq (ls2 := [some (.ref (b)), some (.int (nI (p))), some (.int (nI (r))), some (.int (nI (n))), some (.int (nI (s))), some (.int (nI (k + 1))), some (.int (nI (24 * (20 * p + r) + k))), some (.int (nI (24 * (20 * n + s) + k)))]) rfl rfl rfl rfl rfl ?_
    exact nG.sub (by exact (And.intro rfl (And.intro rfl (And.intro rfl (And.intro rfl (And.intro rfl (And.intro rfl True.intro))))))) (ih (k + 1) (by omega) _ f_13 (o8_cg H12_8 (mBp_s hy (by omega))))
theorem sp_mcopies {h : nPH} {b : Nat} {N : Nat → Nat → Nat} {p r n s : Nat} (hp : p < 12) (hr : r < 20) (hn : n < 12) (hs : s < 20) (hy : 20 * p + r ≠ 20 * n + s) (hnd : ∀ k, k < 24 → N 15 (24 * (20 * p + r) + k) ≤ 1) (h9 : N 9 (20 * p + r) ≤ 1) (H : o8 h b N) : nWv YX8_copies [.ref b, .int (nI p), .int (nI r), .int (nI n), .int (nI s)] h none (fun h2 => nFr (nIv b 24) h h2 ∧ o8 h2 b (mBp N (20 * p + r) (20 * n + s) 24)) := by
  refine nSp_of (by decide +kernel) rfl (Nat.le_of_ble_eq_true rfl) (ls := [some (.ref (b)), some (.int (nI (p))), some (.int (nI (r))), some (.int (nI (n))), some (.int (nI (s))), none, none, none]) (by exact (And.intro rfl (And.intro rfl (And.intro rfl (And.intro rfl (And.intro rfl True.intro)))))) ?_
  refine x_aload_n rfl d_X8_copies_0 ?_
  refine x_getf co_all (v := .ref (b + 8)) d_X8_copies_1 fk_8_35 (o8_o H) rfl ?_
  refine x_bipush (v := nI 20) (by decide) d_X8_copies_4 ?_
  refine x_iload_n rfl d_X8_copies_6 ?_
  refine x_imulN d_X8_copies_7 ?_
  refine x_iload rfl d_X8_copies_8 ?_
  refine x_iaddN d_X8_copies_10 ?_
  refine x_aload_n rfl d_X8_copies_11 ?_
  refine x_getf co_all (v := .ref (b + 8)) d_X8_copies_12 fk_8_35 (o8_o H) rfl ?_
  refine x_bipush (v := nI 20) (by decide) d_X8_copies_15 ?_
  refine x_iload_n rfl d_X8_copies_17 ?_
  refine x_imulN d_X8_copies_18 ?_
  refine x_iload_n rfl d_X8_copies_19 ?_
  refine x_iaddN d_X8_copies_20 ?_
  refine x_baload d_X8_copies_21 (o8_9 H) (nIx_nI (j := (20 * p) + r) (by omega) (by decide)) ?_
  refine x_bastore d_X8_copies_22 (o8_9 H) (nIx_nI (j := (20 * n) + s) (by omega) (by decide)) (by exact nB_nar1 h9) (Nat.le_trans (o8_B H) (Nat.le_add_right _ _)) ?_
  have H1_8 := o8_ast9 ((20 * n) + s) (N 9 ((20 * p) + r)) H
  have f_2 := o8_f9 ((20 * n) + s) (N 9 ((20 * p) + r)) H ((nFr.rf (S := nIv b 24) (h := h))) (by exact ⟨by omega, by omega⟩)
  refine x_aload_n rfl d_X8_copies_23 ?_
  refine x_getf co_all (v := .ref (b + 7)) d_X8_copies_24 fk_8_32 (o8_o H1_8) rfl ?_
  refine x_bipush (v := nI 20) (by decide) d_X8_copies_27 ?_
  refine x_iload_n rfl d_X8_copies_29 ?_
  refine x_imulN d_X8_copies_30 ?_
  refine x_iload rfl d_X8_copies_31 ?_
  refine x_iaddN d_X8_copies_33 ?_
  refine x_aload_n rfl d_X8_copies_34 ?_
  refine x_getf co_all (v := .ref (b + 7)) d_X8_copies_35 fk_8_32 (o8_o H1_8) rfl ?_
  refine x_bipush (v := nI 20) (by decide) d_X8_copies_38 ?_
  refine x_iload_n rfl d_X8_copies_40 ?_
  refine x_imulN d_X8_copies_41 ?_
  refine x_iload_n rfl d_X8_copies_42 ?_
  refine x_iaddN d_X8_copies_43 ?_
  refine x_iaload d_X8_copies_44 (o8_8 H1_8) (nIx_nI (j := (20 * p) + r) (by omega) (by decide)) ?_
  show nG _ _ _ _ _ _ (.int (nI (N 8 ((20 * p) + r))) :: _) _
  refine x_iastore d_X8_copies_45 (o8_8 H1_8) (nIx_nI (j := (20 * n) + s) (by omega) (by decide)) (Nat.le_trans (o8_B H1_8) (Nat.le_add_right _ _)) ?_
  have H3_8 := o8_ast8 ((20 * n) + s) (N 8 ((20 * p) + r)) H1_8
  have f_4 := o8_f8 ((20 * n) + s) (N 8 ((20 * p) + r)) H1_8 (f_2) (by exact ⟨by omega, by omega⟩)
  refine x_iconst (v := nI 0) (by decide) d_X8_copies_46 ?_
  refine x_istore d_X8_copies_47 (Nat.le_of_ble_eq_true rfl) ?_
  exact nG.sub (by exact (And.intro rfl (And.intro rfl (And.intro rfl (And.intro rfl (And.intro rfl (And.intro rfl True.intro))))))) (lp_mcp hp hr hn hs hy hnd 24 0 (by omega) _ f_4 (o8_cg H3_8 (mBp_0 N _ _)))
