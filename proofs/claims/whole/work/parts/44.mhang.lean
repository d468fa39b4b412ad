/-! the model: a row hangs -/
theorem x_iastoreV {y : nM} {κ : nKp} {cu su pc p2 o : Nat} {ls : List (Option Value)} {st : List Value} {h : nPH} {a n j k : Nat} {f : Nat → Int32} {i : Int32} (hd : nD y pc .iastore 1 p2 o) (hat : nAt h a = some (nAi n f)) (hi : nIx i n j) (hB : h.2.1 ≤ a) (kk : nG y κ cu su p2 ls st (nSt h a (nAi n (nUp f j (nV (k + 1)))))) : nG y κ cu su pc ls (.int (nI k) :: .int i :: .ref a :: st) h := x_iastore hd hat hi hB (by rw [nV_s] at kk; exact kk)
def mHg (M : Nat → Nat → Nat) (p r k : Nat) : Nat → Nat → Nat := fun f i => if (12 ≤ f ∧ f ≤ 14) ∧ 24 * (20 * p + (r + 1)) ≤ i ∧ i < 24 * (20 * p + (r + 1)) + k then (if f = 12 then fsO (mR M p r) (i - 24 * (20 * p + (r + 1))) + 1 else if f = 13 then sdO (mR M p r) (i - 24 * (20 * p + (r + 1))) else 0) else M f i
theorem mHg_0 (M : Nat → Nat → Nat) (p r f i : Nat) : mHg M p r 0 f i = M f i := if_neg (by omega)
theorem mHg_o {M : Nat → Nat → Nat} {p r k f i : Nat} (h : f < 12) : mHg M p r k f i = M f i := if_neg (by omega)
theorem mHg_s {M : Nat → Nat → Nat} {p r k u t : Nat} (hf : fsO (mR M p r) k = u) (ht : sdO (mR M p r) k = t) (f i : Nat) : mHg M p r (k + 1) f i = u2 (u2 (u2 (mHg M p r k) 12 (24 * (20 * p + (r + 1)) + k) (u + 1)) 13 (24 * (20 * p + (r + 1)) + k) t) 14 (24 * (20 * p + (r + 1)) + k) 0 f i := by
  generalize hx : 24 * (20 * p + (r + 1)) = x
  have e : ∀ k f i, mHg M p r k f i = if (12 ≤ f ∧ f ≤ 14) ∧ x ≤ i ∧ i < x + k then (if f = 12 then fsO (mR M p r) (i - x) + 1 else if f = 13 then sdO (mR M p r) (i - x) else 0) else M f i := fun k f i => by rw [← hx]; rfl
  by_cases h1 : i = x + k ∧ 12 ≤ f ∧ f ≤ 14
  · obtain ⟨rfl, h2, h3⟩ := h1
    rw [e, if_pos (by omega), Nat.add_sub_cancel_left, hf, ht]
    rcases (show f = 12 ∨ f = 13 ∨ f = 14 by omega) with rfl | rfl | rfl
    · rw [u2_ne (by omega), u2_ne (by omega), u2_eq]; rfl
    · rw [u2_ne (by omega), u2_eq]; rfl
    · rw [u2_eq]; rfl
  · rw [u2_ne (by omega), u2_ne (by omega), u2_ne (by omega), e, e]
    by_cases h2 : (12 ≤ f ∧ f ≤ 14) ∧ x ≤ i ∧ i < x + k
    · rw [if_pos (by omega), if_pos h2]
    · rw [if_neg (by omega), if_neg h2]
theorem lp_mnx {h h0 : nPH} {b : Nat} {M : Nat → Nat → Nat} {p r : Nat} (hp : p < 12) (hr : r + 1 < 20) (h24 : M 8 (20 * p + r) ≤ 24) (hg : ∀ k, k < 24 → M 11 (24 * (20 * p + r) + k) ≤ 2) (hof : off (mR M p r) (M 8 (20 * p + r)) ≤ 24) {j k : Nat} (H : o8 h b (mHg M p r j)) (kk : ∀ i, i = gvB (mR M p r) k → nG YX8_hangs (nKy YX8_hangs h0.1 h0.2.1 (fun v h2 => v = none ∧ nFr (nIv b 24) h0 h2 ∧ o8 h2 b (mHg M p r (off (mR M p r) (M 8 (20 * p + r)))))) 0 0 61 [some (.ref (b)), some (.int (nI (p))), some (.int (nI (r + 1))), some (.int (nI (M 8 (20 * p + r)))), some (.int (nI (j))), some (.int (nI (k))), some (.int (nI (i))), none, none, none] [] h) (hk : k < M 8 (20 * p + r)) : ∀ n i : Nat, k < i → i ≤ M 8 (20 * p + r) → M 8 (20 * p + r) ≤ i + n → (gvb (mR M p r) (M 8 (20 * p + r)) n i = gvB (mR M p r) k) → nG YX8_hangs (nKy YX8_hangs h0.1 h0.2.1 (fun v h2 => v = none ∧ nFr (nIv b 24) h0 h2 ∧ o8 h2 b (mHg M p r (off (mR M p r) (M 8 (20 * p + r)))))) 0 0 32 [some (.ref (b)), some (.int (nI (p))), some (.int (nI (r + 1))), some (.int (nI (M 8 (20 * p + r)))), some (.int (nI (j))), some (.int (nI (k))), some (.int (nI (i))), none, none, none] [] h := by
  intro n
  induction n with
  | zero =>
    intro i hi hle hn hG
    refine x_iload rfl d_X8_hangs_32 ?_
    refine x_iload_n rfl d_X8_hangs_34 ?_
    refine x_icmp_geN (tgt := 61) d_X8_hangs_35 (by decide) (by omega) (by omega) (fun c_1 => ?_) (fun c_1 => by exfalso; omega)
    exact kk i hG
  | succ n ih =>
    intro i hi hle hn hG
    refine x_iload rfl d_X8_hangs_32 ?_
    refine x_iload_n rfl d_X8_hangs_34 ?_
    refine x_icmp_geN (tgt := 61) d_X8_hangs_35 (by decide) (by omega) (by omega) (fun c_1 => ?_) (fun c_1 => ?_)
    · refine kk i ?_
      rw [← hG]
      show _ = if M 8 (20 * p + r) ≤ i then M 8 (20 * p + r) else if 0 < mR M p r 2 i then i else gvb (mR M p r) (M 8 (20 * p + r)) n (i + 1)
      first | (rw [if_pos (by omega)]; omega) | (rw [if_neg (by omega), mR_2, if_pos (by omega)])
    · refine x_aload_n rfl d_X8_hangs_38 ?_
      refine x_getf co_all (v := .ref (b + 10)) d_X8_hangs_39 fk_8_42 (o8_o H) rfl ?_
      refine x_iload_n rfl d_X8_hangs_42 ?_
      refine x_iload_n rfl d_X8_hangs_43 ?_
      refine x_iconst (v := nI 1) (by decide) d_X8_hangs_44 ?_
      refine x_isubN d_X8_hangs_45 (by omega) ?_
      rw [Nat.add_sub_cancel]
      refine x_iload rfl d_X8_hangs_46 ?_
      refine x_rdS d_X8_hangs_48 lk_8_99 mo_X8_at sc_X8_at (sp_at) rfl ⟨Nat.le_of_ble_eq_true rfl, Nat.le_of_ble_eq_true rfl⟩ rfl rfl (Nat.zero_le _) (Nat.zero_le _) (Nat.le_of_ble_eq_true rfl) rfl ?_
      refine x_iaload d_X8_hangs_51 (o8_11 H) (nIx_nI (j := 24 * (20 * p + r) + i) (by omega) (by decide)) ?_
      show nG _ _ _ _ _ _ (.int (nI (mHg M p r j 11 (24 * (20 * p + r) + i))) :: _) _
      rw [mHg_o (by decide)]
      refine x_if_neN (tgt := 61) d_X8_hangs_52 (by decide) (by have := hg i (by omega); omega) (fun c_2 => ?_) (fun c_2 => ?_)
      · refine kk i ?_
        rw [← hG]
        show _ = if M 8 (20 * p + r) ≤ i then M 8 (20 * p + r) else if 0 < mR M p r 2 i then i else gvb (mR M p r) (M 8 (20 * p + r)) n (i + 1)
        first | (rw [if_pos (by omega)]; omega) | (rw [if_neg (by omega), mR_2, if_pos (by omega)])
      · refine x_iincN (m := 1) d_X8_hangs_55 rfl (by decide) (Nat.le_of_ble_eq_true rfl) ?_
        refine x_goto (tgt := 32) d_X8_hangs_58 (by decide) ?_
        refine nG.eq rfl rfl rfl rfl rfl (ih (i + 1) (by omega) (by omega) (by omega) ?_)
        rw [← hG]
        show _ = if M 8 (20 * p + r) ≤ i then M 8 (20 * p + r) else if 0 < mR M p r 2 i then i else gvb (mR M p r) (M 8 (20 * p + r)) n (i + 1)
        rw [if_neg (by omega), mR_2, if_neg (by omega)]
theorem lp_mhI {h0 : nPH} {b : Nat} {M : Nat → Nat → Nat} {p r : Nat} (hp : p < 12) (hr : r + 1 < 20) (h24 : M 8 (20 * p + r) ≤ 24) (hg : ∀ k, k < 24 → M 11 (24 * (20 * p + r) + k) ≤ 2) (hof : off (mR M p r) (M 8 (20 * p + r)) ≤ 24) {k : Nat} (hk : k < M 8 (20 * p + r)) (kk : ∀ h : nPH, nFr (nIv b 24) h0 h → o8 h b (mHg M p r (off (mR M p r) (k + 1))) → nG YX8_hangs (nKy YX8_hangs h0.1 h0.2.1 (fun v h2 => v = none ∧ nFr (nIv b 24) h0 h2 ∧ o8 h2 b (mHg M p r (off (mR M p r) (M 8 (20 * p + r)))))) 0 0 155 [some (.ref (b)), some (.int (nI (p))), some (.int (nI (r + 1))), some (.int (nI (M 8 (20 * p + r)))), some (.int (nI (off (mR M p r) (k + 1)))), some (.int (nI (k))), none, none, none, none] [] h) : ∀ t n j : Nat, ∀ h : nPH, n + t = M 11 (24 * (20 * p + r) + k) → j = off (mR M p r) k + n → nFr (nIv b 24) h0 h → o8 h b (mHg M p r j) → nG YX8_hangs (nKy YX8_hangs h0.1 h0.2.1 (fun v h2 => v = none ∧ nFr (nIv b 24) h0 h2 ∧ o8 h2 b (mHg M p r (off (mR M p r) (M 8 (20 * p + r)))))) 0 0 80 [some (.ref (b)), some (.int (nI (p))), some (.int (nI (r + 1))), some (.int (nI (M 8 (20 * p + r)))), some (.int (nI (j))), some (.int (nI (k))), some (.int (nI (gvB (mR M p r) k))), some (.int (nI (M 11 (24 * (20 * p + r) + k)))), some (.int (nI (n))), none] [] h := by
  intro t
  have hos : off (mR M p r) (k + 1) = off (mR M p r) k + M 11 (24 * (20 * p + r) + k) := off_s _ _
  have hom := off_mono (mR M p r) (show k + 1 ≤ M 8 (20 * p + r) by omega)
  obtain ⟨g1, g2⟩ := gvB_rg (D := mR M p r) (k := k) hk
  have g2 : gvB (mR M p r) k ≤ M 8 (20 * p + r) := g2
  have hgk := hg k (by omega)
  induction t with
  | zero =>
    intro n j h hn hj F H
    refine x_iload rfl d_X8_hangs_80 ?_
    refine x_iload rfl d_X8_hangs_82 ?_
    refine x_icmp_geN (tgt := 155) d_X8_hangs_84 (by decide) (by omega) (by omega) (fun c_1 => ?_) (fun c_1 => by exfalso; omega)
    have e : j = off (mR M p r) (k + 1) := by omega
    subst e
    exact nG.sub (by exact (And.intro rfl (And.intro rfl (And.intro rfl (And.intro rfl (And.intro rfl (And.intro rfl True.intro))))))) (kk h F H)
  | succ t ih =>
    intro n j h hn hj F H
    refine x_iload rfl d_X8_hangs_80 ?_
    refine x_iload rfl d_X8_hangs_82 ?_
    refine x_icmp_geN (tgt := 155) d_X8_hangs_84 (by decide) (by omega) (by omega) (fun c_1 => by exfalso; omega) (fun c_1 => ?_)
    refine x_iload_n rfl d_X8_hangs_87 ?_
    refine x_iload_n rfl d_X8_hangs_88 ?_
    refine x_iload rfl d_X8_hangs_89 ?_
    refine x_rdS d_X8_hangs_91 lk_8_99 mo_X8_at sc_X8_at (sp_at) rfl ⟨Nat.le_of_ble_eq_true rfl, Nat.le_of_ble_eq_true rfl⟩ rfl rfl (Nat.zero_le _) (Nat.zero_le _) (Nat.le_of_ble_eq_true rfl) rfl ?_
    refine x_istore d_X8_hangs_94 (Nat.le_of_ble_eq_true rfl) ?_
    refine x_aload_n rfl d_X8_hangs_96 ?_
    refine x_getf co_all (v := .ref (b + 11)) d_X8_hangs_97 fk_8_45 (o8_o H) rfl ?_
    refine x_iload rfl d_X8_hangs_100 ?_
    refine x_iload rfl d_X8_hangs_102 ?_
    refine x_iastoreV d_X8_hangs_104 (o8_12 H) (nIx_nI (j := 24 * (20 * p + (r + 1)) + j) (by omega) (by decide)) (Nat.le_trans (o8_B H) (Nat.le_add_right _ _)) ?_
    have H2_8 := o8_ast12 (24 * (20 * p + (r + 1)) + j) (k + 1) H
    have f_3 := o8_f12 (24 * (20 * p + (r + 1)) + j) (k + 1) H (F) (by exact ⟨by omega, by omega⟩)
    refine x_aload_n rfl d_X8_hangs_105 ?_
    refine x_getf co_all (v := .ref (b + 12)) d_X8_hangs_106 fk_8_48 (o8_o H2_8) rfl ?_
    refine x_iload rfl d_X8_hangs_109 ?_
    refine x_iload rfl d_X8_hangs_111 ?_
    refine x_iload rfl d_X8_hangs_113 ?_
    refine x_isubN d_X8_hangs_115 (by omega) ?_
    refine x_iload rfl d_X8_hangs_116 ?_
    refine x_iload rfl d_X8_hangs_118 ?_
    refine x_iconst (v := nI 1) (by decide) d_X8_hangs_120 ?_
    refine x_isubN d_X8_hangs_121 (by omega) ?_
    refine x_icmp_neN (tgt := 135) d_X8_hangs_122 (by decide) (by omega) (by omega) (fun c_4 => ?_) (fun c_4 => ?_)
    · refine x_iconst (v := nI 0) (by decide) d_X8_hangs_135 ?_
      refine x_iaddN d_X8_hangs_136 ?_
      refine x_iastore d_X8_hangs_137 (o8_13 H2_8) (nIx_nI (j := 24 * (20 * p + (r + 1)) + j) (by omega) (by decide)) (Nat.le_trans (o8_B H2_8) (Nat.le_add_right _ _)) ?_
      have H5_8 := o8_ast13 (24 * (20 * p + (r + 1)) + j) (((gvB (mR M p r) k) - k) + 0) H2_8
      have f_6 := o8_f13 (24 * (20 * p + (r + 1)) + j) (((gvB (mR M p r) k) - k) + 0) H2_8 (f_3) (by exact ⟨by omega, by omega⟩)
      refine x_aload_n rfl d_X8_hangs_138 ?_
      refine x_getf co_all (v := .ref (b + 13)) d_X8_hangs_139 fk_8_51 (o8_o H5_8) rfl ?_
      refine x_iload rfl d_X8_hangs_142 ?_
      refine x_iconst (v := nI 0) (by decide) d_X8_hangs_144 ?_
      refine x_iastore d_X8_hangs_145 (o8_14 H5_8) (nIx_nI (j := 24 * (20 * p + (r + 1)) + j) (by omega) (by decide)) (Nat.le_trans (o8_B H5_8) (Nat.le_add_right _ _)) ?_
      have H7_8 := o8_ast14 (24 * (20 * p + (r + 1)) + j) (0) H5_8
      have f_8 := o8_f14 (24 * (20 * p + (r + 1)) + j) (0) H5_8 (f_6) (by exact ⟨by omega, by omega⟩)
      refine x_iincN (m := 1) d_X8_hangs_146 rfl (by decide) (Nat.le_of_ble_eq_true rfl) ?_
      refine x_iincN (m := 1) d_X8_hangs_149 rfl (by decide) (Nat.le_of_ble_eq_true rfl) ?_
      refine x_goto (tgt := 80) d_X8_hangs_152 (by decide) ?_
      have ef : fsO (mR M p r) j = k := fsO_eq hk (by omega) (by omega)
      have es : sdO (mR M p r) j = ((gvB (mR M p r) k) - k) + 0 := by
        unfold sdO
        rw [ef, mR_0]
        first | (rw [nB_T ⟨by omega, by omega⟩]; done) | (rw [nB_F (by omega)]; done) | (rw [nB_T ⟨by omega, by omega⟩]; omega) | (rw [nB_F (by omega)]; omega)
      exact nG.sub (by exact (And.intro rfl (And.intro rfl (And.intro rfl (And.intro rfl (And.intro rfl (And.intro rfl (And.intro rfl (And.intro rfl (And.intro rfl True.intro)))))))))) (ih (n + 1) (j + 1) _ (by omega) (by omega) f_8 (o8_cg H7_8 (mHg_s ef es)))
    · refine x_iload rfl d_X8_hangs_125 ?_
      refine x_iload_n rfl d_X8_hangs_127 ?_
      refine x_icmp_geN (tgt := 135) d_X8_hangs_128 (by decide) (by omega) (by omega) (fun c_9 => ?_) (fun c_9 => ?_)
      · refine x_iconst (v := nI 0) (by decide) d_X8_hangs_135 ?_
        refine x_iaddN d_X8_hangs_136 ?_
        refine x_iastore d_X8_hangs_137 (o8_13 H2_8) (nIx_nI (j := 24 * (20 * p + (r + 1)) + j) (by omega) (by decide)) (Nat.le_trans (o8_B H2_8) (Nat.le_add_right _ _)) ?_
        have H10_8 := o8_ast13 (24 * (20 * p + (r + 1)) + j) (((gvB (mR M p r) k) - k) + 0) H2_8
        have f_11 := o8_f13 (24 * (20 * p + (r + 1)) + j) (((gvB (mR M p r) k) - k) + 0) H2_8 (f_3) (by exact ⟨by omega, by omega⟩)
        refine x_aload_n rfl d_X8_hangs_138 ?_
        refine x_getf co_all (v := .ref (b + 13)) d_X8_hangs_139 fk_8_51 (o8_o H10_8) rfl ?_
        refine x_iload rfl d_X8_hangs_142 ?_
        refine x_iconst (v := nI 0) (by decide) d_X8_hangs_144 ?_
        refine x_iastore d_X8_hangs_145 (o8_14 H10_8) (nIx_nI (j := 24 * (20 * p + (r + 1)) + j) (by omega) (by decide)) (Nat.le_trans (o8_B H10_8) (Nat.le_add_right _ _)) ?_
        have H12_8 := o8_ast14 (24 * (20 * p + (r + 1)) + j) (0) H10_8
        have f_13 := o8_f14 (24 * (20 * p + (r + 1)) + j) (0) H10_8 (f_11) (by exact ⟨by omega, by omega⟩)
        refine x_iincN (m := 1) d_X8_hangs_146 rfl (by decide) (Nat.le_of_ble_eq_true rfl) ?_
        refine x_iincN (m := 1) d_X8_hangs_149 rfl (by decide) (Nat.le_of_ble_eq_true rfl) ?_
        refine x_goto (tgt := 80) d_X8_hangs_152 (by decide) ?_
        have ef : fsO (mR M p r) j = k := fsO_eq hk (by omega) (by omega)
        have es : sdO (mR M p r) j = ((gvB (mR M p r) k) - k) + 0 := by
          unfold sdO
          rw [ef, mR_0]
          first | (rw [nB_T ⟨by omega, by omega⟩]; done) | (rw [nB_F (by omega)]; done) | (rw [nB_T ⟨by omega, by omega⟩]; omega) | (rw [nB_F (by omega)]; omega)
        exact nG.sub (by exact (And.intro rfl (And.intro rfl (And.intro rfl (And.intro rfl (And.intro rfl (And.intro rfl (And.intro rfl (And.intro rfl (And.intro rfl True.intro)))))))))) (ih (n + 1) (j + 1) _ (by omega) (by omega) f_13 (o8_cg H12_8 (mHg_s ef es)))
      · refine x_iconst (v := nI 1) (by decide) d_X8_hangs_131 ?_
        refine x_goto (tgt := 136) d_X8_hangs_132 (by decide) ?_
        refine x_iaddN d_X8_hangs_136 ?_
        refine x_iastore d_X8_hangs_137 (o8_13 H2_8) (nIx_nI (j := 24 * (20 * p + (r + 1)) + j) (by omega) (by decide)) (Nat.le_trans (o8_B H2_8) (Nat.le_add_right _ _)) ?_
        have H14_8 := o8_ast13 (24 * (20 * p + (r + 1)) + j) (((gvB (mR M p r) k) - k) + 1) H2_8
        have f_15 := o8_f13 (24 * (20 * p + (r + 1)) + j) (((gvB (mR M p r) k) - k) + 1) H2_8 (f_3) (by exact ⟨by omega, by omega⟩)
        refine x_aload_n rfl d_X8_hangs_138 ?_
        refine x_getf co_all (v := .ref (b + 13)) d_X8_hangs_139 fk_8_51 (o8_o H14_8) rfl ?_
        refine x_iload rfl d_X8_hangs_142 ?_
        refine x_iconst (v := nI 0) (by decide) d_X8_hangs_144 ?_
        refine x_iastore d_X8_hangs_145 (o8_14 H14_8) (nIx_nI (j := 24 * (20 * p + (r + 1)) + j) (by omega) (by decide)) (Nat.le_trans (o8_B H14_8) (Nat.le_add_right _ _)) ?_
        have H16_8 := o8_ast14 (24 * (20 * p + (r + 1)) + j) (0) H14_8
        have f_17 := o8_f14 (24 * (20 * p + (r + 1)) + j) (0) H14_8 (f_15) (by exact ⟨by omega, by omega⟩)
        refine x_iincN (m := 1) d_X8_hangs_146 rfl (by decide) (Nat.le_of_ble_eq_true rfl) ?_
        refine x_iincN (m := 1) d_X8_hangs_149 rfl (by decide) (Nat.le_of_ble_eq_true rfl) ?_
        refine x_goto (tgt := 80) d_X8_hangs_152 (by decide) ?_
        have ef : fsO (mR M p r) j = k := fsO_eq hk (by omega) (by omega)
        have es : sdO (mR M p r) j = ((gvB (mR M p r) k) - k) + 1 := by
          unfold sdO
          rw [ef, mR_0]
          first | (rw [nB_T ⟨by omega, by omega⟩]; done) | (rw [nB_F (by omega)]; done) | (rw [nB_T ⟨by omega, by omega⟩]; omega) | (rw [nB_F (by omega)]; omega)
        exact nG.sub (by exact (And.intro rfl (And.intro rfl (And.intro rfl (And.intro rfl (And.intro rfl (And.intro rfl (And.intro rfl (And.intro rfl (And.intro rfl True.intro)))))))))) (ih (n + 1) (j + 1) _ (by omega) (by omega) f_17 (o8_cg H16_8 (mHg_s ef es)))
theorem lp_mhO {h0 : nPH} {b : Nat} {M : Nat → Nat → Nat} {p r : Nat} (hp : p < 12) (hr : r + 1 < 20) (h24 : M 8 (20 * p + r) ≤ 24) (hg : ∀ k, k < 24 → M 11 (24 * (20 * p + r) + k) ≤ 2) (hof : off (mR M p r) (M 8 (20 * p + r)) ≤ 24) : ∀ n k : Nat, ∀ h : nPH, k + n = M 8 (20 * p + r) → nFr (nIv b 24) h0 h → o8 h b (mHg M p r (off (mR M p r) k)) → nG YX8_hangs (nKy YX8_hangs h0.1 h0.2.1 (fun v h2 => v = none ∧ nFr (nIv b 24) h0 h2 ∧ o8 h2 b (mHg M p r (off (mR M p r) (M 8 (20 * p + r)))))) 0 0 20 [some (.ref (b)), some (.int (nI (p))), some (.int (nI (r + 1))), some (.int (nI (M 8 (20 * p + r)))), some (.int (nI (off (mR M p r) k))), some (.int (nI (k))), none, none, none, none] [] h := by
  intro n
  induction n with
  | zero =>
    intro k h hk F H
    refine x_iload rfl d_X8_hangs_20 ?_
    refine x_iload_n rfl d_X8_hangs_22 ?_
    refine x_icmp_geN (tgt := 161) d_X8_hangs_23 (by decide) (by omega) (by omega) (fun c_1 => ?_) (fun c_1 => by exfalso; omega)
    exact x_return d_X8_hangs_161 rfl F.1 F.2.1 (Nat.zero_le _) (Nat.zero_le _) (⟨rfl, F, by rw [show M 8 (20 * p + r) = k by omega]; exact H⟩)
  | succ n ih =>
    intro k h hk F H
    refine x_iload rfl d_X8_hangs_20 ?_
    refine x_iload_n rfl d_X8_hangs_22 ?_
    refine x_icmp_geN (tgt := 161) d_X8_hangs_23 (by decide) (by omega) (by omega) (fun c_1 => by exfalso; omega) (fun c_1 => ?_)
    refine x_iload rfl d_X8_hangs_26 ?_
    refine x_iconst (v := nI 1) (by decide) d_X8_hangs_28 ?_
    refine x_iaddN d_X8_hangs_29 ?_
    refine x_istore d_X8_hangs_30 (Nat.le_of_ble_eq_true rfl) ?_
    refine nG.sub (by exact (And.intro rfl (And.intro rfl (And.intro rfl (And.intro rfl (And.intro rfl (And.intro rfl (And.intro rfl True.intro)))))))) (lp_mnx hp hr h24 hg hof H (fun i hi => ?_) (by omega) (M 8 (20 * p + r) - k) (k + 1) (by omega) (by omega) (by omega) rfl)
    subst hi
    refine x_aload_n rfl d_X8_hangs_61 ?_
    refine x_getf co_all (v := .ref (b + 10)) d_X8_hangs_62 fk_8_42 (o8_o H) rfl ?_
    refine x_iload_n rfl d_X8_hangs_65 ?_
    refine x_iload_n rfl d_X8_hangs_66 ?_
    refine x_iconst (v := nI 1) (by decide) d_X8_hangs_67 ?_
    refine x_isubN d_X8_hangs_68 (by omega) ?_
    rw [Nat.add_sub_cancel]
    refine x_iload rfl d_X8_hangs_69 ?_
    refine x_rdS d_X8_hangs_71 lk_8_99 mo_X8_at sc_X8_at (sp_at) rfl ⟨Nat.le_of_ble_eq_true rfl, Nat.le_of_ble_eq_true rfl⟩ rfl rfl (Nat.zero_le _) (Nat.zero_le _) (Nat.le_of_ble_eq_true rfl) rfl ?_
    refine x_iaload d_X8_hangs_74 (o8_11 H) (nIx_nI (j := 24 * (20 * p + r) + k) (by omega) (by decide)) ?_
    show nG _ _ _ _ _ _ (.int (nI (mHg M p r (off (mR M p r) k) 11 (24 * (20 * p + r) + k))) :: _) _
    rw [mHg_o (by decide)]
    refine x_istore d_X8_hangs_75 (Nat.le_of_ble_eq_true rfl) ?_
    refine x_iconst (v := nI 0) (by decide) d_X8_hangs_77 ?_
    refine x_istore d_X8_hangs_78 (Nat.le_of_ble_eq_true rfl) ?_
    refine nG.sub (by exact (And.intro rfl (And.intro rfl (And.intro rfl (And.intro rfl (And.intro rfl (And.intro rfl (And.intro rfl (And.intro rfl (And.intro rfl True.intro)))))))))) (lp_mhI hp hr h24 hg hof (show k < M 8 (20 * p + r) by omega) (fun h3 F3 H3 => ?_) (M 11 (24 * (20 * p + r) + k)) 0 (off (mR M p r) k) h (by omega) rfl F H)
    refine x_iincN (m := 1) d_X8_hangs_155 rfl (by decide) (Nat.le_of_ble_eq_true rfl) ?_
    refine x_goto (tgt := 20) d_X8_hangs_158 (by decide) ?_
    exact nG.sub (by exact (And.intro rfl (And.intro rfl (And.intro rfl (And.intro rfl (And.intro rfl (And.intro rfl True.intro))))))) (ih (k + 1) h3 (by omega) F3 H3)
theorem sp_mhangs {h : nPH} {b : Nat} {M : Nat → Nat → Nat} {p r : Nat} (hp : p < 12) (hr : r + 1 < 20) (h24 : M 8 (20 * p + r) ≤ 24) (hg : ∀ k, k < 24 → M 11 (24 * (20 * p + r) + k) ≤ 2) (hof : off (mR M p r) (M 8 (20 * p + r)) ≤ 24) (H : o8 h b M) : nWv YX8_hangs [.ref b, .int (nI p), .int (nI (r + 1))] h none (fun h2 => nFr (nIv b 24) h h2 ∧ o8 h2 b (mHg M p r (off (mR M p r) (M 8 (20 * p + r))))) := by
  refine nSp_of (by decide +kernel) rfl (Nat.le_of_ble_eq_true rfl) (ls := [some (.ref (b)), some (.int (nI (p))), some (.int (nI (r + 1))), none, none, none, none, none, none, none]) (by exact (And.intro rfl (And.intro rfl (And.intro rfl True.intro)))) ?_
  refine x_aload_n rfl d_X8_hangs_0 ?_
  refine x_getf co_all (v := .ref (b + 7)) d_X8_hangs_1 fk_8_32 (o8_o H) rfl ?_
  refine x_bipush (v := nI 20) (by decide) d_X8_hangs_4 ?_
  refine x_iload_n rfl d_X8_hangs_6 ?_
  refine x_imulN d_X8_hangs_7 ?_
  refine x_iload_n rfl d_X8_hangs_8 ?_
  refine x_iaddN d_X8_hangs_9 ?_
  refine x_iconst (v := nI 1) (by decide) d_X8_hangs_10 ?_
  refine x_isubN d_X8_hangs_11 (by omega) ?_
  rw [show 20 * p + (r + 1) - 1 = 20 * p + r by omega]
  refine x_iaload d_X8_hangs_12 (o8_8 H) (nIx_nI (j := 20 * p + r) (by omega) (by decide)) ?_
  refine x_istore_n d_X8_hangs_13 (Nat.le_of_ble_eq_true rfl) ?_
  refine x_iconst (v := nI 0) (by decide) d_X8_hangs_14 ?_
  refine x_istore d_X8_hangs_15 (Nat.le_of_ble_eq_true rfl) ?_
  refine x_iconst (v := nI 0) (by decide) d_X8_hangs_17 ?_
  refine x_istore d_X8_hangs_18 (Nat.le_of_ble_eq_true rfl) ?_
  exact nG.sub (by exact (And.intro rfl (And.intro rfl (And.intro rfl (And.intro rfl (And.intro rfl (And.intro rfl True.intro))))))) (lp_mhO hp hr h24 hg hof (M 8 (20 * p + r)) 0 h (by omega) nFr.rf (o8_cg H (mHg_0 M p r)))
