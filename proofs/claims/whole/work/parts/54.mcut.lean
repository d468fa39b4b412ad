/-! the model: cut, tear -/
theorem rCb_n (D : Nat → Nat → Nat) (k j : Nat) : rCb D k (j + 1) = if hgb D j k = true then u2 (rCb D k j) 6 j (sset (D 6 j) (k - D 4 j)) else rCb D k j := by
  funext f i
  rw [rCb_s]
  unfold sto
  rw [rCb_h, rCb_f (f := 4) (by decide), rCb_g (Nat.le_refl j)]
  by_cases e : hgb D j k = true
  · rw [if_pos e, if_pos e]; rfl
  · rw [if_neg e, if_neg e]
theorem rCb_z (D : Nat → Nat → Nat) (k : Nat) : rCb D k 0 = D := funext fun f => funext fun i => rCb_0 D k f i
theorem uRs (R : Nat → Nat → Nat → Nat) (r : Nat) : uR R r (R r) = R := funext fun q => by
  by_cases e : q = r
  · subst e; rw [uR_eq]
  · rw [uR_ne e]
theorem kO_Cb {V : Nat → Nat → Nat} {P : Nat → Nat → Nat → Nat} {R : Nat → Nat → Nat → Nat → Nat} (O : kO V P R) (p r k j : Nat) : kO V P (uP R p (uR (R p) r (rCb (R p r) k j))) :=
  kO_row O (fun hp => kP_row (O.2.2.2 p hp) (fun hr => rOK_Cb ((O.2.2.2 p hp).2.2.1 r hr) k j) (rCb_f (by decide)) (fun i => rCb_f (by decide)) (fun i => rCb_f (by decide)))
theorem lp_mcut {h0 : nPH} {b : Nat} {V : Nat → Nat → Nat} {P : Nat → Nat → Nat → Nat} {R : Nat → Nat → Nat → Nat → Nat} {E Y T S : Nat → Nat → Nat} (O : kO V P R) {p r k x0 c0 : Nat} (hp : p < V 1 0) (hr1 : r + 1 < P p 5 0) (hkb : k < 24) : ∀ n j : Nat, j + n = R p (r + 1) 0 0 → ∀ (h : nPH) (M : Nat → Nat → Nat), nFr (nIv b 24) h0 h → o8 h b M → rW M V P (uP R p (uR (R p) (r + 1) (rCb (R p (r + 1)) k j))) E Y T S → nG YX8_cut (nKy YX8_cut h0.1 h0.2.1 (fun v h2 => v = some (.int (nI c0)) ∧ nFr (nIv b 24) h0 h2 ∧ ∃ M2, o8 h2 b M2 ∧ rW M2 V P (uP R p (uR (R p) (r + 1) (rCb (R p (r + 1)) k (R p (r + 1) 0 0)))) E Y T S)) 0 0 82 [some (.ref (b)), some (.int (nI (p))), some (.int (nI (r))), some (.int (nI (k))), some (.int (nI (x0))), some (.int (nI (c0))), some (.int (nI (j))), none] [] h := by
  intro n
  induction n with
  | zero =>
    intro j hj h M F H W
    have e : j = R p (r + 1) 0 0 := by omega
    have O2 := kO_Cb O p (r + 1) k j
    obtain ⟨p1, p2, p3, p4, p5, p6, p7, p8⟩ := rW_p W O2 hp
    obtain ⟨r1, r2, r3, r4, r5, r6⟩ := rW_r W O2 hp hr1
    rw [uP_eq, uR_eq] at r3 r4 r5 r6
    rw [rCb_f (by decide)] at r3 r4
    have r9 : M 8 (20 * p + r + 1) = M 8 (20 * p + (r + 1)) := rfl
    rw [← e] at r3 r4 ⊢
    refine x_iload rfl d_X8_cut_82 ?_
    refine x_aload_n rfl d_X8_cut_84 ?_
    refine x_getf co_all (v := .ref (b + 7)) d_X8_cut_85 fk_8_32 (o8_o H) rfl ?_
    refine x_bipush (v := nI 20) (by decide) d_X8_cut_88 ?_
    refine x_iload_n rfl d_X8_cut_90 ?_
    refine x_imulN d_X8_cut_91 ?_
    refine x_iload_n rfl d_X8_cut_92 ?_
    refine x_iaddN d_X8_cut_93 ?_
    refine x_iconst (v := nI 1) (by decide) d_X8_cut_94 ?_
    refine x_iaddN d_X8_cut_95 ?_
    refine x_iaload d_X8_cut_96 (o8_8 H) (nIx_nI (j := ((20 * p) + r) + 1) (by omega) (by decide)) ?_
    refine x_icmp_geN (tgt := 149) d_X8_cut_97 (by decide) (by omega) (by omega) (fun c_1 => ?_) (fun c_1 => by exfalso; omega)
    refine x_iload rfl d_X8_cut_149 ?_
    exact x_ireturn d_X8_cut_151 rfl rfl F.1 F.2.1 (Nat.zero_le _) (Nat.zero_le _) (⟨rfl, F, _, H, W⟩)
  | succ n ih =>
    intro j hj h M F H W
    have O2 := kO_Cb O p (r + 1) k j
    obtain ⟨p1, p2, p3, p4, p5, p6, p7, p8⟩ := rW_p W O2 hp
    obtain ⟨r1, r2, r3, r4, r5, r6⟩ := rW_r W O2 hp hr1
    rw [uP_eq, uR_eq] at r3 r4 r5 r6
    rw [rCb_f (by decide)] at r3 r4
    have r9 : M 8 (20 * p + r + 1) = M 8 (20 * p + (r + 1)) := rfl
    obtain ⟨k1, k2, k3, k4, k5, k6, k7, k8, k9⟩ := rW_k W O2 hp hr1 (k := j) (by rw [uP_eq, uR_eq, rCb_f (by decide)]; omega)
    rw [uP_eq, uR_eq] at k6 k7 k8
    rw [rCb_f (by decide)] at k6
    rw [rCb_g (Nat.le_refl j)] at k7
    rw [rCb_f (f := 5) (by decide), rCb_f (f := 4) (by decide)] at k8
    have k6b := ((p8.2 (r + 1) r1).2 j k2).2.2.1
    have hwe : hw (mR M p (r + 1)) 2 j k = nb (hgb (R p (r + 1)) j k) := by
      rw [← rRw_hw r6 (by rw [rCb_f (by decide)]; omega)]
      show nb (hgb (rCb (R p (r + 1)) k j) j k) = _
      rw [rCb_h]
    refine x_iload rfl d_X8_cut_82 ?_
    refine x_aload_n rfl d_X8_cut_84 ?_
    refine x_getf co_all (v := .ref (b + 7)) d_X8_cut_85 fk_8_32 (o8_o H) rfl ?_
    refine x_bipush (v := nI 20) (by decide) d_X8_cut_88 ?_
    refine x_iload_n rfl d_X8_cut_90 ?_
    refine x_imulN d_X8_cut_91 ?_
    refine x_iload_n rfl d_X8_cut_92 ?_
    refine x_iaddN d_X8_cut_93 ?_
    refine x_iconst (v := nI 1) (by decide) d_X8_cut_94 ?_
    refine x_iaddN d_X8_cut_95 ?_
    refine x_iaload d_X8_cut_96 (o8_8 H) (nIx_nI (j := ((20 * p) + r) + 1) (by omega) (by decide)) ?_
    refine x_icmp_geN (tgt := 149) d_X8_cut_97 (by decide) (by omega) (by omega) (fun c_1 => by exfalso; omega) (fun c_1 => ?_)
    refine x_iload_n rfl d_X8_cut_100 ?_
    refine x_iload_n rfl d_X8_cut_101 ?_
    refine x_iconst (v := nI 1) (by decide) d_X8_cut_102 ?_
    refine x_iaddN d_X8_cut_103 ?_
    refine x_iload rfl d_X8_cut_104 ?_
    refine x_rdS d_X8_cut_106 lk_8_99 mo_X8_at sc_X8_at (sp_at) rfl ⟨Nat.le_of_ble_eq_true rfl, Nat.le_of_ble_eq_true rfl⟩ rfl rfl (Nat.zero_le _) (Nat.zero_le _) (Nat.le_of_ble_eq_true rfl) rfl ?_
    refine x_istore d_X8_cut_109 (Nat.le_of_ble_eq_true rfl) ?_
    refine x_aload_n rfl d_X8_cut_111 ?_
    refine x_iload rfl d_X8_cut_112 ?_
    refine x_iload_n rfl d_X8_cut_114 ?_
    refine x_iconst (v := nI 2) (by decide) d_X8_cut_115 ?_
    refine x_rdV d_X8_cut_116 lk_8_139 mo_X8_hangsIn vi_X8_hangsIn (sp_mhg H p3 (r := r + 1) r2 (j := j) k2 (k := k) (by omega) ((p8.2 (r + 1) r1).2 j k2) (c := 2) (by decide)) (o8_o H) ⟨_, rfl, rfl⟩ rfl ⟨Nat.le_of_ble_eq_true rfl, Nat.le_of_ble_eq_true rfl⟩ rfl rfl (Nat.zero_le _) (Nat.zero_le _) (Nat.le_of_ble_eq_true rfl) rfl ?_
    have hle := hw_le (mR M p (r + 1)) 2 j k
    refine x_if_eqN (tgt := 143) d_X8_cut_119 (by decide) (by omega) (fun c_2 => ?_) (fun c_2 => ?_)
    · refine x_iincN (m := 1) d_X8_cut_143 rfl (by decide) (Nat.le_of_ble_eq_true rfl) ?_
      refine x_goto (tgt := 82) d_X8_cut_146 (by decide) ?_
      have hh : ¬ hgb (R p (r + 1)) j k = true := fun z => nb_n0.mpr z (by rw [← hwe]; exact c_2)
      refine nG.sub (ls2 := [some (.ref (b)), some (.int (nI (p))), some (.int (nI (r))), some (.int (nI (k))), some (.int (nI (x0))), some (.int (nI (c0))), some (.int (nI (j + 1))), none]) (by exact (And.intro rfl (And.intro rfl (And.intro rfl (And.intro rfl (And.intro rfl (And.intro rfl (And.intro rfl True.intro)))))))) (ih (j + 1) (by omega) _ _ F H ?_)
      rw [rCb_n, if_neg hh]
      exact W
    · refine x_aload_n rfl d_X8_cut_122 ?_
      refine x_getf co_all (v := .ref (b + 13)) d_X8_cut_123 fk_8_51 (o8_o H) rfl ?_
      refine x_iload rfl d_X8_cut_126 ?_
      refine x_dup2 rfl rfl d_X8_cut_128 ?_
      refine x_iaload d_X8_cut_129 (o8_14 H) (nIx_nI (j := 24 * (20 * p + (r + 1)) + j) (by omega) (by decide)) ?_
      refine x_iconst (v := nI 1) (by decide) d_X8_cut_130 ?_
      refine x_iload_n rfl d_X8_cut_131 ?_
      refine x_aload_n rfl d_X8_cut_132 ?_
      refine x_getf co_all (v := .ref (b + 11)) d_X8_cut_133 fk_8_45 (o8_o H) rfl ?_
      refine x_iload rfl d_X8_cut_136 ?_
      refine x_iaload d_X8_cut_138 (o8_12 H) (nIx_nI (j := 24 * (20 * p + (r + 1)) + j) (by omega) (by decide)) ?_
      rw [k8 (by have := hgb_T.mp (nb_n0.mp (show ¬ nb (hgb (R p (r + 1)) j k) = 0 by rw [← hwe]; exact c_2)); omega), nV_s]
      have hg_ := hgb_T.mp (nb_n0.mp (show ¬ nb (hgb (R p (r + 1)) j k) = 0 by rw [← hwe]; exact c_2))
      refine x_isubN d_X8_cut_139 (by omega) ?_
      refine x_ishl d_X8_cut_140 ?_
      rw [nI_shl1 (by omega)]
      refine x_ior d_X8_cut_141 ?_
      rw [nI_set]
      refine x_iastore d_X8_cut_142 (o8_14 H) (nIx_nI (j := 24 * (20 * p + (r + 1)) + j) (by omega) (by decide)) (Nat.le_trans (o8_B H) (Nat.le_add_right _ _)) ?_
      have H3_8 := o8_ast14 (24 * (20 * p + (r + 1)) + j) (sset (M 14 (24 * (20 * p + (r + 1)) + j)) (k - R p (r + 1) 4 j)) H
      have f_4 := o8_f14 (24 * (20 * p + (r + 1)) + j) (sset (M 14 (24 * (20 * p + (r + 1)) + j)) (k - R p (r + 1) 4 j)) H (F) (by exact ⟨by omega, by omega⟩)
      refine x_iincN (m := 1) d_X8_cut_143 rfl (by decide) (Nat.le_of_ble_eq_true rfl) ?_
      refine x_goto (tgt := 82) d_X8_cut_146 (by decide) ?_
      have hh : hgb (R p (r + 1)) j k = true := nb_n0.mp (by rw [← hwe]; exact c_2)
      refine nG.sub (ls2 := [some (.ref (b)), some (.int (nI (p))), some (.int (nI (r))), some (.int (nI (k))), some (.int (nI (x0))), some (.int (nI (c0))), some (.int (nI (j + 1))), none]) (by exact (And.intro rfl (And.intro rfl (And.intro rfl (And.intro rfl (And.intro rfl (And.intro rfl (And.intro rfl True.intro)))))))) (ih (j + 1) (by omega) _ _ f_4 H3_8 ?_)
      rw [rCb_n, if_pos hh]
      have W1 := rW_f W hp hr1 (k := j) (by rw [uP_eq, uR_eq, rCb_f (by decide)]; omega) (f := 6) (v := sset (R p (r + 1) 6 j) (k - R p (r + 1) 4 j)) (Or.inr (Or.inr (Or.inr rfl))) (fun e => absurd e (by decide)) (fun _ => sset_lt (by rw [k7]; exact k6b) (by omega))
      rw [uP_eq, uuP, uR_eq, uuR] at W1
      rw [k7] at W1 ⊢
      exact W1
theorem md_cutP {h : nPH} {b : Nat} {M V : Nat → Nat → Nat} {P : Nat → Nat → Nat → Nat} {R : Nat → Nat → Nat → Nat → Nat} {E Y T S : Nat → Nat → Nat} (H : o8 h b M) (W : rW M V P R E Y T S) (O : kO V P R) {p : Int32} (hp : ¬ nIn p (V 1 0)) {r k : Int32} : nRd YX8_cut [.ref (b), .int (p), .int (r), .int (k)] h (.int (-1)) := by
  refine nSp_of (by decide +kernel) rfl (Nat.le_of_ble_eq_true rfl) (ls := [some (.ref (b)), some (.int (p)), some (.int (r)), some (.int (k)), none, none, none, none]) (by exact (And.intro rfl (And.intro rfl (And.intro rfl (And.intro rfl True.intro))))) ?_
  refine x_aload_n rfl d_X8_cut_0 ?_
  refine x_iload_n rfl d_X8_cut_1 ?_
  refine x_iload_n rfl d_X8_cut_2 ?_
  refine x_iload_n rfl d_X8_cut_3 ?_
  refine x_rdV d_X8_cut_4 lk_8_118 mo_X8_isKnot vi_X8_isKnot (sp_isKnotP H (rW_n W O) (rW_x W hp)) (o8_o H) ⟨_, rfl, rfl⟩ rfl ⟨Nat.le_of_ble_eq_true rfl, Nat.le_of_ble_eq_true rfl⟩ rfl rfl (Nat.zero_le _) (Nat.zero_le _) (Nat.le_of_ble_eq_true rfl) rfl ?_
  refine x_if_neN (tgt := 12) d_X8_cut_7 (by decide) (by omega) (fun c_1 => by exfalso; omega) (fun c_1 => ?_)
  refine x_iconst (v := -1) (by decide) d_X8_cut_10 ?_
  exact x_ireturn d_X8_cut_11 rfl rfl rfl rfl (Nat.zero_le _) (Nat.zero_le _) (⟨rfl, rfl⟩)
theorem md_cutO {h : nPH} {b : Nat} {M V : Nat → Nat → Nat} {P : Nat → Nat → Nat → Nat} {R : Nat → Nat → Nat → Nat → Nat} {E Y T S : Nat → Nat → Nat} (H : o8 h b M) (W : rW M V P R E Y T S) (O : kO V P R) {p : Nat} (hp : p < V 1 0) {r k : Int32} (hO : rOff (P p 5 0) (R p) r k) : nRd YX8_cut [.ref (b), .int (nI (p)), .int (r), .int (k)] h (.int (-1)) := by
  obtain ⟨p1, p2, p3, p4, p5, p6, p7, p8⟩ := rW_p W O hp
  refine nSp_of (by decide +kernel) rfl (Nat.le_of_ble_eq_true rfl) (ls := [some (.ref (b)), some (.int (nI (p))), some (.int (r)), some (.int (k)), none, none, none, none]) (by exact (And.intro rfl (And.intro rfl (And.intro rfl (And.intro rfl True.intro))))) ?_
  refine x_aload_n rfl d_X8_cut_0 ?_
  refine x_iload_n rfl d_X8_cut_1 ?_
  refine x_iload_n rfl d_X8_cut_2 ?_
  refine x_iload_n rfl d_X8_cut_3 ?_
  refine x_rdV d_X8_cut_4 lk_8_118 mo_X8_isKnot vi_X8_isKnot (sp_isKnotO H W O hp hO) (o8_o H) ⟨_, rfl, rfl⟩ rfl ⟨Nat.le_of_ble_eq_true rfl, Nat.le_of_ble_eq_true rfl⟩ rfl rfl (Nat.zero_le _) (Nat.zero_le _) (Nat.le_of_ble_eq_true rfl) rfl ?_
  refine x_if_neN (tgt := 12) d_X8_cut_7 (by decide) (by omega) (fun c_1 => by exfalso; omega) (fun c_1 => ?_)
  refine x_iconst (v := -1) (by decide) d_X8_cut_10 ?_
  exact x_ireturn d_X8_cut_11 rfl rfl rfl rfl (Nat.zero_le _) (Nat.zero_le _) (⟨rfl, rfl⟩)
theorem md_cut {h : nPH} {b : Nat} {M V : Nat → Nat → Nat} {P : Nat → Nat → Nat → Nat} {R : Nat → Nat → Nat → Nat → Nat} {E Y T S : Nat → Nat → Nat} (H : o8 h b M) (W : rW M V P R E Y T S) (O : kO V P R) {p : Nat} (hp : p < V 1 0) {r : Nat} (hr : r < P p 5 0) {k : Nat} (hk : k < R p r 0 0) : nWv YX8_cut [.ref b, .int (nI p), .int (nI r), .int (nI k)] h (some (.int (nI (cus (P p) (R p) r k)))) (fun h2 => nFr (nIv b 24) h h2 ∧ ∃ M2, o8 h2 b M2 ∧ rW M2 V P (uP R p (rCu (P p) (R p) r k)) E Y T S) := by
  obtain ⟨p1, p2, p3, p4, p5, p6, p7, p8⟩ := rW_p W O hp
  obtain ⟨r1, r2, r3, r4, r5, r6⟩ := rW_r W O hp hr
  obtain ⟨k1, k2, k3, k4, k5, k6, k7, k8, k9⟩ := rW_k W O hp hr hk
  have ks := r5.2 k k2
  have kb := ((p8.2 r r1).2 k k2).2.2.1
  have hps := pcn_sd ks.2.2.2.2.2 ks.2.2.2.2.1
  have hmb := mbl_le (M := M) (p := p) (r := r) (k := k) (c := 0) 
  have ec : M 13 (24 * (20 * p + r) + k) - pcn (M 14 (24 * (20 * p + r) + k)) + mbl M p r k 0 = cus (P p) (R p) r k := by
    rw [rW_bl W O hp, ← k6, ← k7, hw0_wbl]
    rfl
  have W1 := rW_f W hp hr hk (f := 6) (v := 2 ^ (M 13 (24 * (20 * p + r) + k)) - 1) (Or.inr (Or.inr (Or.inr rfl))) (fun e => absurd e (by decide)) (fun _ => by
    have := Nat.pow_le_pow_right (n := 2) (by decide) (show M 13 (24 * (20 * p + r) + k) ≤ 24 by omega)
    have := Nat.two_pow_pos (M 13 (24 * (20 * p + r) + k))
    omega)
  rw [← k6] at W1
  have W1 : rW (u2 M 14 (24 * (20 * p + r) + k) (2 ^ R p r 5 k - 1)) V P (uP R p (uR (R p) r (rCo (R p r) k))) E Y T S := W1
  have O1 : kO V P (uP R p (uR (R p) r (rCo (R p r) k))) := kO_row O (fun hp => kP_row (O.2.2.2 p hp) (fun hr => rOK_Co ((O.2.2.2 p hp).2.2.1 r hr) k) rfl (fun i => rfl) (fun i => rfl))
  refine nSp_of (by decide +kernel) rfl (Nat.le_of_ble_eq_true rfl) (ls := [some (.ref (b)), some (.int (nI (p))), some (.int (nI (r))), some (.int (nI (k))), none, none, none, none]) (by exact (And.intro rfl (And.intro rfl (And.intro rfl (And.intro rfl True.intro))))) ?_
  refine x_aload_n rfl d_X8_cut_0 ?_
  refine x_iload_n rfl d_X8_cut_1 ?_
  refine x_iload_n rfl d_X8_cut_2 ?_
  refine x_iload_n rfl d_X8_cut_3 ?_
  refine x_rdV d_X8_cut_4 lk_8_118 mo_X8_isKnot vi_X8_isKnot (sp_isKnot H p2 p1 r1 p5 k1 (by omega)) (o8_o H) ⟨_, rfl, rfl⟩ rfl ⟨Nat.le_of_ble_eq_true rfl, Nat.le_of_ble_eq_true rfl⟩ rfl rfl (Nat.zero_le _) (Nat.zero_le _) (Nat.le_of_ble_eq_true rfl) rfl ?_
  refine x_if_neN (tgt := 12) d_X8_cut_7 (by decide) (by omega) (fun c_1 => ?_) (fun c_1 => by exfalso; omega)
  refine x_iload_n rfl d_X8_cut_12 ?_
  refine x_iload_n rfl d_X8_cut_13 ?_
  refine x_iload_n rfl d_X8_cut_14 ?_
  refine x_rdS d_X8_cut_15 lk_8_99 mo_X8_at sc_X8_at (sp_at) rfl ⟨Nat.le_of_ble_eq_true rfl, Nat.le_of_ble_eq_true rfl⟩ rfl rfl (Nat.zero_le _) (Nat.zero_le _) (Nat.le_of_ble_eq_true rfl) rfl ?_
  refine x_istore d_X8_cut_18 (Nat.le_of_ble_eq_true rfl) ?_
  refine x_aload_n rfl d_X8_cut_20 ?_
  refine x_getf co_all (v := .ref (b + 12)) d_X8_cut_21 fk_8_48 (o8_o H) rfl ?_
  refine x_iload rfl d_X8_cut_24 ?_
  refine x_iaload d_X8_cut_26 (o8_13 H) (nIx_nI (j := 24 * (20 * p + r) + k) (by omega) (by decide)) ?_
  refine x_aload_n rfl d_X8_cut_27 ?_
  refine x_getf co_all (v := .ref (b + 13)) d_X8_cut_28 fk_8_51 (o8_o H) rfl ?_
  refine x_iload rfl d_X8_cut_31 ?_
  refine x_iaload d_X8_cut_33 (o8_14 H) (nIx_nI (j := 24 * (20 * p + r) + k) (by omega) (by decide)) ?_
  refine x_rdS d_X8_cut_34 lk_8_142 mo_X8_bits sc_X8_bits (sp_mbits (g := M 14 (24 * (20 * p + r) + k)) (by omega)) rfl ⟨Nat.le_of_ble_eq_true rfl, Nat.le_of_ble_eq_true rfl⟩ rfl rfl (Nat.zero_le _) (Nat.zero_le _) (Nat.le_of_ble_eq_true rfl) rfl ?_
  refine x_isubN d_X8_cut_37 (by rw [← k6, ← k7]; exact hps) ?_
  refine x_aload_n rfl d_X8_cut_38 ?_
  refine x_iload_n rfl d_X8_cut_39 ?_
  refine x_iload_n rfl d_X8_cut_40 ?_
  refine x_iload_n rfl d_X8_cut_41 ?_
  refine x_iconst (v := nI 0) (by decide) d_X8_cut_42 ?_
  refine x_rdV d_X8_cut_43 lk_8_145 mo_X8_below vi_X8_below (sp_mbl H p3 r2 p8 (k := k) (by omega) (c := 0) (by decide)) (o8_o H) ⟨_, rfl, rfl⟩ rfl ⟨Nat.le_of_ble_eq_true rfl, Nat.le_of_ble_eq_true rfl⟩ rfl rfl (Nat.zero_le _) (Nat.zero_le _) (Nat.le_of_ble_eq_true rfl) rfl ?_
  refine x_iaddN d_X8_cut_46 ?_
  rw [ec]
  refine x_istore d_X8_cut_47 (Nat.le_of_ble_eq_true rfl) ?_
  refine x_aload_n rfl d_X8_cut_49 ?_
  refine x_getf co_all (v := .ref (b + 13)) d_X8_cut_50 fk_8_51 (o8_o H) rfl ?_
  refine x_iload rfl d_X8_cut_53 ?_
  refine x_iconst (v := nI 1) (by decide) d_X8_cut_55 ?_
  refine x_aload_n rfl d_X8_cut_56 ?_
  refine x_getf co_all (v := .ref (b + 12)) d_X8_cut_57 fk_8_48 (o8_o H) rfl ?_
  refine x_iload rfl d_X8_cut_60 ?_
  refine x_iaload d_X8_cut_62 (o8_13 H) (nIx_nI (j := 24 * (20 * p + r) + k) (by omega) (by decide)) ?_
  refine x_ishl d_X8_cut_63 ?_
  rw [nI_shl1 (by omega), ← k6]
  refine x_iconst (v := nI 1) (by decide) d_X8_cut_64 ?_
  refine x_isubN d_X8_cut_65 (by have := Nat.two_pow_pos (R p r 5 k); omega) ?_
  refine x_iastore d_X8_cut_66 (o8_14 H) (nIx_nI (j := 24 * (20 * p + r) + k) (by omega) (by decide)) (Nat.le_trans (o8_B H) (Nat.le_add_right _ _)) ?_
  have H2_8 := o8_ast14 (24 * (20 * p + r) + k) (2 ^ R p r 5 k - 1) H
  have f_3 := o8_f14 (24 * (20 * p + r) + k) (2 ^ R p r 5 k - 1) H ((nFr.rf (S := nIv b 24) (h := h))) (by exact ⟨by omega, by omega⟩)
  refine x_iload_n rfl d_X8_cut_67 ?_
  refine x_iconst (v := nI 1) (by decide) d_X8_cut_68 ?_
  refine x_iaddN d_X8_cut_69 ?_
  refine x_aload_n rfl d_X8_cut_70 ?_
  refine x_getf co_all (v := .ref (b + 1)) d_X8_cut_71 fk_8_13 (o8_o H2_8) rfl ?_
  refine x_iload_n rfl d_X8_cut_74 ?_
  refine x_iaload d_X8_cut_75 (o8_2 H2_8) (nIx_nI (j := p) (by omega) (by decide)) ?_
  show nG _ _ _ _ _ _ (.int (nI (M 2 p)) :: _) _
  refine x_icmp_geN (tgt := 149) d_X8_cut_76 (by decide) (by omega) (by omega) (fun c_1 => ?_) (fun c_1 => ?_)
  · refine x_iload rfl d_X8_cut_149 ?_
    exact x_ireturn d_X8_cut_151 rfl rfl (f_3).1 (f_3).2.1 (Nat.zero_le _) (Nat.zero_le _) (⟨rfl, f_3, _, H2_8, by rw [show rCu (P p) (R p) r k = uR (R p) r (rCo (R p r) k) from funext fun q => by { unfold rCu; by_cases e1 : q = r; { subst e1; rw [uR_eq, if_pos rfl] }; { rw [if_neg e1, uR_ne e1, if_neg (fun z => absurd z.2 (by omega))] } }]; exact W1⟩)
  · refine x_iconst (v := nI 0) (by decide) d_X8_cut_79 ?_
    refine x_istore d_X8_cut_80 (Nat.le_of_ble_eq_true rfl) ?_
    have Z := lp_mcut (x0 := 24 * (20 * p + r) + k) (c0 := cus (P p) (R p) r k) O1 hp (r := r) (k := k) (by omega) k2 (h0 := h) (R p (r + 1) 0 0) 0 (by rw [uP_eq, uR_ne (by omega)]; omega) _ _ f_3 H2_8 (by rw [rCb_z, uRs, uPs]; exact W1)
    rw [uP_eq, uuP, uR_ne (show r + 1 ≠ r by omega)] at Z
    have eR : uR (uR (R p) r (rCo (R p r) k)) (r + 1) (rCb (R p (r + 1)) k (R p (r + 1) 0 0)) = rCu (P p) (R p) r k := funext fun q => by
      unfold rCu
      by_cases e1 : q = r
      · subst e1; rw [uR_ne (by omega), uR_eq, if_pos rfl]
      · rw [if_neg e1]
        by_cases e2 : q = r + 1
        · subst e2; rw [uR_eq, if_pos ⟨rfl, by omega⟩]
        · rw [uR_ne e2, uR_ne e1, if_neg (fun z => e2 z.1)]
    rw [eR] at Z
    exact nG.sub (by exact (And.intro rfl (And.intro rfl (And.intro rfl (And.intro rfl (And.intro rfl (And.intro rfl (And.intro rfl True.intro)))))))) Z
