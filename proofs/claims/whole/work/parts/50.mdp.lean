/-! the model: what a panel has in all -/
theorem cov_s (D : Nat → Nat → Nat) (c n : Nat) : cov D c (n + 1) = cov D c n + shr D n c := rfl
theorem shr_5 (D : Nat → Nat → Nat) (k : Nat) : shr D k 5 = 1 := rfl
theorem shr_6 (D : Nat → Nat → Nat) (k : Nat) : shr D k 6 = D 3 k := rfl
theorem shr_7 (D : Nat → Nat → Nat) (k : Nat) : shr D k 7 = D 5 k := rfl
theorem shr_8 (D : Nat → Nat → Nat) (k : Nat) : shr D k 8 = pcn (D 6 k) := rfl
theorem lp_mpi {h : nPH} {b : Nat} {M V : Nat → Nat → Nat} {P : Nat → Nat → Nat → Nat} {R : Nat → Nat → Nat → Nat → Nat} {E Y T S : Nat → Nat → Nat} (H : o8 h b M) (W : rW M V P R E Y T S) (O : kO V P R) {D0 : va_G} {B0 : Nat} {Post : Option Value → nPH → Prop} {c : Int32} {p : Nat} (hp : p < V 1 0) {r : Nat} (hr : r < P p 5 0) (kk : nG YX8_panelOf (nKy YX8_panelOf D0 B0 Post) 0 0 133 [some (.ref (b)), some (.int (nI (p))), some (.int (c)), some (.int (nI (tot (P p) (R p) 5 (r + 1)))), some (.int (nI (tot (P p) (R p) 6 (r + 1)))), some (.int (nI (tot (P p) (R p) 7 (r + 1)))), some (.int (nI (tot (P p) (R p) 8 (r + 1)))), some (.int (nI (r))), none, none] [] h) : ∀ n j : Nat, j + n = R p r 0 0 → nG YX8_panelOf (nKy YX8_panelOf D0 B0 Post) 0 0 50 [some (.ref (b)), some (.int (nI (p))), some (.int (c)), some (.int (nI (tot (P p) (R p) 5 r + cov (R p r) 5 j))), some (.int (nI (tot (P p) (R p) 6 r + cov (R p r) 6 j))), some (.int (nI (tot (P p) (R p) 7 r + cov (R p r) 7 j))), some (.int (nI (tot (P p) (R p) 8 r + cov (R p r) 8 j))), some (.int (nI (r))), some (.int (nI (j))), none] [] h := by
  intro n
  obtain ⟨p1, p2, p3, p4, p5, p6, p7, p8⟩ := rW_p W O hp
  obtain ⟨r1, r2, r3, r4, r5, r6⟩ := rW_r W O hp hr
  induction n with
  | zero =>
    intro j hj
    refine x_iload rfl d_X8_panelOf_50 ?_
    refine x_aload_n rfl d_X8_panelOf_52 ?_
    refine x_getf co_all (v := .ref (b + 7)) d_X8_panelOf_53 fk_8_32 (o8_o H) rfl ?_
    refine x_bipush (v := nI 20) (by decide) d_X8_panelOf_56 ?_
    refine x_iload_n rfl d_X8_panelOf_58 ?_
    refine x_imulN d_X8_panelOf_59 ?_
    refine x_iload rfl d_X8_panelOf_60 ?_
    refine x_iaddN d_X8_panelOf_62 ?_
    refine x_iaload d_X8_panelOf_63 (o8_8 H) (nIx_nI (j := (20 * p) + r) (by omega) (by decide)) ?_
    refine x_icmp_geN (tgt := 133) d_X8_panelOf_64 (by decide) (by omega) (by omega) (fun c_1 => ?_) (fun c_1 => by exfalso; omega)
    have e : j = R p r 0 0 := by omega
    subst e
    exact nG.sub (by exact (And.intro rfl (And.intro rfl (And.intro rfl (And.intro rfl (And.intro rfl (And.intro rfl (And.intro rfl (And.intro rfl True.intro))))))))) kk
  | succ n ih =>
    intro j hj
    obtain ⟨k1, k2, k3, k4, k5, k6, k7, k8, k9⟩ := rW_k W O hp hr (k := j) (by omega)
    have ks := r5.2 j k2
    refine x_iload rfl d_X8_panelOf_50 ?_
    refine x_aload_n rfl d_X8_panelOf_52 ?_
    refine x_getf co_all (v := .ref (b + 7)) d_X8_panelOf_53 fk_8_32 (o8_o H) rfl ?_
    refine x_bipush (v := nI 20) (by decide) d_X8_panelOf_56 ?_
    refine x_iload_n rfl d_X8_panelOf_58 ?_
    refine x_imulN d_X8_panelOf_59 ?_
    refine x_iload rfl d_X8_panelOf_60 ?_
    refine x_iaddN d_X8_panelOf_62 ?_
    refine x_iaload d_X8_panelOf_63 (o8_8 H) (nIx_nI (j := (20 * p) + r) (by omega) (by decide)) ?_
    refine x_icmp_geN (tgt := 133) d_X8_panelOf_64 (by decide) (by omega) (by omega) (fun c_1 => by exfalso; omega) (fun c_1 => ?_)
    refine x_iload_n rfl d_X8_panelOf_67 ?_
    refine x_iload rfl d_X8_panelOf_68 ?_
    refine x_iload rfl d_X8_panelOf_70 ?_
    refine x_rdS d_X8_panelOf_72 lk_8_99 mo_X8_at sc_X8_at (sp_at) rfl ⟨Nat.le_of_ble_eq_true rfl, Nat.le_of_ble_eq_true rfl⟩ rfl rfl (Nat.zero_le _) (Nat.zero_le _) (Nat.le_of_ble_eq_true rfl) rfl ?_
    refine x_istore d_X8_panelOf_75 (Nat.le_of_ble_eq_true rfl) ?_
    refine x_iincN (m := 1) d_X8_panelOf_77 rfl (by decide) (Nat.le_of_ble_eq_true rfl) ?_
    refine x_iload rfl d_X8_panelOf_80 ?_
    refine x_aload_n rfl d_X8_panelOf_82 ?_
    refine x_getf co_all (v := .ref (b + 14)) d_X8_panelOf_83 fk_8_54 (o8_o H) rfl ?_
    refine x_iload rfl d_X8_panelOf_86 ?_
    refine x_baload d_X8_panelOf_88 (o8_15 H) (nIx_nI (j := 24 * (20 * p + r) + j) (by omega) (by decide)) ?_
    refine x_if_eqN (tgt := 96) d_X8_panelOf_89 (by decide) (by omega) (fun c_9 => ?_) (fun c_9 => ?_)
    · refine x_iconst (v := nI 0) (by decide) d_X8_panelOf_96 ?_
      refine x_iaddN d_X8_panelOf_97 ?_
      refine x_istore d_X8_panelOf_98 (Nat.le_of_ble_eq_true rfl) ?_
      refine x_iload rfl d_X8_panelOf_100 ?_
      refine x_aload_n rfl d_X8_panelOf_102 ?_
      refine x_getf co_all (v := .ref (b + 12)) d_X8_panelOf_103 fk_8_48 (o8_o H) rfl ?_
      refine x_iload rfl d_X8_panelOf_106 ?_
      refine x_iaload d_X8_panelOf_108 (o8_13 H) (nIx_nI (j := 24 * (20 * p + r) + j) (by omega) (by decide)) ?_
      refine x_iaddN d_X8_panelOf_109 ?_
      refine x_istore d_X8_panelOf_110 (Nat.le_of_ble_eq_true rfl) ?_
      refine x_iload rfl d_X8_panelOf_112 ?_
      refine x_aload_n rfl d_X8_panelOf_114 ?_
      refine x_getf co_all (v := .ref (b + 13)) d_X8_panelOf_115 fk_8_51 (o8_o H) rfl ?_
      refine x_iload rfl d_X8_panelOf_118 ?_
      refine x_iaload d_X8_panelOf_120 (o8_14 H) (nIx_nI (j := 24 * (20 * p + r) + j) (by omega) (by decide)) ?_
      refine x_rdS d_X8_panelOf_121 lk_8_142 mo_X8_bits sc_X8_bits (sp_mbits (g := M 14 (24 * (20 * p + r) + j)) (by rw [← k7]; have := ks.2.2.2.2.2; have := Nat.pow_le_pow_right (n := 2) (by decide) ks.2.2.2.2.1; omega)) rfl ⟨Nat.le_of_ble_eq_true rfl, Nat.le_of_ble_eq_true rfl⟩ rfl rfl (Nat.zero_le _) (Nat.zero_le _) (Nat.le_of_ble_eq_true rfl) rfl ?_
      refine x_iaddN d_X8_panelOf_124 ?_
      refine x_istore d_X8_panelOf_125 (Nat.le_of_ble_eq_true rfl) ?_
      refine x_iincN (m := 1) d_X8_panelOf_127 rfl (by decide) (Nat.le_of_ble_eq_true rfl) ?_
      refine x_goto (tgt := 50) d_X8_panelOf_130 (by decide) ?_
      refine nG.eq (ls2 := [some (.ref (b)), some (.int (nI (p))), some (.int (c)), some (.int (nI (tot (P p) (R p) 5 r + cov (R p r) 5 j + 1))), some (.int (nI ((tot (P p) (R p) 6 r + cov (R p r) 6 j) + 0))), some (.int (nI ((tot (P p) (R p) 7 r + cov (R p r) 7 j) + (M 13 (24 * (20 * p + r) + j))))), some (.int (nI ((tot (P p) (R p) 8 r + cov (R p r) 8 j) + (pcn (M 14 (24 * (20 * p + r) + j)))))), some (.int (nI (r))), some (.int (nI (j + 1))), some (.int (nI (24 * (20 * p + r) + j)))]) rfl rfl rfl rfl rfl ?_
      have q := ih (j + 1) (by omega)
      rw [cov_s, cov_s, cov_s, cov_s, shr_5, shr_6, shr_7, shr_8, k5, k6, k7, c_9, ← Nat.add_assoc, ← Nat.add_assoc, ← Nat.add_assoc, ← Nat.add_assoc] at q
      exact nG.sub (by exact (And.intro rfl (And.intro rfl (And.intro rfl (And.intro rfl (And.intro rfl (And.intro rfl (And.intro rfl (And.intro rfl (And.intro rfl True.intro)))))))))) q
    · refine x_iconst (v := nI 1) (by decide) d_X8_panelOf_92 ?_
      refine x_goto (tgt := 97) d_X8_panelOf_93 (by decide) ?_
      refine x_iaddN d_X8_panelOf_97 ?_
      refine x_istore d_X8_panelOf_98 (Nat.le_of_ble_eq_true rfl) ?_
      refine x_iload rfl d_X8_panelOf_100 ?_
      refine x_aload_n rfl d_X8_panelOf_102 ?_
      refine x_getf co_all (v := .ref (b + 12)) d_X8_panelOf_103 fk_8_48 (o8_o H) rfl ?_
      refine x_iload rfl d_X8_panelOf_106 ?_
      refine x_iaload d_X8_panelOf_108 (o8_13 H) (nIx_nI (j := 24 * (20 * p + r) + j) (by omega) (by decide)) ?_
      refine x_iaddN d_X8_panelOf_109 ?_
      refine x_istore d_X8_panelOf_110 (Nat.le_of_ble_eq_true rfl) ?_
      refine x_iload rfl d_X8_panelOf_112 ?_
      refine x_aload_n rfl d_X8_panelOf_114 ?_
      refine x_getf co_all (v := .ref (b + 13)) d_X8_panelOf_115 fk_8_51 (o8_o H) rfl ?_
      refine x_iload rfl d_X8_panelOf_118 ?_
      refine x_iaload d_X8_panelOf_120 (o8_14 H) (nIx_nI (j := 24 * (20 * p + r) + j) (by omega) (by decide)) ?_
      refine x_rdS d_X8_panelOf_121 lk_8_142 mo_X8_bits sc_X8_bits (sp_mbits (g := M 14 (24 * (20 * p + r) + j)) (by rw [← k7]; have := ks.2.2.2.2.2; have := Nat.pow_le_pow_right (n := 2) (by decide) ks.2.2.2.2.1; omega)) rfl ⟨Nat.le_of_ble_eq_true rfl, Nat.le_of_ble_eq_true rfl⟩ rfl rfl (Nat.zero_le _) (Nat.zero_le _) (Nat.le_of_ble_eq_true rfl) rfl ?_
      refine x_iaddN d_X8_panelOf_124 ?_
      refine x_istore d_X8_panelOf_125 (Nat.le_of_ble_eq_true rfl) ?_
      refine x_iincN (m := 1) d_X8_panelOf_127 rfl (by decide) (Nat.le_of_ble_eq_true rfl) ?_
      refine x_goto (tgt := 50) d_X8_panelOf_130 (by decide) ?_
      refine nG.eq (ls2 := [some (.ref (b)), some (.int (nI (p))), some (.int (c)), some (.int (nI (tot (P p) (R p) 5 r + cov (R p r) 5 j + 1))), some (.int (nI ((tot (P p) (R p) 6 r + cov (R p r) 6 j) + 1))), some (.int (nI ((tot (P p) (R p) 7 r + cov (R p r) 7 j) + (M 13 (24 * (20 * p + r) + j))))), some (.int (nI ((tot (P p) (R p) 8 r + cov (R p r) 8 j) + (pcn (M 14 (24 * (20 * p + r) + j)))))), some (.int (nI (r))), some (.int (nI (j + 1))), some (.int (nI (24 * (20 * p + r) + j)))]) rfl rfl rfl rfl rfl ?_
      have q := ih (j + 1) (by omega)
      rw [cov_s, cov_s, cov_s, cov_s, shr_5, shr_6, shr_7, shr_8, k5, k6, k7, show M 15 (24 * (20 * p + r) + j) = 1 by omega, ← Nat.add_assoc, ← Nat.add_assoc, ← Nat.add_assoc, ← Nat.add_assoc] at q
      exact nG.sub (by exact (And.intro rfl (And.intro rfl (And.intro rfl (And.intro rfl (And.intro rfl (And.intro rfl (And.intro rfl (And.intro rfl (And.intro rfl True.intro)))))))))) q
theorem lp_mpo {h : nPH} {b : Nat} {M V : Nat → Nat → Nat} {P : Nat → Nat → Nat → Nat} {R : Nat → Nat → Nat → Nat → Nat} {E Y T S : Nat → Nat → Nat} (H : o8 h b M) (W : rW M V P R E Y T S) (O : kO V P R) {D0 : va_G} {B0 : Nat} {Post : Option Value → nPH → Prop} {c : Int32} {p : Nat} (hp : p < V 1 0) (kk : nG YX8_panelOf (nKy YX8_panelOf D0 B0 Post) 0 0 139 [some (.ref (b)), some (.int (nI (p))), some (.int (c)), some (.int (nI (tot (P p) (R p) 5 (P p 5 0)))), some (.int (nI (tot (P p) (R p) 6 (P p 5 0)))), some (.int (nI (tot (P p) (R p) 7 (P p 5 0)))), some (.int (nI (tot (P p) (R p) 8 (P p 5 0)))), some (.int (nI (P p 5 0))), none, none] [] h) : ∀ n r : Nat, r + n = P p 5 0 → nG YX8_panelOf (nKy YX8_panelOf D0 B0 Post) 0 0 36 [some (.ref (b)), some (.int (nI (p))), some (.int (c)), some (.int (nI (tot (P p) (R p) 5 r))), some (.int (nI (tot (P p) (R p) 6 r))), some (.int (nI (tot (P p) (R p) 7 r))), some (.int (nI (tot (P p) (R p) 8 r))), some (.int (nI (r))), none, none] [] h := by
  intro n
  obtain ⟨p1, p2, p3, p4, p5, p6, p7, p8⟩ := rW_p W O hp
  induction n with
  | zero =>
    intro r hr
    refine x_iload rfl d_X8_panelOf_36 ?_
    refine x_aload_n rfl d_X8_panelOf_38 ?_
    refine x_getf co_all (v := .ref (b + 1)) d_X8_panelOf_39 fk_8_13 (o8_o H) rfl ?_
    refine x_iload_n rfl d_X8_panelOf_42 ?_
    refine x_iaload d_X8_panelOf_43 (o8_2 H) (nIx_nI (j := p) (by omega) (by decide)) ?_
    refine x_icmp_geN (tgt := 139) d_X8_panelOf_44 (by decide) (by omega) (by omega) (fun c_1 => ?_) (fun c_1 => by exfalso; omega)
    have e : r = P p 5 0 := by omega
    subst e
    exact kk
  | succ n ih =>
    intro r hr
    refine x_iload rfl d_X8_panelOf_36 ?_
    refine x_aload_n rfl d_X8_panelOf_38 ?_
    refine x_getf co_all (v := .ref (b + 1)) d_X8_panelOf_39 fk_8_13 (o8_o H) rfl ?_
    refine x_iload_n rfl d_X8_panelOf_42 ?_
    refine x_iaload d_X8_panelOf_43 (o8_2 H) (nIx_nI (j := p) (by omega) (by decide)) ?_
    refine x_icmp_geN (tgt := 139) d_X8_panelOf_44 (by decide) (by omega) (by omega) (fun c_1 => by exfalso; omega) (fun c_1 => ?_)
    refine x_iconst (v := nI 0) (by decide) d_X8_panelOf_47 ?_
    refine x_istore d_X8_panelOf_48 (Nat.le_of_ble_eq_true rfl) ?_
    refine lp_mpi H W O hp (r := r) (by omega) ?_ (R p r 0 0) 0 (by omega)
    refine x_iincN (m := 1) d_X8_panelOf_133 rfl (by decide) (Nat.le_of_ble_eq_true rfl) ?_
    refine x_goto (tgt := 36) d_X8_panelOf_136 (by decide) ?_
    exact ih (r + 1) (by omega)
theorem md_pOf_0 {h : nPH} {b : Nat} {M V : Nat → Nat → Nat} {P : Nat → Nat → Nat → Nat} {R : Nat → Nat → Nat → Nat → Nat} {E Y T S : Nat → Nat → Nat} (H : o8 h b M) (W : rW M V P R E Y T S) (O : kO V P R) {p : Nat} (hp : p < V 1 0)  : nRd YX8_panelOf [.ref (b), .int (nI (p)), .int (nI (0))] h (.int (nI (P p 5 0))) := by
  obtain ⟨p1, p2, p3, p4, p5, p6, p7, p8⟩ := rW_p W O hp
  obtain ⟨b2, b3, b4, b5, b6, -⟩ := (W.2.1 p hp).1
  refine nSp_of (by decide +kernel) rfl (Nat.le_of_ble_eq_true rfl) (ls := [some (.ref (b)), some (.int (nI (p))), some (.int (nI (0))), none, none, none, none, none, none, none]) (by exact (And.intro rfl (And.intro rfl (And.intro rfl True.intro)))) ?_
  refine x_aload_n rfl d_X8_panelOf_0 ?_
  refine x_iload_n rfl d_X8_panelOf_1 ?_
  refine x_rdV d_X8_panelOf_2 lk_8_91 mo_X8_isPanel vi_X8_isPanel (sp_isPanel H p2 p1) (o8_o H) ⟨_, rfl, rfl⟩ rfl ⟨Nat.le_of_ble_eq_true rfl, Nat.le_of_ble_eq_true rfl⟩ rfl rfl (Nat.zero_le _) (Nat.zero_le _) (Nat.le_of_ble_eq_true rfl) rfl ?_
  refine x_if_neN (tgt := 10) d_X8_panelOf_5 (by decide) (by omega) (fun c_1 => ?_) (fun c_1 => by exfalso; omega)
  refine x_iload_n rfl d_X8_panelOf_10 ?_
  refine x_if_ltN (tgt := 20) d_X8_panelOf_11 (by decide) (by omega) (fun c_2 => by exfalso; omega) (fun c_2 => ?_)
  refine x_iload_n rfl d_X8_panelOf_14 ?_
  refine x_bipush (v := nI 8) (by decide) d_X8_panelOf_15 ?_
  refine x_icmp_leN (tgt := 22) d_X8_panelOf_17 (by decide) (by omega) (by omega) (fun c_3 => ?_) (fun c_3 => by exfalso; omega)
  refine x_iconst (v := nI 0) (by decide) d_X8_panelOf_22 ?_
  refine x_istore_n d_X8_panelOf_23 (Nat.le_of_ble_eq_true rfl) ?_
  refine x_iconst (v := nI 0) (by decide) d_X8_panelOf_24 ?_
  refine x_istore d_X8_panelOf_25 (Nat.le_of_ble_eq_true rfl) ?_
  refine x_iconst (v := nI 0) (by decide) d_X8_panelOf_27 ?_
  refine x_istore d_X8_panelOf_28 (Nat.le_of_ble_eq_true rfl) ?_
  refine x_iconst (v := nI 0) (by decide) d_X8_panelOf_30 ?_
  refine x_istore d_X8_panelOf_31 (Nat.le_of_ble_eq_true rfl) ?_
  refine x_iconst (v := nI 0) (by decide) d_X8_panelOf_33 ?_
  refine x_istore d_X8_panelOf_34 (Nat.le_of_ble_eq_true rfl) ?_
  refine lp_mpo H W O hp ?_ (P p 5 0) 0 (by omega)
  refine x_iload_n rfl d_X8_panelOf_139 ?_
  refine x_tableIn (off := 48) (tgt := 188) d_X8_panelOf_140 (by decide) (by decide) (by decide) (by decide) ?_
  refine x_aload_n rfl d_X8_panelOf_188 ?_
  refine x_getf co_all (v := .ref (b + 1)) d_X8_panelOf_189 fk_8_13 (o8_o H) rfl ?_
  refine x_iload_n rfl d_X8_panelOf_192 ?_
  refine x_iaload d_X8_panelOf_193 (o8_2 H) (nIx_nI (j := p) (by omega) (by decide)) ?_
  exact x_ireturn d_X8_panelOf_194 rfl rfl rfl rfl (Nat.zero_le _) (Nat.zero_le _) (⟨by rw [b2], rfl⟩)
theorem md_pOf_1 {h : nPH} {b : Nat} {M V : Nat → Nat → Nat} {P : Nat → Nat → Nat → Nat} {R : Nat → Nat → Nat → Nat → Nat} {E Y T S : Nat → Nat → Nat} (H : o8 h b M) (W : rW M V P R E Y T S) (O : kO V P R) {p : Nat} (hp : p < V 1 0)  : nRd YX8_panelOf [.ref (b), .int (nI (p)), .int (nI (1))] h (.int (nI (P p 0 0))) := by
  obtain ⟨p1, p2, p3, p4, p5, p6, p7, p8⟩ := rW_p W O hp
  obtain ⟨b2, b3, b4, b5, b6, -⟩ := (W.2.1 p hp).1
  refine nSp_of (by decide +kernel) rfl (Nat.le_of_ble_eq_true rfl) (ls := [some (.ref (b)), some (.int (nI (p))), some (.int (nI (1))), none, none, none, none, none, none, none]) (by exact (And.intro rfl (And.intro rfl (And.intro rfl True.intro)))) ?_
  refine x_aload_n rfl d_X8_panelOf_0 ?_
  refine x_iload_n rfl d_X8_panelOf_1 ?_
  refine x_rdV d_X8_panelOf_2 lk_8_91 mo_X8_isPanel vi_X8_isPanel (sp_isPanel H p2 p1) (o8_o H) ⟨_, rfl, rfl⟩ rfl ⟨Nat.le_of_ble_eq_true rfl, Nat.le_of_ble_eq_true rfl⟩ rfl rfl (Nat.zero_le _) (Nat.zero_le _) (Nat.le_of_ble_eq_true rfl) rfl ?_
  refine x_if_neN (tgt := 10) d_X8_panelOf_5 (by decide) (by omega) (fun c_1 => ?_) (fun c_1 => by exfalso; omega)
  refine x_iload_n rfl d_X8_panelOf_10 ?_
  refine x_if_ltN (tgt := 20) d_X8_panelOf_11 (by decide) (by omega) (fun c_2 => by exfalso; omega) (fun c_2 => ?_)
  refine x_iload_n rfl d_X8_panelOf_14 ?_
  refine x_bipush (v := nI 8) (by decide) d_X8_panelOf_15 ?_
  refine x_icmp_leN (tgt := 22) d_X8_panelOf_17 (by decide) (by omega) (by omega) (fun c_3 => ?_) (fun c_3 => by exfalso; omega)
  refine x_iconst (v := nI 0) (by decide) d_X8_panelOf_22 ?_
  refine x_istore_n d_X8_panelOf_23 (Nat.le_of_ble_eq_true rfl) ?_
  refine x_iconst (v := nI 0) (by decide) d_X8_panelOf_24 ?_
  refine x_istore d_X8_panelOf_25 (Nat.le_of_ble_eq_true rfl) ?_
  refine x_iconst (v := nI 0) (by decide) d_X8_panelOf_27 ?_
  refine x_istore d_X8_panelOf_28 (Nat.le_of_ble_eq_true rfl) ?_
  refine x_iconst (v := nI 0) (by decide) d_X8_panelOf_30 ?_
  refine x_istore d_X8_panelOf_31 (Nat.le_of_ble_eq_true rfl) ?_
  refine x_iconst (v := nI 0) (by decide) d_X8_panelOf_33 ?_
  refine x_istore d_X8_panelOf_34 (Nat.le_of_ble_eq_true rfl) ?_
  refine lp_mpo H W O hp ?_ (P p 5 0) 0 (by omega)
  refine x_iload_n rfl d_X8_panelOf_139 ?_
  refine x_tableIn (off := 55) (tgt := 195) d_X8_panelOf_140 (by decide) (by decide) (by decide) (by decide) ?_
  refine x_aload_n rfl d_X8_panelOf_195 ?_
  refine x_getf co_all (v := .ref (b + 2)) d_X8_panelOf_196 fk_8_17 (o8_o H) rfl ?_
  refine x_iload_n rfl d_X8_panelOf_199 ?_
  refine x_iaload d_X8_panelOf_200 (o8_3 H) (nIx_nI (j := p) (by omega) (by decide)) ?_
  exact x_ireturn d_X8_panelOf_201 rfl rfl rfl rfl (Nat.zero_le _) (Nat.zero_le _) (⟨by rw [b3], rfl⟩)
theorem md_pOf_2 {h : nPH} {b : Nat} {M V : Nat → Nat → Nat} {P : Nat → Nat → Nat → Nat} {R : Nat → Nat → Nat → Nat → Nat} {E Y T S : Nat → Nat → Nat} (H : o8 h b M) (W : rW M V P R E Y T S) (O : kO V P R) {p : Nat} (hp : p < V 1 0)  : nRd YX8_panelOf [.ref (b), .int (nI (p)), .int (nI (2))] h (.int (nI (P p 1 0))) := by
  obtain ⟨p1, p2, p3, p4, p5, p6, p7, p8⟩ := rW_p W O hp
  obtain ⟨b2, b3, b4, b5, b6, -⟩ := (W.2.1 p hp).1
  refine nSp_of (by decide +kernel) rfl (Nat.le_of_ble_eq_true rfl) (ls := [some (.ref (b)), some (.int (nI (p))), some (.int (nI (2))), none, none, none, none, none, none, none]) (by exact (And.intro rfl (And.intro rfl (And.intro rfl True.intro)))) ?_
  refine x_aload_n rfl d_X8_panelOf_0 ?_
  refine x_iload_n rfl d_X8_panelOf_1 ?_
  refine x_rdV d_X8_panelOf_2 lk_8_91 mo_X8_isPanel vi_X8_isPanel (sp_isPanel H p2 p1) (o8_o H) ⟨_, rfl, rfl⟩ rfl ⟨Nat.le_of_ble_eq_true rfl, Nat.le_of_ble_eq_true rfl⟩ rfl rfl (Nat.zero_le _) (Nat.zero_le _) (Nat.le_of_ble_eq_true rfl) rfl ?_
  refine x_if_neN (tgt := 10) d_X8_panelOf_5 (by decide) (by omega) (fun c_1 => ?_) (fun c_1 => by exfalso; omega)
  refine x_iload_n rfl d_X8_panelOf_10 ?_
  refine x_if_ltN (tgt := 20) d_X8_panelOf_11 (by decide) (by omega) (fun c_2 => by exfalso; omega) (fun c_2 => ?_)
  refine x_iload_n rfl d_X8_panelOf_14 ?_
  refine x_bipush (v := nI 8) (by decide) d_X8_panelOf_15 ?_
  refine x_icmp_leN (tgt := 22) d_X8_panelOf_17 (by decide) (by omega) (by omega) (fun c_3 => ?_) (fun c_3 => by exfalso; omega)
  refine x_iconst (v := nI 0) (by decide) d_X8_panelOf_22 ?_
  refine x_istore_n d_X8_panelOf_23 (Nat.le_of_ble_eq_true rfl) ?_
  refine x_iconst (v := nI 0) (by decide) d_X8_panelOf_24 ?_
  refine x_istore d_X8_panelOf_25 (Nat.le_of_ble_eq_true rfl) ?_
  refine x_iconst (v := nI 0) (by decide) d_X8_panelOf_27 ?_
  refine x_istore d_X8_panelOf_28 (Nat.le_of_ble_eq_true rfl) ?_
  refine x_iconst (v := nI 0) (by decide) d_X8_panelOf_30 ?_
  refine x_istore d_X8_panelOf_31 (Nat.le_of_ble_eq_true rfl) ?_
  refine x_iconst (v := nI 0) (by decide) d_X8_panelOf_33 ?_
  refine x_istore d_X8_panelOf_34 (Nat.le_of_ble_eq_true rfl) ?_
  refine lp_mpo H W O hp ?_ (P p 5 0) 0 (by omega)
  refine x_iload_n rfl d_X8_panelOf_139 ?_
  refine x_tableIn (off := 62) (tgt := 202) d_X8_panelOf_140 (by decide) (by decide) (by decide) (by decide) ?_
  refine x_aload_n rfl d_X8_panelOf_202 ?_
  refine x_getf co_all (v := .ref (b + 3)) d_X8_panelOf_203 fk_8_20 (o8_o H) rfl ?_
  refine x_iload_n rfl d_X8_panelOf_206 ?_
  refine x_iaload d_X8_panelOf_207 (o8_4 H) (nIx_nI (j := p) (by omega) (by decide)) ?_
  exact x_ireturn d_X8_panelOf_208 rfl rfl rfl rfl (Nat.zero_le _) (Nat.zero_le _) (⟨by rw [b4], rfl⟩)
theorem md_pOf_3 {h : nPH} {b : Nat} {M V : Nat → Nat → Nat} {P : Nat → Nat → Nat → Nat} {R : Nat → Nat → Nat → Nat → Nat} {E Y T S : Nat → Nat → Nat} (H : o8 h b M) (W : rW M V P R E Y T S) (O : kO V P R) {p : Nat} (hp : p < V 1 0)  : nRd YX8_panelOf [.ref (b), .int (nI (p)), .int (nI (3))] h (.int (nI (P p 2 0))) := by
  obtain ⟨p1, p2, p3, p4, p5, p6, p7, p8⟩ := rW_p W O hp
  obtain ⟨b2, b3, b4, b5, b6, -⟩ := (W.2.1 p hp).1
  refine nSp_of (by decide +kernel) rfl (Nat.le_of_ble_eq_true rfl) (ls := [some (.ref (b)), some (.int (nI (p))), some (.int (nI (3))), none, none, none, none, none, none, none]) (by exact (And.intro rfl (And.intro rfl (And.intro rfl True.intro)))) ?_
  refine x_aload_n rfl d_X8_panelOf_0 ?_
  refine x_iload_n rfl d_X8_panelOf_1 ?_
  refine x_rdV d_X8_panelOf_2 lk_8_91 mo_X8_isPanel vi_X8_isPanel (sp_isPanel H p2 p1) (o8_o H) ⟨_, rfl, rfl⟩ rfl ⟨Nat.le_of_ble_eq_true rfl, Nat.le_of_ble_eq_true rfl⟩ rfl rfl (Nat.zero_le _) (Nat.zero_le _) (Nat.le_of_ble_eq_true rfl) rfl ?_
  refine x_if_neN (tgt := 10) d_X8_panelOf_5 (by decide) (by omega) (fun c_1 => ?_) (fun c_1 => by exfalso; omega)
  refine x_iload_n rfl d_X8_panelOf_10 ?_
  refine x_if_ltN (tgt := 20) d_X8_panelOf_11 (by decide) (by omega) (fun c_2 => by exfalso; omega) (fun c_2 => ?_)
  refine x_iload_n rfl d_X8_panelOf_14 ?_
  refine x_bipush (v := nI 8) (by decide) d_X8_panelOf_15 ?_
  refine x_icmp_leN (tgt := 22) d_X8_panelOf_17 (by decide) (by omega) (by omega) (fun c_3 => ?_) (fun c_3 => by exfalso; omega)
  refine x_iconst (v := nI 0) (by decide) d_X8_panelOf_22 ?_
  refine x_istore_n d_X8_panelOf_23 (Nat.le_of_ble_eq_true rfl) ?_
  refine x_iconst (v := nI 0) (by decide) d_X8_panelOf_24 ?_
  refine x_istore d_X8_panelOf_25 (Nat.le_of_ble_eq_true rfl) ?_
  refine x_iconst (v := nI 0) (by decide) d_X8_panelOf_27 ?_
  refine x_istore d_X8_panelOf_28 (Nat.le_of_ble_eq_true rfl) ?_
  refine x_iconst (v := nI 0) (by decide) d_X8_panelOf_30 ?_
  refine x_istore d_X8_panelOf_31 (Nat.le_of_ble_eq_true rfl) ?_
  refine x_iconst (v := nI 0) (by decide) d_X8_panelOf_33 ?_
  refine x_istore d_X8_panelOf_34 (Nat.le_of_ble_eq_true rfl) ?_
  refine lp_mpo H W O hp ?_ (P p 5 0) 0 (by omega)
  refine x_iload_n rfl d_X8_panelOf_139 ?_
  refine x_tableIn (off := 69) (tgt := 209) d_X8_panelOf_140 (by decide) (by decide) (by decide) (by decide) ?_
  refine x_aload_n rfl d_X8_panelOf_209 ?_
  refine x_getf co_all (v := .ref (b + 4)) d_X8_panelOf_210 fk_8_23 (o8_o H) rfl ?_
  refine x_iload_n rfl d_X8_panelOf_213 ?_
  refine x_iaload d_X8_panelOf_214 (o8_5 H) (nIx_nI (j := p) (by omega) (by decide)) ?_
  exact x_ireturn d_X8_panelOf_215 rfl rfl rfl rfl (Nat.zero_le _) (Nat.zero_le _) (⟨by rw [b5], rfl⟩)
theorem md_pOf_4 {h : nPH} {b : Nat} {M V : Nat → Nat → Nat} {P : Nat → Nat → Nat → Nat} {R : Nat → Nat → Nat → Nat → Nat} {E Y T S : Nat → Nat → Nat} (H : o8 h b M) (W : rW M V P R E Y T S) (O : kO V P R) {p : Nat} (hp : p < V 1 0)  : nRd YX8_panelOf [.ref (b), .int (nI (p)), .int (nI (4))] h (.int (nI (P p 3 0))) := by
  obtain ⟨p1, p2, p3, p4, p5, p6, p7, p8⟩ := rW_p W O hp
  obtain ⟨b2, b3, b4, b5, b6, -⟩ := (W.2.1 p hp).1
  refine nSp_of (by decide +kernel) rfl (Nat.le_of_ble_eq_true rfl) (ls := [some (.ref (b)), some (.int (nI (p))), some (.int (nI (4))), none, none, none, none, none, none, none]) (by exact (And.intro rfl (And.intro rfl (And.intro rfl True.intro)))) ?_
  refine x_aload_n rfl d_X8_panelOf_0 ?_
  refine x_iload_n rfl d_X8_panelOf_1 ?_
  refine x_rdV d_X8_panelOf_2 lk_8_91 mo_X8_isPanel vi_X8_isPanel (sp_isPanel H p2 p1) (o8_o H) ⟨_, rfl, rfl⟩ rfl ⟨Nat.le_of_ble_eq_true rfl, Nat.le_of_ble_eq_true rfl⟩ rfl rfl (Nat.zero_le _) (Nat.zero_le _) (Nat.le_of_ble_eq_true rfl) rfl ?_
  refine x_if_neN (tgt := 10) d_X8_panelOf_5 (by decide) (by omega) (fun c_1 => ?_) (fun c_1 => by exfalso; omega)
  refine x_iload_n rfl d_X8_panelOf_10 ?_
  refine x_if_ltN (tgt := 20) d_X8_panelOf_11 (by decide) (by omega) (fun c_2 => by exfalso; omega) (fun c_2 => ?_)
  refine x_iload_n rfl d_X8_panelOf_14 ?_
  refine x_bipush (v := nI 8) (by decide) d_X8_panelOf_15 ?_
  refine x_icmp_leN (tgt := 22) d_X8_panelOf_17 (by decide) (by omega) (by omega) (fun c_3 => ?_) (fun c_3 => by exfalso; omega)
  refine x_iconst (v := nI 0) (by decide) d_X8_panelOf_22 ?_
  refine x_istore_n d_X8_panelOf_23 (Nat.le_of_ble_eq_true rfl) ?_
  refine x_iconst (v := nI 0) (by decide) d_X8_panelOf_24 ?_
  refine x_istore d_X8_panelOf_25 (Nat.le_of_ble_eq_true rfl) ?_
  refine x_iconst (v := nI 0) (by decide) d_X8_panelOf_27 ?_
  refine x_istore d_X8_panelOf_28 (Nat.le_of_ble_eq_true rfl) ?_
  refine x_iconst (v := nI 0) (by decide) d_X8_panelOf_30 ?_
  refine x_istore d_X8_panelOf_31 (Nat.le_of_ble_eq_true rfl) ?_
  refine x_iconst (v := nI 0) (by decide) d_X8_panelOf_33 ?_
  refine x_istore d_X8_panelOf_34 (Nat.le_of_ble_eq_true rfl) ?_
  refine lp_mpo H W O hp ?_ (P p 5 0) 0 (by omega)
  refine x_iload_n rfl d_X8_panelOf_139 ?_
  refine x_tableIn (off := 76) (tgt := 216) d_X8_panelOf_140 (by decide) (by decide) (by decide) (by decide) ?_
  refine x_aload_n rfl d_X8_panelOf_216 ?_
  refine x_getf co_all (v := .ref (b + 5)) d_X8_panelOf_217 fk_8_26 (o8_o H) rfl ?_
  refine x_iload_n rfl d_X8_panelOf_220 ?_
  refine x_iaload d_X8_panelOf_221 (o8_6 H) (nIx_nI (j := p) (by omega) (by decide)) ?_
  exact x_ireturn d_X8_panelOf_222 rfl rfl rfl rfl (Nat.zero_le _) (Nat.zero_le _) (⟨by rw [b6], rfl⟩)
theorem md_pOf_5 {h : nPH} {b : Nat} {M V : Nat → Nat → Nat} {P : Nat → Nat → Nat → Nat} {R : Nat → Nat → Nat → Nat → Nat} {E Y T S : Nat → Nat → Nat} (H : o8 h b M) (W : rW M V P R E Y T S) (O : kO V P R) {p : Nat} (hp : p < V 1 0)  : nRd YX8_panelOf [.ref (b), .int (nI (p)), .int (nI (5))] h (.int (nI (tot (P p) (R p) 5 (P p 5 0)))) := by
  obtain ⟨p1, p2, p3, p4, p5, p6, p7, p8⟩ := rW_p W O hp
  obtain ⟨b2, b3, b4, b5, b6, -⟩ := (W.2.1 p hp).1
  refine nSp_of (by decide +kernel) rfl (Nat.le_of_ble_eq_true rfl) (ls := [some (.ref (b)), some (.int (nI (p))), some (.int (nI (5))), none, none, none, none, none, none, none]) (by exact (And.intro rfl (And.intro rfl (And.intro rfl True.intro)))) ?_
  refine x_aload_n rfl d_X8_panelOf_0 ?_
  refine x_iload_n rfl d_X8_panelOf_1 ?_
  refine x_rdV d_X8_panelOf_2 lk_8_91 mo_X8_isPanel vi_X8_isPanel (sp_isPanel H p2 p1) (o8_o H) ⟨_, rfl, rfl⟩ rfl ⟨Nat.le_of_ble_eq_true rfl, Nat.le_of_ble_eq_true rfl⟩ rfl rfl (Nat.zero_le _) (Nat.zero_le _) (Nat.le_of_ble_eq_true rfl) rfl ?_
  refine x_if_neN (tgt := 10) d_X8_panelOf_5 (by decide) (by omega) (fun c_1 => ?_) (fun c_1 => by exfalso; omega)
  refine x_iload_n rfl d_X8_panelOf_10 ?_
  refine x_if_ltN (tgt := 20) d_X8_panelOf_11 (by decide) (by omega) (fun c_2 => by exfalso; omega) (fun c_2 => ?_)
  refine x_iload_n rfl d_X8_panelOf_14 ?_
  refine x_bipush (v := nI 8) (by decide) d_X8_panelOf_15 ?_
  refine x_icmp_leN (tgt := 22) d_X8_panelOf_17 (by decide) (by omega) (by omega) (fun c_3 => ?_) (fun c_3 => by exfalso; omega)
  refine x_iconst (v := nI 0) (by decide) d_X8_panelOf_22 ?_
  refine x_istore_n d_X8_panelOf_23 (Nat.le_of_ble_eq_true rfl) ?_
  refine x_iconst (v := nI 0) (by decide) d_X8_panelOf_24 ?_
  refine x_istore d_X8_panelOf_25 (Nat.le_of_ble_eq_true rfl) ?_
  refine x_iconst (v := nI 0) (by decide) d_X8_panelOf_27 ?_
  refine x_istore d_X8_panelOf_28 (Nat.le_of_ble_eq_true rfl) ?_
  refine x_iconst (v := nI 0) (by decide) d_X8_panelOf_30 ?_
  refine x_istore d_X8_panelOf_31 (Nat.le_of_ble_eq_true rfl) ?_
  refine x_iconst (v := nI 0) (by decide) d_X8_panelOf_33 ?_
  refine x_istore d_X8_panelOf_34 (Nat.le_of_ble_eq_true rfl) ?_
  refine lp_mpo H W O hp ?_ (P p 5 0) 0 (by omega)
  refine x_iload_n rfl d_X8_panelOf_139 ?_
  refine x_tableIn (off := 83) (tgt := 223) d_X8_panelOf_140 (by decide) (by decide) (by decide) (by decide) ?_
  refine x_iload_n rfl d_X8_panelOf_223 ?_
  exact x_ireturn d_X8_panelOf_224 rfl rfl rfl rfl (Nat.zero_le _) (Nat.zero_le _) (⟨rfl, rfl⟩)
theorem md_pOf_6 {h : nPH} {b : Nat} {M V : Nat → Nat → Nat} {P : Nat → Nat → Nat → Nat} {R : Nat → Nat → Nat → Nat → Nat} {E Y T S : Nat → Nat → Nat} (H : o8 h b M) (W : rW M V P R E Y T S) (O : kO V P R) {p : Nat} (hp : p < V 1 0)  : nRd YX8_panelOf [.ref (b), .int (nI (p)), .int (nI (6))] h (.int (nI (tot (P p) (R p) 6 (P p 5 0)))) := by
  obtain ⟨p1, p2, p3, p4, p5, p6, p7, p8⟩ := rW_p W O hp
  obtain ⟨b2, b3, b4, b5, b6, -⟩ := (W.2.1 p hp).1
  refine nSp_of (by decide +kernel) rfl (Nat.le_of_ble_eq_true rfl) (ls := [some (.ref (b)), some (.int (nI (p))), some (.int (nI (6))), none, none, none, none, none, none, none]) (by exact (And.intro rfl (And.intro rfl (And.intro rfl True.intro)))) ?_
  refine x_aload_n rfl d_X8_panelOf_0 ?_
  refine x_iload_n rfl d_X8_panelOf_1 ?_
  refine x_rdV d_X8_panelOf_2 lk_8_91 mo_X8_isPanel vi_X8_isPanel (sp_isPanel H p2 p1) (o8_o H) ⟨_, rfl, rfl⟩ rfl ⟨Nat.le_of_ble_eq_true rfl, Nat.le_of_ble_eq_true rfl⟩ rfl rfl (Nat.zero_le _) (Nat.zero_le _) (Nat.le_of_ble_eq_true rfl) rfl ?_
  refine x_if_neN (tgt := 10) d_X8_panelOf_5 (by decide) (by omega) (fun c_1 => ?_) (fun c_1 => by exfalso; omega)
  refine x_iload_n rfl d_X8_panelOf_10 ?_
  refine x_if_ltN (tgt := 20) d_X8_panelOf_11 (by decide) (by omega) (fun c_2 => by exfalso; omega) (fun c_2 => ?_)
  refine x_iload_n rfl d_X8_panelOf_14 ?_
  refine x_bipush (v := nI 8) (by decide) d_X8_panelOf_15 ?_
  refine x_icmp_leN (tgt := 22) d_X8_panelOf_17 (by decide) (by omega) (by omega) (fun c_3 => ?_) (fun c_3 => by exfalso; omega)
  refine x_iconst (v := nI 0) (by decide) d_X8_panelOf_22 ?_
  refine x_istore_n d_X8_panelOf_23 (Nat.le_of_ble_eq_true rfl) ?_
  refine x_iconst (v := nI 0) (by decide) d_X8_panelOf_24 ?_
  refine x_istore d_X8_panelOf_25 (Nat.le_of_ble_eq_true rfl) ?_
  refine x_iconst (v := nI 0) (by decide) d_X8_panelOf_27 ?_
  refine x_istore d_X8_panelOf_28 (Nat.le_of_ble_eq_true rfl) ?_
  refine x_iconst (v := nI 0) (by decide) d_X8_panelOf_30 ?_
  refine x_istore d_X8_panelOf_31 (Nat.le_of_ble_eq_true rfl) ?_
  refine x_iconst (v := nI 0) (by decide) d_X8_panelOf_33 ?_
  refine x_istore d_X8_panelOf_34 (Nat.le_of_ble_eq_true rfl) ?_
  refine lp_mpo H W O hp ?_ (P p 5 0) 0 (by omega)
  refine x_iload_n rfl d_X8_panelOf_139 ?_
  refine x_tableIn (off := 85) (tgt := 225) d_X8_panelOf_140 (by decide) (by decide) (by decide) (by decide) ?_
  refine x_iload rfl d_X8_panelOf_225 ?_
  exact x_ireturn d_X8_panelOf_227 rfl rfl rfl rfl (Nat.zero_le _) (Nat.zero_le _) (⟨rfl, rfl⟩)
theorem md_pOf_7 {h : nPH} {b : Nat} {M V : Nat → Nat → Nat} {P : Nat → Nat → Nat → Nat} {R : Nat → Nat → Nat → Nat → Nat} {E Y T S : Nat → Nat → Nat} (H : o8 h b M) (W : rW M V P R E Y T S) (O : kO V P R) {p : Nat} (hp : p < V 1 0)  : nRd YX8_panelOf [.ref (b), .int (nI (p)), .int (nI (7))] h (.int (nI (tot (P p) (R p) 7 (P p 5 0)))) := by
  obtain ⟨p1, p2, p3, p4, p5, p6, p7, p8⟩ := rW_p W O hp
  obtain ⟨b2, b3, b4, b5, b6, -⟩ := (W.2.1 p hp).1
  refine nSp_of (by decide +kernel) rfl (Nat.le_of_ble_eq_true rfl) (ls := [some (.ref (b)), some (.int (nI (p))), some (.int (nI (7))), none, none, none, none, none, none, none]) (by exact (And.intro rfl (And.intro rfl (And.intro rfl True.intro)))) ?_
  refine x_aload_n rfl d_X8_panelOf_0 ?_
  refine x_iload_n rfl d_X8_panelOf_1 ?_
  refine x_rdV d_X8_panelOf_2 lk_8_91 mo_X8_isPanel vi_X8_isPanel (sp_isPanel H p2 p1) (o8_o H) ⟨_, rfl, rfl⟩ rfl ⟨Nat.le_of_ble_eq_true rfl, Nat.le_of_ble_eq_true rfl⟩ rfl rfl (Nat.zero_le _) (Nat.zero_le _) (Nat.le_of_ble_eq_true rfl) rfl ?_
  refine x_if_neN (tgt := 10) d_X8_panelOf_5 (by decide) (by omega) (fun c_1 => ?_) (fun c_1 => by exfalso; omega)
  refine x_iload_n rfl d_X8_panelOf_10 ?_
  refine x_if_ltN (tgt := 20) d_X8_panelOf_11 (by decide) (by omega) (fun c_2 => by exfalso; omega) (fun c_2 => ?_)
  refine x_iload_n rfl d_X8_panelOf_14 ?_
  refine x_bipush (v := nI 8) (by decide) d_X8_panelOf_15 ?_
  refine x_icmp_leN (tgt := 22) d_X8_panelOf_17 (by decide) (by omega) (by omega) (fun c_3 => ?_) (fun c_3 => by exfalso; omega)
  refine x_iconst (v := nI 0) (by decide) d_X8_panelOf_22 ?_
  refine x_istore_n d_X8_panelOf_23 (Nat.le_of_ble_eq_true rfl) ?_
  refine x_iconst (v := nI 0) (by decide) d_X8_panelOf_24 ?_
  refine x_istore d_X8_panelOf_25 (Nat.le_of_ble_eq_true rfl) ?_
  refine x_iconst (v := nI 0) (by decide) d_X8_panelOf_27 ?_
  refine x_istore d_X8_panelOf_28 (Nat.le_of_ble_eq_true rfl) ?_
  refine x_iconst (v := nI 0) (by decide) d_X8_panelOf_30 ?_
  refine x_istore d_X8_panelOf_31 (Nat.le_of_ble_eq_true rfl) ?_
  refine x_iconst (v := nI 0) (by decide) d_X8_panelOf_33 ?_
  refine x_istore d_X8_panelOf_34 (Nat.le_of_ble_eq_true rfl) ?_
  refine lp_mpo H W O hp ?_ (P p 5 0) 0 (by omega)
  refine x_iload_n rfl d_X8_panelOf_139 ?_
  refine x_tableIn (off := 88) (tgt := 228) d_X8_panelOf_140 (by decide) (by decide) (by decide) (by decide) ?_
  refine x_iload rfl d_X8_panelOf_228 ?_
  exact x_ireturn d_X8_panelOf_230 rfl rfl rfl rfl (Nat.zero_le _) (Nat.zero_le _) (⟨rfl, rfl⟩)
theorem md_pOf_8 {h : nPH} {b : Nat} {M V : Nat → Nat → Nat} {P : Nat → Nat → Nat → Nat} {R : Nat → Nat → Nat → Nat → Nat} {E Y T S : Nat → Nat → Nat} (H : o8 h b M) (W : rW M V P R E Y T S) (O : kO V P R) {p : Nat} (hp : p < V 1 0)  : nRd YX8_panelOf [.ref (b), .int (nI (p)), .int (nI (8))] h (.int (nI (tot (P p) (R p) 8 (P p 5 0)))) := by
  obtain ⟨p1, p2, p3, p4, p5, p6, p7, p8⟩ := rW_p W O hp
  obtain ⟨b2, b3, b4, b5, b6, -⟩ := (W.2.1 p hp).1
  refine nSp_of (by decide +kernel) rfl (Nat.le_of_ble_eq_true rfl) (ls := [some (.ref (b)), some (.int (nI (p))), some (.int (nI (8))), none, none, none, none, none, none, none]) (by exact (And.intro rfl (And.intro rfl (And.intro rfl True.intro)))) ?_
  refine x_aload_n rfl d_X8_panelOf_0 ?_
  refine x_iload_n rfl d_X8_panelOf_1 ?_
  refine x_rdV d_X8_panelOf_2 lk_8_91 mo_X8_isPanel vi_X8_isPanel (sp_isPanel H p2 p1) (o8_o H) ⟨_, rfl, rfl⟩ rfl ⟨Nat.le_of_ble_eq_true rfl, Nat.le_of_ble_eq_true rfl⟩ rfl rfl (Nat.zero_le _) (Nat.zero_le _) (Nat.le_of_ble_eq_true rfl) rfl ?_
  refine x_if_neN (tgt := 10) d_X8_panelOf_5 (by decide) (by omega) (fun c_1 => ?_) (fun c_1 => by exfalso; omega)
  refine x_iload_n rfl d_X8_panelOf_10 ?_
  refine x_if_ltN (tgt := 20) d_X8_panelOf_11 (by decide) (by omega) (fun c_2 => by exfalso; omega) (fun c_2 => ?_)
  refine x_iload_n rfl d_X8_panelOf_14 ?_
  refine x_bipush (v := nI 8) (by decide) d_X8_panelOf_15 ?_
  refine x_icmp_leN (tgt := 22) d_X8_panelOf_17 (by decide) (by omega) (by omega) (fun c_3 => ?_) (fun c_3 => by exfalso; omega)
  refine x_iconst (v := nI 0) (by decide) d_X8_panelOf_22 ?_
  refine x_istore_n d_X8_panelOf_23 (Nat.le_of_ble_eq_true rfl) ?_
  refine x_iconst (v := nI 0) (by decide) d_X8_panelOf_24 ?_
  refine x_istore d_X8_panelOf_25 (Nat.le_of_ble_eq_true rfl) ?_
  refine x_iconst (v := nI 0) (by decide) d_X8_panelOf_27 ?_
  refine x_istore d_X8_panelOf_28 (Nat.le_of_ble_eq_true rfl) ?_
  refine x_iconst (v := nI 0) (by decide) d_X8_panelOf_30 ?_
  refine x_istore d_X8_panelOf_31 (Nat.le_of_ble_eq_true rfl) ?_
  refine x_iconst (v := nI 0) (by decide) d_X8_panelOf_33 ?_
  refine x_istore d_X8_panelOf_34 (Nat.le_of_ble_eq_true rfl) ?_
  refine lp_mpo H W O hp ?_ (P p 5 0) 0 (by omega)
  refine x_iload_n rfl d_X8_panelOf_139 ?_
  refine x_tableOut (tgt := 231) d_X8_panelOf_140 (Or.inr (by decide)) (by decide) ?_
  refine x_iload rfl d_X8_panelOf_231 ?_
  exact x_ireturn d_X8_panelOf_233 rfl rfl rfl rfl (Nat.zero_le _) (Nat.zero_le _) (⟨rfl, rfl⟩)
theorem md_pOf_t {h : nPH} {b : Nat} {M V : Nat → Nat → Nat} {P : Nat → Nat → Nat → Nat} {R : Nat → Nat → Nat → Nat → Nat} {E Y T S : Nat → Nat → Nat} (H : o8 h b M) (W : rW M V P R E Y T S) (O : kO V P R) {p : Nat} (hp : p < V 1 0) {c : Nat} (h1 : 5 ≤ c) (h2 : c ≤ 8) : nRd YX8_panelOf [.ref (b), .int (nI (p)), .int (nI (c))] h (.int (nI (tot (P p) (R p) c (P p 5 0)))) := by
  rcases (show c = 5 ∨ c = 6 ∨ c = 7 ∨ c = 8 by omega) with rfl | rfl | rfl | rfl
  · exact md_pOf_5 H W O hp
  · exact md_pOf_6 H W O hp
  · exact md_pOf_7 H W O hp
  · exact md_pOf_8 H W O hp
theorem i_ge {c : Int32} {n : Nat} (h : ¬ c < nI n) (hn : n < 2 ^ 31) : (n : Int) ≤ c.toInt := by
  have := Int32.le_iff_toInt_le.mp (Int32.not_lt.mp h)
  rwa [nI_toInt hn] at this
theorem i_le {c : Int32} {n : Nat} (h : c ≤ nI n) (hn : n < 2 ^ 31) : c.toInt ≤ n := by
  have := Int32.le_iff_toInt_le.mp h
  rwa [nI_toInt hn] at this
theorem md_pOf_nx {c : Int32} (hq : c.toInt < 0 ∨ 4 < c.toInt) (hc : ¬ (nI 5 ≤ c ∧ c ≤ nI 8)) (h1 : ¬ c < nI 0) (h2 : c ≤ nI 8) : False := by
  have := i_ge h1 (by decide)
  refine hc ⟨?_, h2⟩
  rw [Int32.le_iff_toInt_le, nI_toInt (by decide)]
  omega
theorem md_pOf_n {h : nPH} {b : Nat} {M V : Nat → Nat → Nat} {P : Nat → Nat → Nat → Nat} {R : Nat → Nat → Nat → Nat → Nat} {E Y T S : Nat → Nat → Nat} (H : o8 h b M) (W : rW M V P R E Y T S) (O : kO V P R) {p : Nat} (hp : p < V 1 0) {c : Int32} (hq : c.toInt < 0 ∨ 4 < c.toInt) (hc : ¬ (nI 5 ≤ c ∧ c ≤ nI 8)) : nRd YX8_panelOf [.ref (b), .int (nI (p)), .int (c)] h (.int (-1)) := by
  obtain ⟨p1, p2, p3, p4, p5, p6, p7, p8⟩ := rW_p W O hp
  refine nSp_of (by decide +kernel) rfl (Nat.le_of_ble_eq_true rfl) (ls := [some (.ref (b)), some (.int (nI (p))), some (.int (c)), none, none, none, none, none, none, none]) (by exact (And.intro rfl (And.intro rfl (And.intro rfl True.intro)))) ?_
  refine x_aload_n rfl d_X8_panelOf_0 ?_
  refine x_iload_n rfl d_X8_panelOf_1 ?_
  refine x_rdV d_X8_panelOf_2 lk_8_91 mo_X8_isPanel vi_X8_isPanel (sp_isPanel H p2 p1) (o8_o H) ⟨_, rfl, rfl⟩ rfl ⟨Nat.le_of_ble_eq_true rfl, Nat.le_of_ble_eq_true rfl⟩ rfl rfl (Nat.zero_le _) (Nat.zero_le _) (Nat.le_of_ble_eq_true rfl) rfl ?_
  refine x_if_neN (tgt := 10) d_X8_panelOf_5 (by decide) (by omega) (fun c_1 => ?_) (fun c_1 => by exfalso; omega)
  refine x_iload_n rfl d_X8_panelOf_10 ?_
  refine x_if_lt (tgt := 20) d_X8_panelOf_11 (by decide) (fun c_2 => ?_) (fun c_2 => ?_)
  · refine x_iconst (v := -1) (by decide) d_X8_panelOf_20 ?_
    exact x_ireturn d_X8_panelOf_21 rfl rfl rfl rfl (Nat.zero_le _) (Nat.zero_le _) (⟨rfl, rfl⟩)
  · refine x_iload_n rfl d_X8_panelOf_14 ?_
    refine x_bipush (v := nI 8) (by decide) d_X8_panelOf_15 ?_
    refine x_icmp_le (tgt := 22) d_X8_panelOf_17 (by decide) (fun c_3 => by exfalso; exact md_pOf_nx hq hc c_2 c_3) (fun c_3 => ?_)
    refine x_iconst (v := -1) (by decide) d_X8_panelOf_20 ?_
    exact x_ireturn d_X8_panelOf_21 rfl rfl rfl rfl (Nat.zero_le _) (Nat.zero_le _) (⟨rfl, rfl⟩)
theorem md_pOfP {h : nPH} {b : Nat} {M V : Nat → Nat → Nat} {P : Nat → Nat → Nat → Nat} {R : Nat → Nat → Nat → Nat → Nat} {E Y T S : Nat → Nat → Nat} (H : o8 h b M) (W : rW M V P R E Y T S) (O : kO V P R) {p : Int32} (hp : ¬ nIn p (V 1 0)) {c : Int32} : nRd YX8_panelOf [.ref (b), .int (p), .int (c)] h (.int (-1)) := by
  refine nSp_of (by decide +kernel) rfl (Nat.le_of_ble_eq_true rfl) (ls := [some (.ref (b)), some (.int (p)), some (.int (c)), none, none, none, none, none, none, none]) (by exact (And.intro rfl (And.intro rfl (And.intro rfl True.intro)))) ?_
  refine x_aload_n rfl d_X8_panelOf_0 ?_
  refine x_iload_n rfl d_X8_panelOf_1 ?_
  refine x_rdV d_X8_panelOf_2 lk_8_91 mo_X8_isPanel vi_X8_isPanel (sp_isPanelN H (rW_n W O) (rW_x W hp)) (o8_o H) ⟨_, rfl, rfl⟩ rfl ⟨Nat.le_of_ble_eq_true rfl, Nat.le_of_ble_eq_true rfl⟩ rfl rfl (Nat.zero_le _) (Nat.zero_le _) (Nat.le_of_ble_eq_true rfl) rfl ?_
  refine x_if_neN (tgt := 10) d_X8_panelOf_5 (by decide) (by omega) (fun c_1 => by exfalso; omega) (fun c_1 => ?_)
  refine x_iconst (v := -1) (by decide) d_X8_panelOf_8 ?_
  exact x_ireturn d_X8_panelOf_9 rfl rfl rfl rfl (Nat.zero_le _) (Nat.zero_le _) (⟨rfl, rfl⟩)
