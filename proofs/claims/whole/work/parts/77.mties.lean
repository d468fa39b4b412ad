/-! one twine, the model: isGone, ties, reaches -/
theorem gb_v {n : Nat} {R : Nat → Nat → Nat → Nat} {T : Nat → Bool} {j i r k : Nat} (hi : i < 24) (hk : k < 24) (hT : T (24 * j + i) = true) : gb n R T (24 * j + i) (24 * r + k) = true ↔ (j = r + 1 ∧ igo (R j) i k = true) ∨ (r = j + 1 ∧ r < n ∧ k < R r 0 0 ∧ igo (R r) k i = true) := by
  rw [gb_T]
  unfold gE
  rw [show (24 * j + i) / 24 = j by omega, show (24 * j + i) % 24 = i by omega, show (24 * r + k) / 24 = r by omega, show (24 * r + k) % 24 = k by omega]
  exact ⟨fun z => z.2, fun z => ⟨hT, z⟩⟩
theorem nb_iff {b : Bool} {p : Prop} (h : b = true ↔ p) : (p → nb b = 1) ∧ (¬ p → nb b = 0) := ⟨fun z => nb_T (h.mpr z), fun z => nb_F (by
  rcases e : b with _ | _
  · rfl
  · exact absurd (h.mp e) z)⟩
theorem sp_misgA {h : nPH} {b : Nat} {M V : Nat → Nat → Nat} {P : Nat → Nat → Nat → Nat} {R : Nat → Nat → Nat → Nat → Nat} {E Y T S : Nat → Nat → Nat} (H : o8 h b M) (W : rW M V P R E Y T S) (O : kO V P R) {p : Nat} (hp : p < V 1 0) {j i r k : Nat} (hj : j < P p 5 0) (hi : i < R p j 0 0) (hr : r < P p 5 0) (hk : k < R p r 0 0) {T0 : Nat → Bool} (hT : T0 (24 * j + i) = true) (hle : 24 * j + i ≤ 24 * r + k) : nRd YX8_isGone [.ref (b), .int (nI (p)), .int (nI (24 * j + i)), .int (nI (24 * r + k))] h (.int (nI (nb (gb (P p 5 0) (R p) T0 (24 * j + i) (24 * r + k))))) := by
  obtain ⟨p1, p2, p3, p4, p5, p6, p7, p8⟩ := rW_p W O hp
  obtain ⟨j1, j2, j3, j4, j5, j6⟩ := rW_r W O hp hj
  obtain ⟨r1, r2, r3, r4, r5, r6⟩ := rW_r W O hp hr
  have gv := nb_iff (gb_v (n := P p 5 0) (R := R p) (T := T0) (j := j) (i := i) (r := r) (k := k) (by omega) (by omega) hT)
  have hwe : hw (mR M p r) 1 k i = nb (igo (R p r) k i) := by
    rw [← rRw_hw r6 (by omega)]
    rfl
  refine nSp_of (by decide +kernel) rfl (Nat.le_of_ble_eq_true rfl) (ls := [some (.ref (b)), some (.int (nI (p))), some (.int (nI (24 * j + i))), some (.int (nI (24 * r + k))), none, none]) (by exact (And.intro rfl (And.intro rfl (And.intro rfl (And.intro rfl True.intro))))) ?_
  refine x_iload_n rfl d_X8_isGone_0 ?_
  refine x_iload_n rfl d_X8_isGone_1 ?_
  refine x_icmp_leN (tgt := 9) d_X8_isGone_2 (by decide) (by omega) (by omega) (fun c_1 => ?_) (fun c_1 => by exfalso; omega)
  refine x_iload_n rfl d_X8_isGone_9 ?_
  refine x_istore d_X8_isGone_10 (Nat.le_of_ble_eq_true rfl) ?_
  refine x_iload_n rfl d_X8_isGone_12 ?_
  refine x_iload_n rfl d_X8_isGone_13 ?_
  refine x_icmp_leN (tgt := 21) d_X8_isGone_14 (by decide) (by omega) (by omega) (fun c_2 => ?_) (fun c_2 => by exfalso; omega)
  refine x_iload_n rfl d_X8_isGone_21 ?_
  refine x_istore d_X8_isGone_22 (Nat.le_of_ble_eq_true rfl) ?_
  refine x_iload rfl d_X8_isGone_24 ?_
  refine x_bipush (v := nI 24) (by decide) d_X8_isGone_26 ?_
  refine x_idivN d_X8_isGone_28 (by omega) (by omega) (by omega) ?_
  rw [show (24 * r + k) / 24 = r by omega]
  refine x_iload rfl d_X8_isGone_29 ?_
  refine x_bipush (v := nI 24) (by decide) d_X8_isGone_31 ?_
  refine x_idivN d_X8_isGone_33 (by omega) (by omega) (by omega) ?_
  rw [show (24 * j + i) / 24 = j by omega]
  refine x_iconst (v := nI 1) (by decide) d_X8_isGone_34 ?_
  refine x_iaddN d_X8_isGone_35 ?_
  refine x_icmp_neN (tgt := 93) d_X8_isGone_36 (by decide) (by omega) (by omega) (fun c_r => ?_) (fun c_r => ?_)
  · refine x_iconst (v := nI 0) (by decide) d_X8_isGone_93 ?_
    exact x_ireturn d_X8_isGone_94 rfl (by first | rfl | exact nB_nar _ | exact nB_nar1 (by omega)) rfl rfl (Nat.zero_le _) (Nat.zero_le _) (⟨by rw [gv.2 (fun z => by rcases z with z | z; { omega }; { first | (exact c_r z.1) | (have := z.2.2.2; rw [this] at c_h; exact absurd c_h (by decide)) })], rfl⟩)
  · refine x_iload rfl d_X8_isGone_39 ?_
    refine x_bipush (v := nI 24) (by decide) d_X8_isGone_41 ?_
    refine x_iremN d_X8_isGone_43 (by omega) (by omega) (by omega) ?_
    rw [show (24 * r + k) % 24 = k by omega]
    refine x_aload_n rfl d_X8_isGone_44 ?_
    refine x_getf co_all (v := .ref (b + 7)) d_X8_isGone_45 fk_8_32 (o8_o H) rfl ?_
    refine x_bipush (v := nI 20) (by decide) d_X8_isGone_48 ?_
    refine x_iload_n rfl d_X8_isGone_50 ?_
    refine x_imulN d_X8_isGone_51 ?_
    refine x_iload rfl d_X8_isGone_52 ?_
    refine x_bipush (v := nI 24) (by decide) d_X8_isGone_54 ?_
    refine x_idivN d_X8_isGone_56 (by omega) (by omega) (by omega) ?_
    rw [show (24 * r + k) / 24 = r by omega]
    refine x_iaddN d_X8_isGone_57 ?_
    refine x_iaload d_X8_isGone_58 (o8_8 H) (nIx_nI (j := (20 * p) + r) (by omega) (by decide)) ?_
    refine x_icmp_geN (tgt := 93) d_X8_isGone_59 (by decide) (by omega) (by omega) (fun c_4 => by exfalso; omega) (fun c_4 => ?_)
    refine x_aload_n rfl d_X8_isGone_62 ?_
    refine x_iload_n rfl d_X8_isGone_63 ?_
    refine x_iload rfl d_X8_isGone_64 ?_
    refine x_bipush (v := nI 24) (by decide) d_X8_isGone_66 ?_
    refine x_idivN d_X8_isGone_68 (by omega) (by omega) (by omega) ?_
    rw [show (24 * r + k) / 24 = r by omega]
    refine x_iload rfl d_X8_isGone_69 ?_
    refine x_bipush (v := nI 24) (by decide) d_X8_isGone_71 ?_
    refine x_iremN d_X8_isGone_73 (by omega) (by omega) (by omega) ?_
    rw [show (24 * r + k) % 24 = k by omega]
    refine x_rdS d_X8_isGone_74 lk_8_99 mo_X8_at sc_X8_at (sp_at) rfl ⟨Nat.le_of_ble_eq_true rfl, Nat.le_of_ble_eq_true rfl⟩ rfl rfl (Nat.zero_le _) (Nat.zero_le _) (Nat.le_of_ble_eq_true rfl) rfl ?_
    refine x_iload rfl d_X8_isGone_77 ?_
    refine x_bipush (v := nI 24) (by decide) d_X8_isGone_79 ?_
    refine x_iremN d_X8_isGone_81 (by omega) (by omega) (by omega) ?_
    rw [show (24 * j + i) % 24 = i by omega]
    refine x_iconst (v := nI 1) (by decide) d_X8_isGone_82 ?_
    refine x_rdV d_X8_isGone_83 lk_8_139 mo_X8_hangsIn vi_X8_hangsIn (sp_mhg H p3 (r := r) r2 (j := k) (by omega) (k := i) (by omega) ((p8.2 r r1).2 k (by omega)) (c := 1) (by decide)) (o8_o H) ⟨_, rfl, rfl⟩ rfl ⟨Nat.le_of_ble_eq_true rfl, Nat.le_of_ble_eq_true rfl⟩ rfl rfl (Nat.zero_le _) (Nat.zero_le _) (Nat.le_of_ble_eq_true rfl) rfl ?_
    rw [hwe]
    have hle2 := nb_le (igo (R p r) k i)
    refine x_if_eqN (tgt := 93) d_X8_isGone_86 (by decide) (by omega) (fun c_h => ?_) (fun c_h => ?_)
    · refine x_iconst (v := nI 0) (by decide) d_X8_isGone_93 ?_
      exact x_ireturn d_X8_isGone_94 rfl (by first | rfl | exact nB_nar _ | exact nB_nar1 (by omega)) rfl rfl (Nat.zero_le _) (Nat.zero_le _) (⟨by rw [gv.2 (fun z => by rcases z with z | z; { omega }; { first | (exact c_r z.1) | (have := z.2.2.2; rw [this] at c_h; exact absurd c_h (by decide)) })], rfl⟩)
    · refine x_iconst (v := nI 1) (by decide) d_X8_isGone_89 ?_
      refine x_goto (tgt := 94) d_X8_isGone_90 (by decide) ?_
      exact x_ireturn d_X8_isGone_94 rfl (by first | rfl | exact nB_nar _ | exact nB_nar1 (by omega)) rfl rfl (Nat.zero_le _) (Nat.zero_le _) (⟨by rw [gv.1 (Or.inr ⟨c_r, hr, hk, nb_1.mp (by omega)⟩)], rfl⟩)
theorem sp_misgB {h : nPH} {b : Nat} {M V : Nat → Nat → Nat} {P : Nat → Nat → Nat → Nat} {R : Nat → Nat → Nat → Nat → Nat} {E Y T S : Nat → Nat → Nat} (H : o8 h b M) (W : rW M V P R E Y T S) (O : kO V P R) {p : Nat} (hp : p < V 1 0) {j i r k : Nat} (hj : j < P p 5 0) (hi : i < R p j 0 0) (hr : r < P p 5 0) (hk : k < R p r 0 0) {T0 : Nat → Bool} (hT : T0 (24 * j + i) = true) (hle : ¬ 24 * j + i ≤ 24 * r + k) : nRd YX8_isGone [.ref (b), .int (nI (p)), .int (nI (24 * j + i)), .int (nI (24 * r + k))] h (.int (nI (nb (gb (P p 5 0) (R p) T0 (24 * j + i) (24 * r + k))))) := by
  obtain ⟨p1, p2, p3, p4, p5, p6, p7, p8⟩ := rW_p W O hp
  obtain ⟨j1, j2, j3, j4, j5, j6⟩ := rW_r W O hp hj
  obtain ⟨r1, r2, r3, r4, r5, r6⟩ := rW_r W O hp hr
  have gv := nb_iff (gb_v (n := P p 5 0) (R := R p) (T := T0) (j := j) (i := i) (r := r) (k := k) (by omega) (by omega) hT)
  have hwe : hw (mR M p j) 1 i k = nb (igo (R p j) i k) := by
    rw [← rRw_hw j6 (by omega)]
    rfl
  refine nSp_of (by decide +kernel) rfl (Nat.le_of_ble_eq_true rfl) (ls := [some (.ref (b)), some (.int (nI (p))), some (.int (nI (24 * j + i))), some (.int (nI (24 * r + k))), none, none]) (by exact (And.intro rfl (And.intro rfl (And.intro rfl (And.intro rfl True.intro))))) ?_
  refine x_iload_n rfl d_X8_isGone_0 ?_
  refine x_iload_n rfl d_X8_isGone_1 ?_
  refine x_icmp_leN (tgt := 9) d_X8_isGone_2 (by decide) (by omega) (by omega) (fun c_1 => by exfalso; omega) (fun c_1 => ?_)
  refine x_iload_n rfl d_X8_isGone_5 ?_
  refine x_goto (tgt := 10) d_X8_isGone_6 (by decide) ?_
  refine x_istore d_X8_isGone_10 (Nat.le_of_ble_eq_true rfl) ?_
  refine x_iload_n rfl d_X8_isGone_12 ?_
  refine x_iload_n rfl d_X8_isGone_13 ?_
  refine x_icmp_leN (tgt := 21) d_X8_isGone_14 (by decide) (by omega) (by omega) (fun c_2 => by exfalso; omega) (fun c_2 => ?_)
  refine x_iload_n rfl d_X8_isGone_17 ?_
  refine x_goto (tgt := 22) d_X8_isGone_18 (by decide) ?_
  refine x_istore d_X8_isGone_22 (Nat.le_of_ble_eq_true rfl) ?_
  refine x_iload rfl d_X8_isGone_24 ?_
  refine x_bipush (v := nI 24) (by decide) d_X8_isGone_26 ?_
  refine x_idivN d_X8_isGone_28 (by omega) (by omega) (by omega) ?_
  rw [show (24 * j + i) / 24 = j by omega]
  refine x_iload rfl d_X8_isGone_29 ?_
  refine x_bipush (v := nI 24) (by decide) d_X8_isGone_31 ?_
  refine x_idivN d_X8_isGone_33 (by omega) (by omega) (by omega) ?_
  rw [show (24 * r + k) / 24 = r by omega]
  refine x_iconst (v := nI 1) (by decide) d_X8_isGone_34 ?_
  refine x_iaddN d_X8_isGone_35 ?_
  refine x_icmp_neN (tgt := 93) d_X8_isGone_36 (by decide) (by omega) (by omega) (fun c_r => ?_) (fun c_r => ?_)
  · refine x_iconst (v := nI 0) (by decide) d_X8_isGone_93 ?_
    exact x_ireturn d_X8_isGone_94 rfl (by first | rfl | exact nB_nar _ | exact nB_nar1 (by omega)) rfl rfl (Nat.zero_le _) (Nat.zero_le _) (⟨by rw [gv.2 (fun z => by rcases z with z | z; { first | (exact c_r z.1) | (have := z.2; rw [this] at c_h; exact absurd c_h (by decide)) }; { omega })], rfl⟩)
  · refine x_iload rfl d_X8_isGone_39 ?_
    refine x_bipush (v := nI 24) (by decide) d_X8_isGone_41 ?_
    refine x_iremN d_X8_isGone_43 (by omega) (by omega) (by omega) ?_
    rw [show (24 * j + i) % 24 = i by omega]
    refine x_aload_n rfl d_X8_isGone_44 ?_
    refine x_getf co_all (v := .ref (b + 7)) d_X8_isGone_45 fk_8_32 (o8_o H) rfl ?_
    refine x_bipush (v := nI 20) (by decide) d_X8_isGone_48 ?_
    refine x_iload_n rfl d_X8_isGone_50 ?_
    refine x_imulN d_X8_isGone_51 ?_
    refine x_iload rfl d_X8_isGone_52 ?_
    refine x_bipush (v := nI 24) (by decide) d_X8_isGone_54 ?_
    refine x_idivN d_X8_isGone_56 (by omega) (by omega) (by omega) ?_
    rw [show (24 * j + i) / 24 = j by omega]
    refine x_iaddN d_X8_isGone_57 ?_
    refine x_iaload d_X8_isGone_58 (o8_8 H) (nIx_nI (j := (20 * p) + j) (by omega) (by decide)) ?_
    refine x_icmp_geN (tgt := 93) d_X8_isGone_59 (by decide) (by omega) (by omega) (fun c_4 => by exfalso; omega) (fun c_4 => ?_)
    refine x_aload_n rfl d_X8_isGone_62 ?_
    refine x_iload_n rfl d_X8_isGone_63 ?_
    refine x_iload rfl d_X8_isGone_64 ?_
    refine x_bipush (v := nI 24) (by decide) d_X8_isGone_66 ?_
    refine x_idivN d_X8_isGone_68 (by omega) (by omega) (by omega) ?_
    rw [show (24 * j + i) / 24 = j by omega]
    refine x_iload rfl d_X8_isGone_69 ?_
    refine x_bipush (v := nI 24) (by decide) d_X8_isGone_71 ?_
    refine x_iremN d_X8_isGone_73 (by omega) (by omega) (by omega) ?_
    rw [show (24 * j + i) % 24 = i by omega]
    refine x_rdS d_X8_isGone_74 lk_8_99 mo_X8_at sc_X8_at (sp_at) rfl ⟨Nat.le_of_ble_eq_true rfl, Nat.le_of_ble_eq_true rfl⟩ rfl rfl (Nat.zero_le _) (Nat.zero_le _) (Nat.le_of_ble_eq_true rfl) rfl ?_
    refine x_iload rfl d_X8_isGone_77 ?_
    refine x_bipush (v := nI 24) (by decide) d_X8_isGone_79 ?_
    refine x_iremN d_X8_isGone_81 (by omega) (by omega) (by omega) ?_
    rw [show (24 * r + k) % 24 = k by omega]
    refine x_iconst (v := nI 1) (by decide) d_X8_isGone_82 ?_
    refine x_rdV d_X8_isGone_83 lk_8_139 mo_X8_hangsIn vi_X8_hangsIn (sp_mhg H p3 (r := j) j2 (j := i) (by omega) (k := k) (by omega) ((p8.2 j j1).2 i (by omega)) (c := 1) (by decide)) (o8_o H) ⟨_, rfl, rfl⟩ rfl ⟨Nat.le_of_ble_eq_true rfl, Nat.le_of_ble_eq_true rfl⟩ rfl rfl (Nat.zero_le _) (Nat.zero_le _) (Nat.le_of_ble_eq_true rfl) rfl ?_
    rw [hwe]
    have hle2 := nb_le (igo (R p j) i k)
    refine x_if_eqN (tgt := 93) d_X8_isGone_86 (by decide) (by omega) (fun c_h => ?_) (fun c_h => ?_)
    · refine x_iconst (v := nI 0) (by decide) d_X8_isGone_93 ?_
      exact x_ireturn d_X8_isGone_94 rfl (by first | rfl | exact nB_nar _ | exact nB_nar1 (by omega)) rfl rfl (Nat.zero_le _) (Nat.zero_le _) (⟨by rw [gv.2 (fun z => by rcases z with z | z; { first | (exact c_r z.1) | (have := z.2; rw [this] at c_h; exact absurd c_h (by decide)) }; { omega })], rfl⟩)
    · refine x_iconst (v := nI 1) (by decide) d_X8_isGone_89 ?_
      refine x_goto (tgt := 94) d_X8_isGone_90 (by decide) ?_
      exact x_ireturn d_X8_isGone_94 rfl (by first | rfl | exact nB_nar _ | exact nB_nar1 (by omega)) rfl rfl (Nat.zero_le _) (Nat.zero_le _) (⟨by rw [gv.1 (Or.inl ⟨c_r, nb_1.mp (by omega)⟩)], rfl⟩)
theorem sp_misg {h : nPH} {b : Nat} {M V : Nat → Nat → Nat} {P : Nat → Nat → Nat → Nat} {R : Nat → Nat → Nat → Nat → Nat} {E Y T S : Nat → Nat → Nat} (H : o8 h b M) (W : rW M V P R E Y T S) (O : kO V P R) {p : Nat} (hp : p < V 1 0) {j i r k : Nat} (hj : j < P p 5 0) (hi : i < R p j 0 0) (hr : r < P p 5 0) (hk : k < R p r 0 0) {T0 : Nat → Bool} (hT : T0 (24 * j + i) = true) : nRd YX8_isGone [.ref b, .int (nI p), .int (nI (24 * j + i)), .int (nI (24 * r + k))] h (.int (nI (nb (gb (P p 5 0) (R p) T0 (24 * j + i) (24 * r + k))))) := by
  by_cases e : 24 * j + i ≤ 24 * r + k
  · exact sp_misgA H W O hp hj hi hr hk hT e
  · exact sp_misgB H W O hp hj hi hr hk hT e
theorem sp_mtieA1 {h : nPH} {b : Nat} {M V : Nat → Nat → Nat} {P : Nat → Nat → Nat → Nat} {R : Nat → Nat → Nat → Nat → Nat} {E Y T S : Nat → Nat → Nat} (H : o8 h b M) (W : rW M V P R E Y T S) (O : kO V P R) {p : Nat} (hp : p < V 1 0) {j i q : Nat} (hj : j < P p 5 0) (h1j : 1 ≤ j) (hi : i < R p j 0 0) (hq : q < 24) (hh : hgb (R p j) i q = true) : nWv YX8_ties [.ref b, .int (nI p), .int (nI (24 * j + i)), .int (nI (24 * (j - 1) + q)), .int (nI 1)] h none (fun h2 => nFr (nIv b 24) h h2 ∧ ∃ M2, o8 h2 b M2 ∧ rW M2 V P (uP R p (uR (R p) j (u2 (R p j) 6 i (sclr (R p j 6 i) (q - R p j 4 i))))) E Y T S) := by
  obtain ⟨p1, p2, p3, p4, p5, p6, p7, p8⟩ := rW_p W O hp
  obtain ⟨r1, r2, r3, r4, r5, r6⟩ := rW_r W O hp hj
  obtain ⟨k1, k2, k3, k4, k5, k6, k7, k8, k9⟩ := rW_k W O hp hj hi
  have hg := hgb_T.mp hh
  have kb := ((p8.2 j r1).2 i k2).2.2.1
  have ks := r5.2 i k2
  have W1 := rW_f W hp hj hi (f := 6) (v := sclr (R p j 6 i) (q - R p j 4 i)) (Or.inr (Or.inr (Or.inr rfl))) (fun e => absurd e (by decide)) (fun _ => sclr_lt (by rw [k7]; exact kb))
  have W1 : rW (u2 M 14 (24 * (20 * p + j) + i) (sclr (M 14 (24 * (20 * p + j) + i)) (q - R p j 4 i))) V P (uP R p (uR (R p) j (u2 (R p j) 6 i (sclr (R p j 6 i) (q - R p j 4 i))))) E Y T S := by
    rw [← k7]
    exact W1
  refine nSp_of (by decide +kernel) rfl (Nat.le_of_ble_eq_true rfl) (ls := [some (.ref (b)), some (.int (nI (p))), some (.int (nI (24 * j + i))), some (.int (nI (24 * (j - 1) + q))), some (.int (nI (1))), none, none, none, none]) (by exact (And.intro rfl (And.intro rfl (And.intro rfl (And.intro rfl (And.intro rfl True.intro)))))) ?_
  refine x_iload_n rfl d_X8_ties_0 ?_
  refine x_iload_n rfl d_X8_ties_1 ?_
  refine x_icmp_leN (tgt := 9) d_X8_ties_2 (by decide) (by omega) (by omega) (fun c_1 => by exfalso; omega) (fun c_1 => ?_)
  refine x_iload_n rfl d_X8_ties_5 ?_
  refine x_goto (tgt := 10) d_X8_ties_6 (by decide) ?_
  refine x_istore d_X8_ties_10 (Nat.le_of_ble_eq_true rfl) ?_
  refine x_iload_n rfl d_X8_ties_12 ?_
  refine x_iload_n rfl d_X8_ties_13 ?_
  refine x_icmp_leN (tgt := 21) d_X8_ties_14 (by decide) (by omega) (by omega) (fun c_2 => by exfalso; omega) (fun c_2 => ?_)
  refine x_iload_n rfl d_X8_ties_17 ?_
  refine x_goto (tgt := 22) d_X8_ties_18 (by decide) ?_
  refine x_istore d_X8_ties_22 (Nat.le_of_ble_eq_true rfl) ?_
  refine x_iload_n rfl d_X8_ties_24 ?_
  refine x_iload rfl d_X8_ties_25 ?_
  refine x_bipush (v := nI 24) (by decide) d_X8_ties_27 ?_
  refine x_idivN d_X8_ties_29 (by omega) (by omega) (by omega) ?_
  rw [show (24 * j + i) / 24 = j by omega]
  refine x_iload rfl d_X8_ties_30 ?_
  refine x_bipush (v := nI 24) (by decide) d_X8_ties_32 ?_
  refine x_iremN d_X8_ties_34 (by omega) (by omega) (by omega) ?_
  rw [show (24 * j + i) % 24 = i by omega]
  refine x_rdS d_X8_ties_35 lk_8_99 mo_X8_at sc_X8_at (sp_at) rfl ⟨Nat.le_of_ble_eq_true rfl, Nat.le_of_ble_eq_true rfl⟩ rfl rfl (Nat.zero_le _) (Nat.zero_le _) (Nat.le_of_ble_eq_true rfl) rfl ?_
  refine x_istore d_X8_ties_38 (Nat.le_of_ble_eq_true rfl) ?_
  refine x_iconst (v := nI 1) (by decide) d_X8_ties_40 ?_
  refine x_iload rfl d_X8_ties_41 ?_
  refine x_bipush (v := nI 24) (by decide) d_X8_ties_43 ?_
  refine x_iremN d_X8_ties_45 (by omega) (by omega) (by omega) ?_
  rw [show (24 * (j - 1) + q) % 24 = q by omega]
  refine x_aload_n rfl d_X8_ties_46 ?_
  refine x_getf co_all (v := .ref (b + 11)) d_X8_ties_47 fk_8_45 (o8_o H) rfl ?_
  refine x_iload rfl d_X8_ties_50 ?_
  refine x_iaload d_X8_ties_52 (o8_12 H) (nIx_nI (j := 24 * (20 * p + j) + i) (by omega) (by decide)) ?_
  rw [k8 (by omega), nV_s]
  refine x_isubN d_X8_ties_53 (by omega) ?_
  refine x_ishl d_X8_ties_54 ?_
  rw [nI_shl1 (by omega)]
  refine x_istore d_X8_ties_55 (Nat.le_of_ble_eq_true rfl) ?_
  refine x_aload_n rfl d_X8_ties_57 ?_
  refine x_getf co_all (v := .ref (b + 13)) d_X8_ties_58 fk_8_51 (o8_o H) rfl ?_
  refine x_iload rfl d_X8_ties_61 ?_
  refine x_iload rfl d_X8_ties_63 ?_
  refine x_if_eqN (tgt := 83) d_X8_ties_65 (by decide) (by omega) (fun c_3 => by exfalso; omega) (fun c_3 => ?_)
  refine x_aload_n rfl d_X8_ties_68 ?_
  refine x_getf co_all (v := .ref (b + 13)) d_X8_ties_69 fk_8_51 (o8_o H) rfl ?_
  refine x_iload rfl d_X8_ties_72 ?_
  refine x_iaload d_X8_ties_74 (o8_14 H) (nIx_nI (j := 24 * (20 * p + j) + i) (by omega) (by decide)) ?_
  refine x_iload rfl d_X8_ties_75 ?_
  refine x_iconst (v := -1) (by decide) d_X8_ties_77 ?_
  refine x_ixor d_X8_ties_78 ?_
  refine x_iand d_X8_ties_79 ?_
  rw [nI_clr (by omega)]
  refine x_goto (tgt := 93) d_X8_ties_80 (by decide) ?_
  refine x_iastore d_X8_ties_93 (o8_14 H) (nIx_nI (j := 24 * (20 * p + j) + i) (by omega) (by decide)) (Nat.le_trans (o8_B H) (Nat.le_add_right _ _)) ?_
  have H4_8 := o8_ast14 (24 * (20 * p + j) + i) (sclr (M 14 (24 * (20 * p + j) + i)) (q - R p j 4 i)) H
  have f_5 := o8_f14 (24 * (20 * p + j) + i) (sclr (M 14 (24 * (20 * p + j) + i)) (q - R p j 4 i)) H ((nFr.rf (S := nIv b 24) (h := h))) (by exact ⟨by omega, by omega⟩)
  exact x_return d_X8_ties_94 rfl (f_5).1 (f_5).2.1 (Nat.zero_le _) (Nat.zero_le _) (⟨rfl, f_5, _, H4_8, W1⟩)
theorem sp_mtieA0 {h : nPH} {b : Nat} {M V : Nat → Nat → Nat} {P : Nat → Nat → Nat → Nat} {R : Nat → Nat → Nat → Nat → Nat} {E Y T S : Nat → Nat → Nat} (H : o8 h b M) (W : rW M V P R E Y T S) (O : kO V P R) {p : Nat} (hp : p < V 1 0) {j i q : Nat} (hj : j < P p 5 0) (h1j : 1 ≤ j) (hi : i < R p j 0 0) (hq : q < 24) (hh : hgb (R p j) i q = true) : nWv YX8_ties [.ref b, .int (nI p), .int (nI (24 * j + i)), .int (nI (24 * (j - 1) + q)), .int (nI 0)] h none (fun h2 => nFr (nIv b 24) h h2 ∧ ∃ M2, o8 h2 b M2 ∧ rW M2 V P (uP R p (uR (R p) j (u2 (R p j) 6 i (sset (R p j 6 i) (q - R p j 4 i))))) E Y T S) := by
  obtain ⟨p1, p2, p3, p4, p5, p6, p7, p8⟩ := rW_p W O hp
  obtain ⟨r1, r2, r3, r4, r5, r6⟩ := rW_r W O hp hj
  obtain ⟨k1, k2, k3, k4, k5, k6, k7, k8, k9⟩ := rW_k W O hp hj hi
  have hg := hgb_T.mp hh
  have kb := ((p8.2 j r1).2 i k2).2.2.1
  have ks := r5.2 i k2
  have W1 := rW_f W hp hj hi (f := 6) (v := sset (R p j 6 i) (q - R p j 4 i)) (Or.inr (Or.inr (Or.inr rfl))) (fun e => absurd e (by decide)) (fun _ => sset_lt (by rw [k7]; exact kb) (by omega))
  have W1 : rW (u2 M 14 (24 * (20 * p + j) + i) (sset (M 14 (24 * (20 * p + j) + i)) (q - R p j 4 i))) V P (uP R p (uR (R p) j (u2 (R p j) 6 i (sset (R p j 6 i) (q - R p j 4 i))))) E Y T S := by
    rw [← k7]
    exact W1
  refine nSp_of (by decide +kernel) rfl (Nat.le_of_ble_eq_true rfl) (ls := [some (.ref (b)), some (.int (nI (p))), some (.int (nI (24 * j + i))), some (.int (nI (24 * (j - 1) + q))), some (.int (nI (0))), none, none, none, none]) (by exact (And.intro rfl (And.intro rfl (And.intro rfl (And.intro rfl (And.intro rfl True.intro)))))) ?_
  refine x_iload_n rfl d_X8_ties_0 ?_
  refine x_iload_n rfl d_X8_ties_1 ?_
  refine x_icmp_leN (tgt := 9) d_X8_ties_2 (by decide) (by omega) (by omega) (fun c_1 => by exfalso; omega) (fun c_1 => ?_)
  refine x_iload_n rfl d_X8_ties_5 ?_
  refine x_goto (tgt := 10) d_X8_ties_6 (by decide) ?_
  refine x_istore d_X8_ties_10 (Nat.le_of_ble_eq_true rfl) ?_
  refine x_iload_n rfl d_X8_ties_12 ?_
  refine x_iload_n rfl d_X8_ties_13 ?_
  refine x_icmp_leN (tgt := 21) d_X8_ties_14 (by decide) (by omega) (by omega) (fun c_2 => by exfalso; omega) (fun c_2 => ?_)
  refine x_iload_n rfl d_X8_ties_17 ?_
  refine x_goto (tgt := 22) d_X8_ties_18 (by decide) ?_
  refine x_istore d_X8_ties_22 (Nat.le_of_ble_eq_true rfl) ?_
  refine x_iload_n rfl d_X8_ties_24 ?_
  refine x_iload rfl d_X8_ties_25 ?_
  refine x_bipush (v := nI 24) (by decide) d_X8_ties_27 ?_
  refine x_idivN d_X8_ties_29 (by omega) (by omega) (by omega) ?_
  rw [show (24 * j + i) / 24 = j by omega]
  refine x_iload rfl d_X8_ties_30 ?_
  refine x_bipush (v := nI 24) (by decide) d_X8_ties_32 ?_
  refine x_iremN d_X8_ties_34 (by omega) (by omega) (by omega) ?_
  rw [show (24 * j + i) % 24 = i by omega]
  refine x_rdS d_X8_ties_35 lk_8_99 mo_X8_at sc_X8_at (sp_at) rfl ⟨Nat.le_of_ble_eq_true rfl, Nat.le_of_ble_eq_true rfl⟩ rfl rfl (Nat.zero_le _) (Nat.zero_le _) (Nat.le_of_ble_eq_true rfl) rfl ?_
  refine x_istore d_X8_ties_38 (Nat.le_of_ble_eq_true rfl) ?_
  refine x_iconst (v := nI 1) (by decide) d_X8_ties_40 ?_
  refine x_iload rfl d_X8_ties_41 ?_
  refine x_bipush (v := nI 24) (by decide) d_X8_ties_43 ?_
  refine x_iremN d_X8_ties_45 (by omega) (by omega) (by omega) ?_
  rw [show (24 * (j - 1) + q) % 24 = q by omega]
  refine x_aload_n rfl d_X8_ties_46 ?_
  refine x_getf co_all (v := .ref (b + 11)) d_X8_ties_47 fk_8_45 (o8_o H) rfl ?_
  refine x_iload rfl d_X8_ties_50 ?_
  refine x_iaload d_X8_ties_52 (o8_12 H) (nIx_nI (j := 24 * (20 * p + j) + i) (by omega) (by decide)) ?_
  rw [k8 (by omega), nV_s]
  refine x_isubN d_X8_ties_53 (by omega) ?_
  refine x_ishl d_X8_ties_54 ?_
  rw [nI_shl1 (by omega)]
  refine x_istore d_X8_ties_55 (Nat.le_of_ble_eq_true rfl) ?_
  refine x_aload_n rfl d_X8_ties_57 ?_
  refine x_getf co_all (v := .ref (b + 13)) d_X8_ties_58 fk_8_51 (o8_o H) rfl ?_
  refine x_iload rfl d_X8_ties_61 ?_
  refine x_iload rfl d_X8_ties_63 ?_
  refine x_if_eqN (tgt := 83) d_X8_ties_65 (by decide) (by omega) (fun c_3 => ?_) (fun c_3 => by exfalso; omega)
  refine x_aload_n rfl d_X8_ties_83 ?_
  refine x_getf co_all (v := .ref (b + 13)) d_X8_ties_84 fk_8_51 (o8_o H) rfl ?_
  refine x_iload rfl d_X8_ties_87 ?_
  refine x_iaload d_X8_ties_89 (o8_14 H) (nIx_nI (j := 24 * (20 * p + j) + i) (by omega) (by decide)) ?_
  refine x_iload rfl d_X8_ties_90 ?_
  refine x_ior d_X8_ties_92 ?_
  rw [nI_set]
  refine x_iastore d_X8_ties_93 (o8_14 H) (nIx_nI (j := 24 * (20 * p + j) + i) (by omega) (by decide)) (Nat.le_trans (o8_B H) (Nat.le_add_right _ _)) ?_
  have H4_8 := o8_ast14 (24 * (20 * p + j) + i) (sset (M 14 (24 * (20 * p + j) + i)) (q - R p j 4 i)) H
  have f_5 := o8_f14 (24 * (20 * p + j) + i) (sset (M 14 (24 * (20 * p + j) + i)) (q - R p j 4 i)) H ((nFr.rf (S := nIv b 24) (h := h))) (by exact ⟨by omega, by omega⟩)
  exact x_return d_X8_ties_94 rfl (f_5).1 (f_5).2.1 (Nat.zero_le _) (Nat.zero_le _) (⟨rfl, f_5, _, H4_8, W1⟩)
theorem sp_mtieB1 {h : nPH} {b : Nat} {M V : Nat → Nat → Nat} {P : Nat → Nat → Nat → Nat} {R : Nat → Nat → Nat → Nat → Nat} {E Y T S : Nat → Nat → Nat} (H : o8 h b M) (W : rW M V P R E Y T S) (O : kO V P R) {p : Nat} (hp : p < V 1 0) {j i q : Nat} (hj : j < P p 5 0) (h1j : 1 ≤ j) (hi : i < R p j 0 0) (hq : q < 24) (hh : hgb (R p j) i q = true) : nWv YX8_ties [.ref b, .int (nI p), .int (nI (24 * (j - 1) + q)), .int (nI (24 * j + i)), .int (nI 1)] h none (fun h2 => nFr (nIv b 24) h h2 ∧ ∃ M2, o8 h2 b M2 ∧ rW M2 V P (uP R p (uR (R p) j (u2 (R p j) 6 i (sclr (R p j 6 i) (q - R p j 4 i))))) E Y T S) := by
  obtain ⟨p1, p2, p3, p4, p5, p6, p7, p8⟩ := rW_p W O hp
  obtain ⟨r1, r2, r3, r4, r5, r6⟩ := rW_r W O hp hj
  obtain ⟨k1, k2, k3, k4, k5, k6, k7, k8, k9⟩ := rW_k W O hp hj hi
  have hg := hgb_T.mp hh
  have kb := ((p8.2 j r1).2 i k2).2.2.1
  have ks := r5.2 i k2
  have W1 := rW_f W hp hj hi (f := 6) (v := sclr (R p j 6 i) (q - R p j 4 i)) (Or.inr (Or.inr (Or.inr rfl))) (fun e => absurd e (by decide)) (fun _ => sclr_lt (by rw [k7]; exact kb))
  have W1 : rW (u2 M 14 (24 * (20 * p + j) + i) (sclr (M 14 (24 * (20 * p + j) + i)) (q - R p j 4 i))) V P (uP R p (uR (R p) j (u2 (R p j) 6 i (sclr (R p j 6 i) (q - R p j 4 i))))) E Y T S := by
    rw [← k7]
    exact W1
  refine nSp_of (by decide +kernel) rfl (Nat.le_of_ble_eq_true rfl) (ls := [some (.ref (b)), some (.int (nI (p))), some (.int (nI (24 * (j - 1) + q))), some (.int (nI (24 * j + i))), some (.int (nI (1))), none, none, none, none]) (by exact (And.intro rfl (And.intro rfl (And.intro rfl (And.intro rfl (And.intro rfl True.intro)))))) ?_
  refine x_iload_n rfl d_X8_ties_0 ?_
  refine x_iload_n rfl d_X8_ties_1 ?_
  refine x_icmp_leN (tgt := 9) d_X8_ties_2 (by decide) (by omega) (by omega) (fun c_1 => ?_) (fun c_1 => by exfalso; omega)
  refine x_iload_n rfl d_X8_ties_9 ?_
  refine x_istore d_X8_ties_10 (Nat.le_of_ble_eq_true rfl) ?_
  refine x_iload_n rfl d_X8_ties_12 ?_
  refine x_iload_n rfl d_X8_ties_13 ?_
  refine x_icmp_leN (tgt := 21) d_X8_ties_14 (by decide) (by omega) (by omega) (fun c_2 => ?_) (fun c_2 => by exfalso; omega)
  refine x_iload_n rfl d_X8_ties_21 ?_
  refine x_istore d_X8_ties_22 (Nat.le_of_ble_eq_true rfl) ?_
  refine x_iload_n rfl d_X8_ties_24 ?_
  refine x_iload rfl d_X8_ties_25 ?_
  refine x_bipush (v := nI 24) (by decide) d_X8_ties_27 ?_
  refine x_idivN d_X8_ties_29 (by omega) (by omega) (by omega) ?_
  rw [show (24 * j + i) / 24 = j by omega]
  refine x_iload rfl d_X8_ties_30 ?_
  refine x_bipush (v := nI 24) (by decide) d_X8_ties_32 ?_
  refine x_iremN d_X8_ties_34 (by omega) (by omega) (by omega) ?_
  rw [show (24 * j + i) % 24 = i by omega]
  refine x_rdS d_X8_ties_35 lk_8_99 mo_X8_at sc_X8_at (sp_at) rfl ⟨Nat.le_of_ble_eq_true rfl, Nat.le_of_ble_eq_true rfl⟩ rfl rfl (Nat.zero_le _) (Nat.zero_le _) (Nat.le_of_ble_eq_true rfl) rfl ?_
  refine x_istore d_X8_ties_38 (Nat.le_of_ble_eq_true rfl) ?_
  refine x_iconst (v := nI 1) (by decide) d_X8_ties_40 ?_
  refine x_iload rfl d_X8_ties_41 ?_
  refine x_bipush (v := nI 24) (by decide) d_X8_ties_43 ?_
  refine x_iremN d_X8_ties_45 (by omega) (by omega) (by omega) ?_
  rw [show (24 * (j - 1) + q) % 24 = q by omega]
  refine x_aload_n rfl d_X8_ties_46 ?_
  refine x_getf co_all (v := .ref (b + 11)) d_X8_ties_47 fk_8_45 (o8_o H) rfl ?_
  refine x_iload rfl d_X8_ties_50 ?_
  refine x_iaload d_X8_ties_52 (o8_12 H) (nIx_nI (j := 24 * (20 * p + j) + i) (by omega) (by decide)) ?_
  rw [k8 (by omega), nV_s]
  refine x_isubN d_X8_ties_53 (by omega) ?_
  refine x_ishl d_X8_ties_54 ?_
  rw [nI_shl1 (by omega)]
  refine x_istore d_X8_ties_55 (Nat.le_of_ble_eq_true rfl) ?_
  refine x_aload_n rfl d_X8_ties_57 ?_
  refine x_getf co_all (v := .ref (b + 13)) d_X8_ties_58 fk_8_51 (o8_o H) rfl ?_
  refine x_iload rfl d_X8_ties_61 ?_
  refine x_iload rfl d_X8_ties_63 ?_
  refine x_if_eqN (tgt := 83) d_X8_ties_65 (by decide) (by omega) (fun c_3 => by exfalso; omega) (fun c_3 => ?_)
  refine x_aload_n rfl d_X8_ties_68 ?_
  refine x_getf co_all (v := .ref (b + 13)) d_X8_ties_69 fk_8_51 (o8_o H) rfl ?_
  refine x_iload rfl d_X8_ties_72 ?_
  refine x_iaload d_X8_ties_74 (o8_14 H) (nIx_nI (j := 24 * (20 * p + j) + i) (by omega) (by decide)) ?_
  refine x_iload rfl d_X8_ties_75 ?_
  refine x_iconst (v := -1) (by decide) d_X8_ties_77 ?_
  refine x_ixor d_X8_ties_78 ?_
  refine x_iand d_X8_ties_79 ?_
  rw [nI_clr (by omega)]
  refine x_goto (tgt := 93) d_X8_ties_80 (by decide) ?_
  refine x_iastore d_X8_ties_93 (o8_14 H) (nIx_nI (j := 24 * (20 * p + j) + i) (by omega) (by decide)) (Nat.le_trans (o8_B H) (Nat.le_add_right _ _)) ?_
  have H4_8 := o8_ast14 (24 * (20 * p + j) + i) (sclr (M 14 (24 * (20 * p + j) + i)) (q - R p j 4 i)) H
  have f_5 := o8_f14 (24 * (20 * p + j) + i) (sclr (M 14 (24 * (20 * p + j) + i)) (q - R p j 4 i)) H ((nFr.rf (S := nIv b 24) (h := h))) (by exact ⟨by omega, by omega⟩)
  exact x_return d_X8_ties_94 rfl (f_5).1 (f_5).2.1 (Nat.zero_le _) (Nat.zero_le _) (⟨rfl, f_5, _, H4_8, W1⟩)
theorem sp_mtieB0 {h : nPH} {b : Nat} {M V : Nat → Nat → Nat} {P : Nat → Nat → Nat → Nat} {R : Nat → Nat → Nat → Nat → Nat} {E Y T S : Nat → Nat → Nat} (H : o8 h b M) (W : rW M V P R E Y T S) (O : kO V P R) {p : Nat} (hp : p < V 1 0) {j i q : Nat} (hj : j < P p 5 0) (h1j : 1 ≤ j) (hi : i < R p j 0 0) (hq : q < 24) (hh : hgb (R p j) i q = true) : nWv YX8_ties [.ref b, .int (nI p), .int (nI (24 * (j - 1) + q)), .int (nI (24 * j + i)), .int (nI 0)] h none (fun h2 => nFr (nIv b 24) h h2 ∧ ∃ M2, o8 h2 b M2 ∧ rW M2 V P (uP R p (uR (R p) j (u2 (R p j) 6 i (sset (R p j 6 i) (q - R p j 4 i))))) E Y T S) := by
  obtain ⟨p1, p2, p3, p4, p5, p6, p7, p8⟩ := rW_p W O hp
  obtain ⟨r1, r2, r3, r4, r5, r6⟩ := rW_r W O hp hj
  obtain ⟨k1, k2, k3, k4, k5, k6, k7, k8, k9⟩ := rW_k W O hp hj hi
  have hg := hgb_T.mp hh
  have kb := ((p8.2 j r1).2 i k2).2.2.1
  have ks := r5.2 i k2
  have W1 := rW_f W hp hj hi (f := 6) (v := sset (R p j 6 i) (q - R p j 4 i)) (Or.inr (Or.inr (Or.inr rfl))) (fun e => absurd e (by decide)) (fun _ => sset_lt (by rw [k7]; exact kb) (by omega))
  have W1 : rW (u2 M 14 (24 * (20 * p + j) + i) (sset (M 14 (24 * (20 * p + j) + i)) (q - R p j 4 i))) V P (uP R p (uR (R p) j (u2 (R p j) 6 i (sset (R p j 6 i) (q - R p j 4 i))))) E Y T S := by
    rw [← k7]
    exact W1
  refine nSp_of (by decide +kernel) rfl (Nat.le_of_ble_eq_true rfl) (ls := [some (.ref (b)), some (.int (nI (p))), some (.int (nI (24 * (j - 1) + q))), some (.int (nI (24 * j + i))), some (.int (nI (0))), none, none, none, none]) (by exact (And.intro rfl (And.intro rfl (And.intro rfl (And.intro rfl (And.intro rfl True.intro)))))) ?_
  refine x_iload_n rfl d_X8_ties_0 ?_
  refine x_iload_n rfl d_X8_ties_1 ?_
  refine x_icmp_leN (tgt := 9) d_X8_ties_2 (by decide) (by omega) (by omega) (fun c_1 => ?_) (fun c_1 => by exfalso; omega)
  refine x_iload_n rfl d_X8_ties_9 ?_
  refine x_istore d_X8_ties_10 (Nat.le_of_ble_eq_true rfl) ?_
  refine x_iload_n rfl d_X8_ties_12 ?_
  refine x_iload_n rfl d_X8_ties_13 ?_
  refine x_icmp_leN (tgt := 21) d_X8_ties_14 (by decide) (by omega) (by omega) (fun c_2 => ?_) (fun c_2 => by exfalso; omega)
  refine x_iload_n rfl d_X8_ties_21 ?_
  refine x_istore d_X8_ties_22 (Nat.le_of_ble_eq_true rfl) ?_
  refine x_iload_n rfl d_X8_ties_24 ?_
  refine x_iload rfl d_X8_ties_25 ?_
  refine x_bipush (v := nI 24) (by decide) d_X8_ties_27 ?_
  refine x_idivN d_X8_ties_29 (by omega) (by omega) (by omega) ?_
  rw [show (24 * j + i) / 24 = j by omega]
  refine x_iload rfl d_X8_ties_30 ?_
  refine x_bipush (v := nI 24) (by decide) d_X8_ties_32 ?_
  refine x_iremN d_X8_ties_34 (by omega) (by omega) (by omega) ?_
  rw [show (24 * j + i) % 24 = i by omega]
  refine x_rdS d_X8_ties_35 lk_8_99 mo_X8_at sc_X8_at (sp_at) rfl ⟨Nat.le_of_ble_eq_true rfl, Nat.le_of_ble_eq_true rfl⟩ rfl rfl (Nat.zero_le _) (Nat.zero_le _) (Nat.le_of_ble_eq_true rfl) rfl ?_
  refine x_istore d_X8_ties_38 (Nat.le_of_ble_eq_true rfl) ?_
  refine x_iconst (v := nI 1) (by decide) d_X8_ties_40 ?_
  refine x_iload rfl d_X8_ties_41 ?_
  refine x_bipush (v := nI 24) (by decide) d_X8_ties_43 ?_
  refine x_iremN d_X8_ties_45 (by omega) (by omega) (by omega) ?_
  rw [show (24 * (j - 1) + q) % 24 = q by omega]
  refine x_aload_n rfl d_X8_ties_46 ?_
  refine x_getf co_all (v := .ref (b + 11)) d_X8_ties_47 fk_8_45 (o8_o H) rfl ?_
  refine x_iload rfl d_X8_ties_50 ?_
  refine x_iaload d_X8_ties_52 (o8_12 H) (nIx_nI (j := 24 * (20 * p + j) + i) (by omega) (by decide)) ?_
  rw [k8 (by omega), nV_s]
  refine x_isubN d_X8_ties_53 (by omega) ?_
  refine x_ishl d_X8_ties_54 ?_
  rw [nI_shl1 (by omega)]
  refine x_istore d_X8_ties_55 (Nat.le_of_ble_eq_true rfl) ?_
  refine x_aload_n rfl d_X8_ties_57 ?_
  refine x_getf co_all (v := .ref (b + 13)) d_X8_ties_58 fk_8_51 (o8_o H) rfl ?_
  refine x_iload rfl d_X8_ties_61 ?_
  refine x_iload rfl d_X8_ties_63 ?_
  refine x_if_eqN (tgt := 83) d_X8_ties_65 (by decide) (by omega) (fun c_3 => ?_) (fun c_3 => by exfalso; omega)
  refine x_aload_n rfl d_X8_ties_83 ?_
  refine x_getf co_all (v := .ref (b + 13)) d_X8_ties_84 fk_8_51 (o8_o H) rfl ?_
  refine x_iload rfl d_X8_ties_87 ?_
  refine x_iaload d_X8_ties_89 (o8_14 H) (nIx_nI (j := 24 * (20 * p + j) + i) (by omega) (by decide)) ?_
  refine x_iload rfl d_X8_ties_90 ?_
  refine x_ior d_X8_ties_92 ?_
  rw [nI_set]
  refine x_iastore d_X8_ties_93 (o8_14 H) (nIx_nI (j := 24 * (20 * p + j) + i) (by omega) (by decide)) (Nat.le_trans (o8_B H) (Nat.le_add_right _ _)) ?_
  have H4_8 := o8_ast14 (24 * (20 * p + j) + i) (sset (M 14 (24 * (20 * p + j) + i)) (q - R p j 4 i)) H
  have f_5 := o8_f14 (24 * (20 * p + j) + i) (sset (M 14 (24 * (20 * p + j) + i)) (q - R p j 4 i)) H ((nFr.rf (S := nIv b 24) (h := h))) (by exact ⟨by omega, by omega⟩)
  exact x_return d_X8_ties_94 rfl (f_5).1 (f_5).2.1 (Nat.zero_le _) (Nat.zero_le _) (⟨rfl, f_5, _, H4_8, W1⟩)
theorem sp_mrch {h : nPH} {b : Nat} {M V : Nat → Nat → Nat} {P : Nat → Nat → Nat → Nat} {R : Nat → Nat → Nat → Nat → Nat} {E Y T S : Nat → Nat → Nat} (H : o8 h b M) (W : rW M V P R E Y T S) (O : kO V P R) {p : Nat} (hp : p < V 1 0) {r k : Nat} (hr : r < P p 5 0) (hk : k < R p r 0 0) {T1 : Nat → Bool} (hT : hTr (P p) (R p) (24 * r + k) T1) {left : Nat} (hl : left < 2 ^ 31) : nWv YX8_reaches [.ref b, .int (nI p), .int (nI (24 * r + k)), .int (nI left)] h (some (.int (nI (nB (lsT (R p) T1 = left))))) (fun h2 => nFr (nIv b 24) h h2 ∧ ∃ M2, o8 h2 b M2 ∧ rW M2 V P R E Y T S) := by
  obtain ⟨p1, p2, p3, p4, p5, p6, p7, p8⟩ := rW_p W O hp
  have hk24 : k < 24 := by have := (p7.2.2.1 r hr).1; omega
  have hin : gIn (P p 5 0) (R p) (24 * r + k) := by unfold gIn; rw [show (24 * r + k) / 24 = r by omega, show (24 * r + k) % 24 = k by omega]; exact ⟨hr, hk⟩
  have hls := ls_1140 p7 (fun x hx => hTr_in p7.2.2.2.1 hin hT hx)
  refine nSp_of (by decide +kernel) rfl (Nat.le_of_ble_eq_true rfl) (ls := [some (.ref (b)), some (.int (nI (p))), some (.int (nI (24 * r + k))), some (.int (nI (left)))]) (by exact (And.intro rfl (And.intro rfl (And.intro rfl (And.intro rfl True.intro))))) ?_
  refine x_aload_n rfl d_X8_reaches_0 ?_
  refine x_iload_n rfl d_X8_reaches_1 ?_
  refine x_iload_n rfl d_X8_reaches_2 ?_
  refine x_bipush (v := nI 24) (by decide) d_X8_reaches_3 ?_
  refine x_idivN d_X8_reaches_5 (by omega) (by omega) (by omega) ?_
  rw [show (24 * r + k) / 24 = r by omega]
  refine x_iload_n rfl d_X8_reaches_6 ?_
  refine x_bipush (v := nI 24) (by decide) d_X8_reaches_7 ?_
  refine x_iremN d_X8_reaches_9 (by omega) (by omega) (by omega) ?_
  rw [show (24 * r + k) % 24 = k by omega]
  refine x_wvV d_X8_reaches_10 lk_8_158 mo_X8_spreads vi_X8_spreads (sp_mspr H W O hp hr hk hT) (o8_o H) ⟨_, rfl, rfl⟩ rfl ⟨Nat.le_of_ble_eq_true rfl, Nat.le_of_ble_eq_true rfl⟩ (Nat.zero_le _) (Nat.zero_le _) (Nat.le_of_ble_eq_true rfl) rfl (fun h3 hq_ e3a e3b => ?_)
  obtain ⟨F3, M3, H3, I3⟩ := hq_
  have W3 := rW_sp W I3.1
  refine x_aload_n rfl d_X8_reaches_13 ?_
  refine x_getf co_all (v := .int (nI (M3 21 0))) d_X8_reaches_14 fk_8_155 (o8_o H3) rfl ?_
  rw [I3.2.2.2]
  refine x_iload_n rfl d_X8_reaches_17 ?_
  refine x_icmp_neN (tgt := 25) d_X8_reaches_18 (by decide) (by omega) (by omega) (fun c_l => ?_) (fun c_l => ?_)
  · refine x_iconst (v := nI 0) (by decide) d_X8_reaches_25 ?_
    exact x_ireturn d_X8_reaches_26 rfl (by first | rfl | exact nB_nar _ | exact nB_nar1 (by omega)) (F3).1 (F3).2.1 (Nat.zero_le _) (Nat.zero_le _) (⟨by rw [nB_F c_l], F3, M3, H3, W3⟩)
  · refine x_iconst (v := nI 1) (by decide) d_X8_reaches_21 ?_
    refine x_goto (tgt := 26) d_X8_reaches_22 (by decide) ?_
    exact x_ireturn d_X8_reaches_26 rfl (by first | rfl | exact nB_nar _ | exact nB_nar1 (by omega)) (F3).1 (F3).2.1 (Nat.zero_le _) (Nat.zero_le _) (⟨by rw [nB_T c_l], F3, M3, H3, W3⟩)
