/-! the model: load, sum, weak -/
theorem wk_iff {s a r : Nat} (hr : r ≤ 19) : s * 609359740010496 < a * 6 ^ (19 - r) ↔ s * 6 ^ r < a := by
  have e6 : 609359740010496 = 6 ^ r * 6 ^ (19 - r) := by
    rw [← Nat.pow_add, show r + (19 - r) = 19 by omega]
  have hp : 0 < 6 ^ (19 - r) := Nat.pow_pos (by decide)
  rw [e6, ← Nat.mul_assoc]
  exact Nat.mul_lt_mul_right hp
theorem six_le {r : Nat} (hr : r ≤ 19) : 6 ^ r ≤ 609359740010496 := by
  have : 6 ^ r ≤ 6 ^ 19 := Nat.pow_le_pow_right (by decide) hr
  have e : 6 ^ 19 = 609359740010496 := by decide
  omega
theorem in01x {c : Int32} (h0 : c ≠ nI 0) (h1 : c ≠ nI 1) : ¬ (nI 0 ≤ c ∧ c ≤ nI 1) := fun h => by
  rcases in01 h with e | e
  · exact h0 e
  · exact h1 e
theorem md_loadP {h : nPH} {b : Nat} {M V : Nat → Nat → Nat} {P : Nat → Nat → Nat → Nat} {R : Nat → Nat → Nat → Nat → Nat} {E Y T S : Nat → Nat → Nat} (H : o8 h b M) (W : rW M V P R E Y T S) (O : kO V P R) {p : Int32} (hp : ¬ nIn p (V 1 0)) {r k c : Int32} : nRd YX8_load [.ref (b), .int (p), .int (r), .int (k), .int (c)] h (.long (-1)) := by
  refine nSp_of (by decide +kernel) rfl (Nat.le_of_ble_eq_true rfl) (ls := [some (.ref (b)), some (.int (p)), some (.int (r)), some (.int (k)), some (.int (c))]) (by exact (And.intro rfl (And.intro rfl (And.intro rfl (And.intro rfl (And.intro rfl True.intro)))))) ?_
  refine x_aload_n rfl d_X8_load_0 ?_
  refine x_iload_n rfl d_X8_load_1 ?_
  refine x_iload_n rfl d_X8_load_2 ?_
  refine x_iload_n rfl d_X8_load_3 ?_
  refine x_rdV d_X8_load_4 lk_8_118 mo_X8_isKnot vi_X8_isKnot (sp_isKnotP H (rW_n W O) (rW_x W hp)) (o8_o H) ⟨_, rfl, rfl⟩ rfl ⟨Nat.le_of_ble_eq_true rfl, Nat.le_of_ble_eq_true rfl⟩ rfl rfl (Nat.zero_le _) (Nat.zero_le _) (Nat.le_of_ble_eq_true rfl) rfl ?_
  refine x_if_eqN (tgt := 21) d_X8_load_7 (by decide) (by omega) (fun c_1 => ?_) (fun c_1 => by exfalso; omega)
  refine x_ldc2 d_X8_load_21 ct_8_135 ?_
  exact x_lreturn d_X8_load_24 rfl rfl rfl (Nat.zero_le _) (Nat.zero_le _) (⟨rfl, rfl⟩)
theorem md_loadO {h : nPH} {b : Nat} {M V : Nat → Nat → Nat} {P : Nat → Nat → Nat → Nat} {R : Nat → Nat → Nat → Nat → Nat} {E Y T S : Nat → Nat → Nat} (H : o8 h b M) (W : rW M V P R E Y T S) (O : kO V P R) {p : Nat} (hp : p < V 1 0) {r k : Int32} (hO : rOff (P p 5 0) (R p) r k) {c : Int32} : nRd YX8_load [.ref (b), .int (nI (p)), .int (r), .int (k), .int (c)] h (.long (-1)) := by
  obtain ⟨p1, p2, p3, p4, p5, p6, p7, p8⟩ := rW_p W O hp
  refine nSp_of (by decide +kernel) rfl (Nat.le_of_ble_eq_true rfl) (ls := [some (.ref (b)), some (.int (nI (p))), some (.int (r)), some (.int (k)), some (.int (c))]) (by exact (And.intro rfl (And.intro rfl (And.intro rfl (And.intro rfl (And.intro rfl True.intro)))))) ?_
  refine x_aload_n rfl d_X8_load_0 ?_
  refine x_iload_n rfl d_X8_load_1 ?_
  refine x_iload_n rfl d_X8_load_2 ?_
  refine x_iload_n rfl d_X8_load_3 ?_
  refine x_rdV d_X8_load_4 lk_8_118 mo_X8_isKnot vi_X8_isKnot (sp_isKnotO H W O hp hO) (o8_o H) ⟨_, rfl, rfl⟩ rfl ⟨Nat.le_of_ble_eq_true rfl, Nat.le_of_ble_eq_true rfl⟩ rfl rfl (Nat.zero_le _) (Nat.zero_le _) (Nat.le_of_ble_eq_true rfl) rfl ?_
  refine x_if_eqN (tgt := 21) d_X8_load_7 (by decide) (by omega) (fun c_1 => ?_) (fun c_1 => by exfalso; omega)
  refine x_ldc2 d_X8_load_21 ct_8_135 ?_
  exact x_lreturn d_X8_load_24 rfl rfl rfl (Nat.zero_le _) (Nat.zero_le _) (⟨rfl, rfl⟩)
theorem md_loadN {h : nPH} {b : Nat} {M V : Nat → Nat → Nat} {P : Nat → Nat → Nat → Nat} {R : Nat → Nat → Nat → Nat → Nat} {E Y T S : Nat → Nat → Nat} (H : o8 h b M) (W : rW M V P R E Y T S) (O : kO V P R) {p : Nat} (hp : p < V 1 0) {r : Nat} (hr : r < P p 5 0) {k : Nat} (hk : k < R p r 0 0) {c : Int32} (hc : ¬ (nI 0 ≤ c ∧ c ≤ nI 1)) : nRd YX8_load [.ref (b), .int (nI (p)), .int (nI (r)), .int (nI (k)), .int (c)] h (.long (-1)) := by
  obtain ⟨p1, p2, p3, p4, p5, p6, p7, p8⟩ := rW_p W O hp
  obtain ⟨r1, r2, r3, r4, r5, r6⟩ := rW_r W O hp hr
  obtain ⟨k1, k2, k3, k4, k5, k6, k7, k8, k9⟩ := rW_k W O hp hr hk
  refine nSp_of (by decide +kernel) rfl (Nat.le_of_ble_eq_true rfl) (ls := [some (.ref (b)), some (.int (nI (p))), some (.int (nI (r))), some (.int (nI (k))), some (.int (c))]) (by exact (And.intro rfl (And.intro rfl (And.intro rfl (And.intro rfl (And.intro rfl True.intro)))))) ?_
  refine x_aload_n rfl d_X8_load_0 ?_
  refine x_iload_n rfl d_X8_load_1 ?_
  refine x_iload_n rfl d_X8_load_2 ?_
  refine x_iload_n rfl d_X8_load_3 ?_
  refine x_rdV d_X8_load_4 lk_8_118 mo_X8_isKnot vi_X8_isKnot (sp_isKnot H p2 p1 r1 p5 k1 (by omega)) (o8_o H) ⟨_, rfl, rfl⟩ rfl ⟨Nat.le_of_ble_eq_true rfl, Nat.le_of_ble_eq_true rfl⟩ rfl rfl (Nat.zero_le _) (Nat.zero_le _) (Nat.le_of_ble_eq_true rfl) rfl ?_
  refine x_if_eqN (tgt := 21) d_X8_load_7 (by decide) (by omega) (fun c_1 => by exfalso; omega) (fun c_1 => ?_)
  refine x_iload rfl d_X8_load_10 ?_
  refine x_if_lt (tgt := 21) d_X8_load_12 (by decide) (fun c_a => ?_) (fun c_a => ?_)
  · refine x_ldc2 d_X8_load_21 ct_8_135 ?_
    exact x_lreturn d_X8_load_24 rfl rfl rfl (Nat.zero_le _) (Nat.zero_le _) (⟨rfl, rfl⟩)
  · refine x_iload rfl d_X8_load_15 ?_
    refine x_iconst (v := nI 1) (by decide) d_X8_load_17 ?_
    refine x_icmp_le (tgt := 25) d_X8_load_18 (by decide) (fun c_b => by exfalso; exact hc ⟨Int32.not_lt.mp c_a, c_b⟩) (fun c_b => ?_)
    refine x_ldc2 d_X8_load_21 ct_8_135 ?_
    exact x_lreturn d_X8_load_24 rfl rfl rfl (Nat.zero_le _) (Nat.zero_le _) (⟨rfl, rfl⟩)
theorem md_load0 {h : nPH} {b : Nat} {M V : Nat → Nat → Nat} {P : Nat → Nat → Nat → Nat} {R : Nat → Nat → Nat → Nat → Nat} {E Y T S : Nat → Nat → Nat} (H : o8 h b M) (W : rW M V P R E Y T S) (O : kO V P R) {p : Nat} (hp : p < V 1 0) {r : Nat} (hr : r < P p 5 0) {k : Nat} (hk : k < R p r 0 0) : nWv YX8_load [.ref b, .int (nI p), .int (nI r), .int (nI k), .int (nI 0)] h (some (.long (lN (uLd (P p 6) (R p) r k / Nat.gcd (uLd (P p 6) (R p) r k) 609359740010496)))) (fun h2 => nFr (nIv b 24) h h2 ∧ ∃ M2, o8 h2 b M2 ∧ rW M2 V P R E Y T S) := by
  obtain ⟨p1, p2, p3, p4, p5, p6, p7, p8⟩ := rW_p W O hp
  obtain ⟨r1, r2, r3, r4, r5, r6⟩ := rW_r W O hp hr
  obtain ⟨k1, k2, k3, k4, k5, k6, k7, k8, k9⟩ := rW_k W O hp hr hk
  have ul := uLd_mm (p := P p 6) p7.2.1 p7.2.2.2.1 (fun r hr => (p7.2.2.2.2.2.2 r hr).1)
  have ub : ∀ r, r < P p 5 0 → ∀ k, k < R p r 0 0 → mLd (P p 6) (R p) r k ≤ 1462463376025190400 := fun r hr k hk => by
    have h1 := uLd_le (p := P p 6) p7.2.2.2.1 (fun j hj => (p7.2.2.1 j hj).1) p7.2.2.2.2.1 hr hk
    rw [ul r hr k hk] at h1
    exact Nat.le_trans (Nat.le_mul_of_pos_right _ (Nat.pow_pos (by decide))) h1
  have hu := ub r hr k hk
  have h6 := six_le (r := r) (by omega)
  have er := gcd_red (u := uLd (P p 6) (R p) r k) (a := mLd (P p 6) (R p) r k) (r := r) (by omega) (ul r hr k hk)
  refine nSp_of (by decide +kernel) rfl (Nat.le_of_ble_eq_true rfl) (ls := [some (.ref (b)), some (.int (nI (p))), some (.int (nI (r))), some (.int (nI (k))), some (.int (nI (0)))]) (by exact (And.intro rfl (And.intro rfl (And.intro rfl (And.intro rfl (And.intro rfl True.intro)))))) ?_
  refine x_aload_n rfl d_X8_load_0 ?_
  refine x_iload_n rfl d_X8_load_1 ?_
  refine x_iload_n rfl d_X8_load_2 ?_
  refine x_iload_n rfl d_X8_load_3 ?_
  refine x_rdV d_X8_load_4 lk_8_118 mo_X8_isKnot vi_X8_isKnot (sp_isKnot H p2 p1 r1 p5 k1 (by omega)) (o8_o H) ⟨_, rfl, rfl⟩ rfl ⟨Nat.le_of_ble_eq_true rfl, Nat.le_of_ble_eq_true rfl⟩ rfl rfl (Nat.zero_le _) (Nat.zero_le _) (Nat.le_of_ble_eq_true rfl) rfl ?_
  refine x_if_eqN (tgt := 21) d_X8_load_7 (by decide) (by omega) (fun c_1 => by exfalso; omega) (fun c_1 => ?_)
  refine x_iload rfl d_X8_load_10 ?_
  refine x_if_ltN (tgt := 21) d_X8_load_12 (by decide) (by omega) (fun c_2 => by exfalso; omega) (fun c_2 => ?_)
  refine x_iload rfl d_X8_load_15 ?_
  refine x_iconst (v := nI 1) (by decide) d_X8_load_17 ?_
  refine x_icmp_leN (tgt := 25) d_X8_load_18 (by decide) (by omega) (by omega) (fun c_3 => ?_) (fun c_3 => by exfalso; omega)
  refine x_aload_n rfl d_X8_load_25 ?_
  refine x_iload_n rfl d_X8_load_26 ?_
  refine x_wvV d_X8_load_27 lk_8_229 mo_X8_leads vi_X8_leads (sp_mleads H W O hp) (o8_o H) ⟨_, rfl, rfl⟩ rfl ⟨Nat.le_of_ble_eq_true rfl, Nat.le_of_ble_eq_true rfl⟩ (Nat.zero_le _) (Nat.zero_le _) (Nat.le_of_ble_eq_true rfl) rfl (fun h3 hq_ e3a e3b => ?_)
  obtain ⟨F3, N, H3, J⟩ := hq_
  have W3 := rW_ld W J.1.1
  refine x_aload_n rfl d_X8_load_30 ?_
  refine x_getf co_all (v := .ref (b + 23)) d_X8_load_31 fk_8_81 (o8_o H3) rfl ?_
  refine x_bipush (v := nI 24) (by decide) d_X8_load_34 ?_
  refine x_iload_n rfl d_X8_load_36 ?_
  refine x_imulN d_X8_load_37 ?_
  refine x_iload_n rfl d_X8_load_38 ?_
  refine x_iaddN d_X8_load_39 ?_
  refine x_laload d_X8_load_40 (o8_36 H3) (nIx_nI (j := (24 * r) + k) (by omega) (by decide)) ?_
  rw [J.1.2 r k (by omega) hk]
  refine x_iload_n rfl d_X8_load_41 ?_
  refine x_rdS d_X8_load_42 lk_8_225 mo_X8_sixth sc_X8_sixth (sp_sixth (r := r) (by omega)) rfl ⟨Nat.le_of_ble_eq_true rfl, Nat.le_of_ble_eq_true rfl⟩ rfl rfl (Nat.zero_le _) (Nat.zero_le _) (Nat.le_of_ble_eq_true rfl) rfl ?_
  refine x_iload rfl d_X8_load_45 ?_
  refine x_rdS d_X8_load_47 lk_8_233 mo_X8_lowest sc_X8_lowest (sp_low0 (u := mLd (P p 6) (R p) r k) (t := 6 ^ r) (by omega) (Nat.pow_pos (by decide)) (by omega)) rfl ⟨Nat.le_of_ble_eq_true rfl, Nat.le_of_ble_eq_true rfl⟩ rfl rfl (Nat.zero_le _) (Nat.zero_le _) (Nat.le_of_ble_eq_true rfl) rfl ?_
  exact x_lreturn d_X8_load_50 rfl (F3).1 (F3).2.1 (Nat.zero_le _) (Nat.zero_le _) (⟨by rw [← er.1], F3, N, H3, W3⟩)
theorem md_load1 {h : nPH} {b : Nat} {M V : Nat → Nat → Nat} {P : Nat → Nat → Nat → Nat} {R : Nat → Nat → Nat → Nat → Nat} {E Y T S : Nat → Nat → Nat} (H : o8 h b M) (W : rW M V P R E Y T S) (O : kO V P R) {p : Nat} (hp : p < V 1 0) {r : Nat} (hr : r < P p 5 0) {k : Nat} (hk : k < R p r 0 0) : nWv YX8_load [.ref b, .int (nI p), .int (nI r), .int (nI k), .int (nI 1)] h (some (.long (lN (609359740010496 / Nat.gcd (uLd (P p 6) (R p) r k) 609359740010496)))) (fun h2 => nFr (nIv b 24) h h2 ∧ ∃ M2, o8 h2 b M2 ∧ rW M2 V P R E Y T S) := by
  obtain ⟨p1, p2, p3, p4, p5, p6, p7, p8⟩ := rW_p W O hp
  obtain ⟨r1, r2, r3, r4, r5, r6⟩ := rW_r W O hp hr
  obtain ⟨k1, k2, k3, k4, k5, k6, k7, k8, k9⟩ := rW_k W O hp hr hk
  have ul := uLd_mm (p := P p 6) p7.2.1 p7.2.2.2.1 (fun r hr => (p7.2.2.2.2.2.2 r hr).1)
  have ub : ∀ r, r < P p 5 0 → ∀ k, k < R p r 0 0 → mLd (P p 6) (R p) r k ≤ 1462463376025190400 := fun r hr k hk => by
    have h1 := uLd_le (p := P p 6) p7.2.2.2.1 (fun j hj => (p7.2.2.1 j hj).1) p7.2.2.2.2.1 hr hk
    rw [ul r hr k hk] at h1
    exact Nat.le_trans (Nat.le_mul_of_pos_right _ (Nat.pow_pos (by decide))) h1
  have hu := ub r hr k hk
  have h6 := six_le (r := r) (by omega)
  have er := gcd_red (u := uLd (P p 6) (R p) r k) (a := mLd (P p 6) (R p) r k) (r := r) (by omega) (ul r hr k hk)
  refine nSp_of (by decide +kernel) rfl (Nat.le_of_ble_eq_true rfl) (ls := [some (.ref (b)), some (.int (nI (p))), some (.int (nI (r))), some (.int (nI (k))), some (.int (nI (1)))]) (by exact (And.intro rfl (And.intro rfl (And.intro rfl (And.intro rfl (And.intro rfl True.intro)))))) ?_
  refine x_aload_n rfl d_X8_load_0 ?_
  refine x_iload_n rfl d_X8_load_1 ?_
  refine x_iload_n rfl d_X8_load_2 ?_
  refine x_iload_n rfl d_X8_load_3 ?_
  refine x_rdV d_X8_load_4 lk_8_118 mo_X8_isKnot vi_X8_isKnot (sp_isKnot H p2 p1 r1 p5 k1 (by omega)) (o8_o H) ⟨_, rfl, rfl⟩ rfl ⟨Nat.le_of_ble_eq_true rfl, Nat.le_of_ble_eq_true rfl⟩ rfl rfl (Nat.zero_le _) (Nat.zero_le _) (Nat.le_of_ble_eq_true rfl) rfl ?_
  refine x_if_eqN (tgt := 21) d_X8_load_7 (by decide) (by omega) (fun c_1 => by exfalso; omega) (fun c_1 => ?_)
  refine x_iload rfl d_X8_load_10 ?_
  refine x_if_ltN (tgt := 21) d_X8_load_12 (by decide) (by omega) (fun c_2 => by exfalso; omega) (fun c_2 => ?_)
  refine x_iload rfl d_X8_load_15 ?_
  refine x_iconst (v := nI 1) (by decide) d_X8_load_17 ?_
  refine x_icmp_leN (tgt := 25) d_X8_load_18 (by decide) (by omega) (by omega) (fun c_3 => ?_) (fun c_3 => by exfalso; omega)
  refine x_aload_n rfl d_X8_load_25 ?_
  refine x_iload_n rfl d_X8_load_26 ?_
  refine x_wvV d_X8_load_27 lk_8_229 mo_X8_leads vi_X8_leads (sp_mleads H W O hp) (o8_o H) ⟨_, rfl, rfl⟩ rfl ⟨Nat.le_of_ble_eq_true rfl, Nat.le_of_ble_eq_true rfl⟩ (Nat.zero_le _) (Nat.zero_le _) (Nat.le_of_ble_eq_true rfl) rfl (fun h3 hq_ e3a e3b => ?_)
  obtain ⟨F3, N, H3, J⟩ := hq_
  have W3 := rW_ld W J.1.1
  refine x_aload_n rfl d_X8_load_30 ?_
  refine x_getf co_all (v := .ref (b + 23)) d_X8_load_31 fk_8_81 (o8_o H3) rfl ?_
  refine x_bipush (v := nI 24) (by decide) d_X8_load_34 ?_
  refine x_iload_n rfl d_X8_load_36 ?_
  refine x_imulN d_X8_load_37 ?_
  refine x_iload_n rfl d_X8_load_38 ?_
  refine x_iaddN d_X8_load_39 ?_
  refine x_laload d_X8_load_40 (o8_36 H3) (nIx_nI (j := (24 * r) + k) (by omega) (by decide)) ?_
  rw [J.1.2 r k (by omega) hk]
  refine x_iload_n rfl d_X8_load_41 ?_
  refine x_rdS d_X8_load_42 lk_8_225 mo_X8_sixth sc_X8_sixth (sp_sixth (r := r) (by omega)) rfl ⟨Nat.le_of_ble_eq_true rfl, Nat.le_of_ble_eq_true rfl⟩ rfl rfl (Nat.zero_le _) (Nat.zero_le _) (Nat.le_of_ble_eq_true rfl) rfl ?_
  refine x_iload rfl d_X8_load_45 ?_
  refine x_rdS d_X8_load_47 lk_8_233 mo_X8_lowest sc_X8_lowest (sp_low1 (u := mLd (P p 6) (R p) r k) (t := 6 ^ r) (by omega) (Nat.pow_pos (by decide)) (by omega)) rfl ⟨Nat.le_of_ble_eq_true rfl, Nat.le_of_ble_eq_true rfl⟩ rfl rfl (Nat.zero_le _) (Nat.zero_le _) (Nat.le_of_ble_eq_true rfl) rfl ?_
  exact x_lreturn d_X8_load_50 rfl (F3).1 (F3).2.1 (Nat.zero_le _) (Nat.zero_le _) (⟨by rw [← er.2], F3, N, H3, W3⟩)
theorem md_load {h : nPH} {b : Nat} {M V : Nat → Nat → Nat} {P : Nat → Nat → Nat → Nat} {R : Nat → Nat → Nat → Nat → Nat} {E Y T S : Nat → Nat → Nat} (H : o8 h b M) (W : rW M V P R E Y T S) (O : kO V P R) {p : Nat} (hp : p < V 1 0) {r : Nat} (hr : r < P p 5 0) {k : Nat} (hk : k < R p r 0 0) {c : Int32} : nWv YX8_load [.ref b, .int (nI p), .int (nI r), .int (nI k), .int c] h (some (.long (ldT (uLd (P p 6) (R p) r k) c))) (fun h2 => nFr (nIv b 24) h h2 ∧ ∃ M2, o8 h2 b M2 ∧ rW M2 V P R E Y T S) := by
  unfold ldT
  by_cases h0 : c = nI 0
  · rw [if_pos h0, h0]
    exact md_load0 H W O hp hr hk
  · rw [if_neg h0]
    by_cases h1 : c = nI 1
    · rw [if_pos h1, h1]
      exact md_load1 H W O hp hr hk
    · rw [if_neg h1]
      exact nSp.mono (md_loadN H W O hp hr hk (in01x h0 h1)) (fun v h2 y => ⟨y.1, by rw [y.2]; exact nFr.rf, M, by rw [y.2]; exact H, W⟩)
theorem md_sumP {h : nPH} {b : Nat} {M V : Nat → Nat → Nat} {P : Nat → Nat → Nat → Nat} {R : Nat → Nat → Nat → Nat → Nat} {E Y T S : Nat → Nat → Nat} (H : o8 h b M) (W : rW M V P R E Y T S) (O : kO V P R) {p : Int32} (hp : ¬ nIn p (V 1 0)) {q c : Int32} : nRd YX8_sum [.ref (b), .int (p), .int (q), .int (c)] h (.long (-1)) := by
  refine nSp_of (by decide +kernel) rfl (Nat.le_of_ble_eq_true rfl) (ls := [some (.ref (b)), some (.int (p)), some (.int (q)), some (.int (c))]) (by exact (And.intro rfl (And.intro rfl (And.intro rfl (And.intro rfl True.intro))))) ?_
  refine x_aload_n rfl d_X8_sum_0 ?_
  refine x_iload_n rfl d_X8_sum_1 ?_
  refine x_rdV d_X8_sum_2 lk_8_91 mo_X8_isPanel vi_X8_isPanel (sp_isPanelN H (rW_n W O) (rW_x W hp)) (o8_o H) ⟨_, rfl, rfl⟩ rfl ⟨Nat.le_of_ble_eq_true rfl, Nat.le_of_ble_eq_true rfl⟩ rfl rfl (Nat.zero_le _) (Nat.zero_le _) (Nat.le_of_ble_eq_true rfl) rfl ?_
  refine x_if_eqN (tgt := 26) d_X8_sum_5 (by decide) (by omega) (fun c_1 => ?_) (fun c_1 => by exfalso; omega)
  refine x_ldc2 d_X8_sum_26 ct_8_135 ?_
  exact x_lreturn d_X8_sum_29 rfl rfl rfl (Nat.zero_le _) (Nat.zero_le _) (⟨rfl, rfl⟩)
theorem md_sumQ {h : nPH} {b : Nat} {M V : Nat → Nat → Nat} {P : Nat → Nat → Nat → Nat} {R : Nat → Nat → Nat → Nat → Nat} {E Y T S : Nat → Nat → Nat} (H : o8 h b M) (W : rW M V P R E Y T S) (O : kO V P R) {p : Nat} (hp : p < V 1 0) {q c : Int32} (hq : ¬ (nI 0 ≤ q ∧ q ≤ nI 1)) : nRd YX8_sum [.ref (b), .int (nI (p)), .int (q), .int (c)] h (.long (-1)) := by
  obtain ⟨p1, p2, p3, p4, p5, p6, p7, p8⟩ := rW_p W O hp
  refine nSp_of (by decide +kernel) rfl (Nat.le_of_ble_eq_true rfl) (ls := [some (.ref (b)), some (.int (nI (p))), some (.int (q)), some (.int (c))]) (by exact (And.intro rfl (And.intro rfl (And.intro rfl (And.intro rfl True.intro))))) ?_
  refine x_aload_n rfl d_X8_sum_0 ?_
  refine x_iload_n rfl d_X8_sum_1 ?_
  refine x_rdV d_X8_sum_2 lk_8_91 mo_X8_isPanel vi_X8_isPanel (sp_isPanel H p2 p1) (o8_o H) ⟨_, rfl, rfl⟩ rfl ⟨Nat.le_of_ble_eq_true rfl, Nat.le_of_ble_eq_true rfl⟩ rfl rfl (Nat.zero_le _) (Nat.zero_le _) (Nat.le_of_ble_eq_true rfl) rfl ?_
  refine x_if_eqN (tgt := 26) d_X8_sum_5 (by decide) (by omega) (fun c_1 => by exfalso; omega) (fun c_1 => ?_)
  refine x_iload_n rfl d_X8_sum_8 ?_
  refine x_if_lt (tgt := 26) d_X8_sum_9 (by decide) (fun c_a => ?_) (fun c_a => ?_)
  · refine x_ldc2 d_X8_sum_26 ct_8_135 ?_
    exact x_lreturn d_X8_sum_29 rfl rfl rfl (Nat.zero_le _) (Nat.zero_le _) (⟨rfl, rfl⟩)
  · refine x_iload_n rfl d_X8_sum_12 ?_
    refine x_iconst (v := nI 1) (by decide) d_X8_sum_13 ?_
    refine x_icmp_gt (tgt := 26) d_X8_sum_14 (by decide) (fun c_b => ?_) (fun c_b => by exfalso; exact hq ⟨Int32.not_lt.mp c_a, Int32.not_lt.mp c_b⟩)
    refine x_ldc2 d_X8_sum_26 ct_8_135 ?_
    exact x_lreturn d_X8_sum_29 rfl rfl rfl (Nat.zero_le _) (Nat.zero_le _) (⟨rfl, rfl⟩)
theorem md_sum0N {h : nPH} {b : Nat} {M V : Nat → Nat → Nat} {P : Nat → Nat → Nat → Nat} {R : Nat → Nat → Nat → Nat → Nat} {E Y T S : Nat → Nat → Nat} (H : o8 h b M) (W : rW M V P R E Y T S) (O : kO V P R) {p : Nat} (hp : p < V 1 0) {c : Int32} (hc : ¬ (nI 0 ≤ c ∧ c ≤ nI 1)) : nRd YX8_sum [.ref (b), .int (nI (p)), .int (nI (0)), .int (c)] h (.long (-1)) := by
  obtain ⟨p1, p2, p3, p4, p5, p6, p7, p8⟩ := rW_p W O hp
  refine nSp_of (by decide +kernel) rfl (Nat.le_of_ble_eq_true rfl) (ls := [some (.ref (b)), some (.int (nI (p))), some (.int (nI (0))), some (.int (c))]) (by exact (And.intro rfl (And.intro rfl (And.intro rfl (And.intro rfl True.intro))))) ?_
  refine x_aload_n rfl d_X8_sum_0 ?_
  refine x_iload_n rfl d_X8_sum_1 ?_
  refine x_rdV d_X8_sum_2 lk_8_91 mo_X8_isPanel vi_X8_isPanel (sp_isPanel H p2 p1) (o8_o H) ⟨_, rfl, rfl⟩ rfl ⟨Nat.le_of_ble_eq_true rfl, Nat.le_of_ble_eq_true rfl⟩ rfl rfl (Nat.zero_le _) (Nat.zero_le _) (Nat.le_of_ble_eq_true rfl) rfl ?_
  refine x_if_eqN (tgt := 26) d_X8_sum_5 (by decide) (by omega) (fun c_1 => by exfalso; omega) (fun c_1 => ?_)
  refine x_iload_n rfl d_X8_sum_8 ?_
  refine x_if_ltN (tgt := 26) d_X8_sum_9 (by decide) (by omega) (fun c_2 => by exfalso; omega) (fun c_2 => ?_)
  refine x_iload_n rfl d_X8_sum_12 ?_
  refine x_iconst (v := nI 1) (by decide) d_X8_sum_13 ?_
  refine x_icmp_gtN (tgt := 26) d_X8_sum_14 (by decide) (by omega) (by omega) (fun c_3 => by exfalso; omega) (fun c_3 => ?_)
  refine x_iload_n rfl d_X8_sum_17 ?_
  refine x_if_lt (tgt := 26) d_X8_sum_18 (by decide) (fun c_a => ?_) (fun c_a => ?_)
  · refine x_ldc2 d_X8_sum_26 ct_8_135 ?_
    exact x_lreturn d_X8_sum_29 rfl rfl rfl (Nat.zero_le _) (Nat.zero_le _) (⟨rfl, rfl⟩)
  · refine x_iload_n rfl d_X8_sum_21 ?_
    refine x_iconst (v := nI 1) (by decide) d_X8_sum_22 ?_
    refine x_icmp_le (tgt := 30) d_X8_sum_23 (by decide) (fun c_b => by exfalso; exact hc ⟨Int32.not_lt.mp c_a, c_b⟩) (fun c_b => ?_)
    refine x_ldc2 d_X8_sum_26 ct_8_135 ?_
    exact x_lreturn d_X8_sum_29 rfl rfl rfl (Nat.zero_le _) (Nat.zero_le _) (⟨rfl, rfl⟩)
theorem md_sum00 {h : nPH} {b : Nat} {M V : Nat → Nat → Nat} {P : Nat → Nat → Nat → Nat} {R : Nat → Nat → Nat → Nat → Nat} {E Y T S : Nat → Nat → Nat} (H : o8 h b M) (W : rW M V P R E Y T S) (O : kO V P R) {p : Nat} (hp : p < V 1 0) : nWv YX8_sum [.ref b, .int (nI p), .int (nI 0), .int (nI 0)] h (some (.long (lN ((uLo (P p 6) (R p) (P p 5 0 - 1)) / Nat.gcd (uLo (P p 6) (R p) (P p 5 0 - 1)) 609359740010496)))) (fun h2 => nFr (nIv b 24) h h2 ∧ ∃ M2, o8 h2 b M2 ∧ rW M2 V P R E Y T S) := by
  obtain ⟨p1, p2, p3, p4, p5, p6, p7, p8⟩ := rW_p W O hp
  have hb1 := uLs_le (p := P p 6) p7.2.2.2.1 (fun j hj => (p7.2.2.1 j hj).1) (P p 5 0 - 1) (by omega)
  have hb2 := uLs_0 (p := P p 6) (R := R p) p7.2.2.2.2.1 (p7.2.2.1 0 (by omega)).1
  refine nSp_of (by decide +kernel) rfl (Nat.le_of_ble_eq_true rfl) (ls := [some (.ref (b)), some (.int (nI (p))), some (.int (nI (0))), some (.int (nI (0)))]) (by exact (And.intro rfl (And.intro rfl (And.intro rfl (And.intro rfl True.intro))))) ?_
  refine x_aload_n rfl d_X8_sum_0 ?_
  refine x_iload_n rfl d_X8_sum_1 ?_
  refine x_rdV d_X8_sum_2 lk_8_91 mo_X8_isPanel vi_X8_isPanel (sp_isPanel H p2 p1) (o8_o H) ⟨_, rfl, rfl⟩ rfl ⟨Nat.le_of_ble_eq_true rfl, Nat.le_of_ble_eq_true rfl⟩ rfl rfl (Nat.zero_le _) (Nat.zero_le _) (Nat.le_of_ble_eq_true rfl) rfl ?_
  refine x_if_eqN (tgt := 26) d_X8_sum_5 (by decide) (by omega) (fun c_1 => by exfalso; omega) (fun c_1 => ?_)
  refine x_iload_n rfl d_X8_sum_8 ?_
  refine x_if_ltN (tgt := 26) d_X8_sum_9 (by decide) (by omega) (fun c_2 => by exfalso; omega) (fun c_2 => ?_)
  refine x_iload_n rfl d_X8_sum_12 ?_
  refine x_iconst (v := nI 1) (by decide) d_X8_sum_13 ?_
  refine x_icmp_gtN (tgt := 26) d_X8_sum_14 (by decide) (by omega) (by omega) (fun c_3 => by exfalso; omega) (fun c_3 => ?_)
  refine x_iload_n rfl d_X8_sum_17 ?_
  refine x_if_ltN (tgt := 26) d_X8_sum_18 (by decide) (by omega) (fun c_4 => by exfalso; omega) (fun c_4 => ?_)
  refine x_iload_n rfl d_X8_sum_21 ?_
  refine x_iconst (v := nI 1) (by decide) d_X8_sum_22 ?_
  refine x_icmp_leN (tgt := 30) d_X8_sum_23 (by decide) (by omega) (by omega) (fun c_5 => ?_) (fun c_5 => by exfalso; omega)
  refine x_aload_n rfl d_X8_sum_30 ?_
  refine x_iload_n rfl d_X8_sum_31 ?_
  refine x_wvV d_X8_sum_32 lk_8_229 mo_X8_leads vi_X8_leads (sp_mleads H W O hp) (o8_o H) ⟨_, rfl, rfl⟩ rfl ⟨Nat.le_of_ble_eq_true rfl, Nat.le_of_ble_eq_true rfl⟩ (Nat.zero_le _) (Nat.zero_le _) (Nat.le_of_ble_eq_true rfl) rfl (fun h3 hq_ e3a e3b => ?_)
  obtain ⟨F3, N, H3, J⟩ := hq_
  have W3 := rW_ld W J.1.1
  refine x_iload_n rfl d_X8_sum_35 ?_
  refine x_if_neN (tgt := 46) d_X8_sum_36 (by decide) (by omega) (fun c_6 => by exfalso; omega) (fun c_6 => ?_)
  refine x_aload_n rfl d_X8_sum_39 ?_
  refine x_getf co_all (v := .long (lN (N 38 0))) d_X8_sum_40 fk_8_222 (o8_o H3) rfl ?_
  rw [J.2.2]
  refine x_goto (tgt := 50) d_X8_sum_43 (by decide) ?_
  refine x_bipush (v := nI 19) (by decide) d_X8_sum_50 ?_
  refine x_rdS d_X8_sum_52 lk_8_225 mo_X8_sixth sc_X8_sixth (sp_sixth (r := 19) (by decide)) rfl ⟨Nat.le_of_ble_eq_true rfl, Nat.le_of_ble_eq_true rfl⟩ rfl rfl (Nat.zero_le _) (Nat.zero_le _) (Nat.le_of_ble_eq_true rfl) rfl ?_
  rw [show (6 : Nat) ^ 19 = 609359740010496 by decide]
  refine x_iload_n rfl d_X8_sum_55 ?_
  refine x_rdS d_X8_sum_56 lk_8_233 mo_X8_lowest sc_X8_lowest (sp_low0 (u := (uLo (P p 6) (R p) (P p 5 0 - 1))) (t := 609359740010496) (by omega) (by decide) (by decide)) rfl ⟨Nat.le_of_ble_eq_true rfl, Nat.le_of_ble_eq_true rfl⟩ rfl rfl (Nat.zero_le _) (Nat.zero_le _) (Nat.le_of_ble_eq_true rfl) rfl ?_
  exact x_lreturn d_X8_sum_59 rfl (F3).1 (F3).2.1 (Nat.zero_le _) (Nat.zero_le _) (⟨rfl, F3, N, H3, W3⟩)
theorem md_sum01 {h : nPH} {b : Nat} {M V : Nat → Nat → Nat} {P : Nat → Nat → Nat → Nat} {R : Nat → Nat → Nat → Nat → Nat} {E Y T S : Nat → Nat → Nat} (H : o8 h b M) (W : rW M V P R E Y T S) (O : kO V P R) {p : Nat} (hp : p < V 1 0) : nWv YX8_sum [.ref b, .int (nI p), .int (nI 0), .int (nI 1)] h (some (.long (lN (609359740010496 / Nat.gcd (uLo (P p 6) (R p) (P p 5 0 - 1)) 609359740010496)))) (fun h2 => nFr (nIv b 24) h h2 ∧ ∃ M2, o8 h2 b M2 ∧ rW M2 V P R E Y T S) := by
  obtain ⟨p1, p2, p3, p4, p5, p6, p7, p8⟩ := rW_p W O hp
  have hb1 := uLs_le (p := P p 6) p7.2.2.2.1 (fun j hj => (p7.2.2.1 j hj).1) (P p 5 0 - 1) (by omega)
  have hb2 := uLs_0 (p := P p 6) (R := R p) p7.2.2.2.2.1 (p7.2.2.1 0 (by omega)).1
  refine nSp_of (by decide +kernel) rfl (Nat.le_of_ble_eq_true rfl) (ls := [some (.ref (b)), some (.int (nI (p))), some (.int (nI (0))), some (.int (nI (1)))]) (by exact (And.intro rfl (And.intro rfl (And.intro rfl (And.intro rfl True.intro))))) ?_
  refine x_aload_n rfl d_X8_sum_0 ?_
  refine x_iload_n rfl d_X8_sum_1 ?_
  refine x_rdV d_X8_sum_2 lk_8_91 mo_X8_isPanel vi_X8_isPanel (sp_isPanel H p2 p1) (o8_o H) ⟨_, rfl, rfl⟩ rfl ⟨Nat.le_of_ble_eq_true rfl, Nat.le_of_ble_eq_true rfl⟩ rfl rfl (Nat.zero_le _) (Nat.zero_le _) (Nat.le_of_ble_eq_true rfl) rfl ?_
  refine x_if_eqN (tgt := 26) d_X8_sum_5 (by decide) (by omega) (fun c_1 => by exfalso; omega) (fun c_1 => ?_)
  refine x_iload_n rfl d_X8_sum_8 ?_
  refine x_if_ltN (tgt := 26) d_X8_sum_9 (by decide) (by omega) (fun c_2 => by exfalso; omega) (fun c_2 => ?_)
  refine x_iload_n rfl d_X8_sum_12 ?_
  refine x_iconst (v := nI 1) (by decide) d_X8_sum_13 ?_
  refine x_icmp_gtN (tgt := 26) d_X8_sum_14 (by decide) (by omega) (by omega) (fun c_3 => by exfalso; omega) (fun c_3 => ?_)
  refine x_iload_n rfl d_X8_sum_17 ?_
  refine x_if_ltN (tgt := 26) d_X8_sum_18 (by decide) (by omega) (fun c_4 => by exfalso; omega) (fun c_4 => ?_)
  refine x_iload_n rfl d_X8_sum_21 ?_
  refine x_iconst (v := nI 1) (by decide) d_X8_sum_22 ?_
  refine x_icmp_leN (tgt := 30) d_X8_sum_23 (by decide) (by omega) (by omega) (fun c_5 => ?_) (fun c_5 => by exfalso; omega)
  refine x_aload_n rfl d_X8_sum_30 ?_
  refine x_iload_n rfl d_X8_sum_31 ?_
  refine x_wvV d_X8_sum_32 lk_8_229 mo_X8_leads vi_X8_leads (sp_mleads H W O hp) (o8_o H) ⟨_, rfl, rfl⟩ rfl ⟨Nat.le_of_ble_eq_true rfl, Nat.le_of_ble_eq_true rfl⟩ (Nat.zero_le _) (Nat.zero_le _) (Nat.le_of_ble_eq_true rfl) rfl (fun h3 hq_ e3a e3b => ?_)
  obtain ⟨F3, N, H3, J⟩ := hq_
  have W3 := rW_ld W J.1.1
  refine x_iload_n rfl d_X8_sum_35 ?_
  refine x_if_neN (tgt := 46) d_X8_sum_36 (by decide) (by omega) (fun c_6 => by exfalso; omega) (fun c_6 => ?_)
  refine x_aload_n rfl d_X8_sum_39 ?_
  refine x_getf co_all (v := .long (lN (N 38 0))) d_X8_sum_40 fk_8_222 (o8_o H3) rfl ?_
  rw [J.2.2]
  refine x_goto (tgt := 50) d_X8_sum_43 (by decide) ?_
  refine x_bipush (v := nI 19) (by decide) d_X8_sum_50 ?_
  refine x_rdS d_X8_sum_52 lk_8_225 mo_X8_sixth sc_X8_sixth (sp_sixth (r := 19) (by decide)) rfl ⟨Nat.le_of_ble_eq_true rfl, Nat.le_of_ble_eq_true rfl⟩ rfl rfl (Nat.zero_le _) (Nat.zero_le _) (Nat.le_of_ble_eq_true rfl) rfl ?_
  rw [show (6 : Nat) ^ 19 = 609359740010496 by decide]
  refine x_iload_n rfl d_X8_sum_55 ?_
  refine x_rdS d_X8_sum_56 lk_8_233 mo_X8_lowest sc_X8_lowest (sp_low1 (u := (uLo (P p 6) (R p) (P p 5 0 - 1))) (t := 609359740010496) (by omega) (by decide) (by decide)) rfl ⟨Nat.le_of_ble_eq_true rfl, Nat.le_of_ble_eq_true rfl⟩ rfl rfl (Nat.zero_le _) (Nat.zero_le _) (Nat.le_of_ble_eq_true rfl) rfl ?_
  exact x_lreturn d_X8_sum_59 rfl (F3).1 (F3).2.1 (Nat.zero_le _) (Nat.zero_le _) (⟨rfl, F3, N, H3, W3⟩)
theorem md_sum0 {h : nPH} {b : Nat} {M V : Nat → Nat → Nat} {P : Nat → Nat → Nat → Nat} {R : Nat → Nat → Nat → Nat → Nat} {E Y T S : Nat → Nat → Nat} (H : o8 h b M) (W : rW M V P R E Y T S) (O : kO V P R) {p : Nat} (hp : p < V 1 0) {c : Int32} : nWv YX8_sum [.ref b, .int (nI p), .int (nI 0), .int c] h (some (.long (ldT (uLo (P p 6) (R p) (P p 5 0 - 1)) c))) (fun h2 => nFr (nIv b 24) h h2 ∧ ∃ M2, o8 h2 b M2 ∧ rW M2 V P R E Y T S) := by
  unfold ldT
  by_cases h0 : c = nI 0
  · rw [if_pos h0, h0]
    exact md_sum00 H W O hp
  · rw [if_neg h0]
    by_cases h1 : c = nI 1
    · rw [if_pos h1, h1]
      exact md_sum01 H W O hp
    · rw [if_neg h1]
      exact nSp.mono (md_sum0N H W O hp (in01x h0 h1)) (fun v h2 y => ⟨y.1, by rw [y.2]; exact nFr.rf, M, by rw [y.2]; exact H, W⟩)
theorem md_sum1N {h : nPH} {b : Nat} {M V : Nat → Nat → Nat} {P : Nat → Nat → Nat → Nat} {R : Nat → Nat → Nat → Nat → Nat} {E Y T S : Nat → Nat → Nat} (H : o8 h b M) (W : rW M V P R E Y T S) (O : kO V P R) {p : Nat} (hp : p < V 1 0) {c : Int32} (hc : ¬ (nI 0 ≤ c ∧ c ≤ nI 1)) : nRd YX8_sum [.ref (b), .int (nI (p)), .int (nI (1)), .int (c)] h (.long (-1)) := by
  obtain ⟨p1, p2, p3, p4, p5, p6, p7, p8⟩ := rW_p W O hp
  refine nSp_of (by decide +kernel) rfl (Nat.le_of_ble_eq_true rfl) (ls := [some (.ref (b)), some (.int (nI (p))), some (.int (nI (1))), some (.int (c))]) (by exact (And.intro rfl (And.intro rfl (And.intro rfl (And.intro rfl True.intro))))) ?_
  refine x_aload_n rfl d_X8_sum_0 ?_
  refine x_iload_n rfl d_X8_sum_1 ?_
  refine x_rdV d_X8_sum_2 lk_8_91 mo_X8_isPanel vi_X8_isPanel (sp_isPanel H p2 p1) (o8_o H) ⟨_, rfl, rfl⟩ rfl ⟨Nat.le_of_ble_eq_true rfl, Nat.le_of_ble_eq_true rfl⟩ rfl rfl (Nat.zero_le _) (Nat.zero_le _) (Nat.le_of_ble_eq_true rfl) rfl ?_
  refine x_if_eqN (tgt := 26) d_X8_sum_5 (by decide) (by omega) (fun c_1 => by exfalso; omega) (fun c_1 => ?_)
  refine x_iload_n rfl d_X8_sum_8 ?_
  refine x_if_ltN (tgt := 26) d_X8_sum_9 (by decide) (by omega) (fun c_2 => by exfalso; omega) (fun c_2 => ?_)
  refine x_iload_n rfl d_X8_sum_12 ?_
  refine x_iconst (v := nI 1) (by decide) d_X8_sum_13 ?_
  refine x_icmp_gtN (tgt := 26) d_X8_sum_14 (by decide) (by omega) (by omega) (fun c_3 => by exfalso; omega) (fun c_3 => ?_)
  refine x_iload_n rfl d_X8_sum_17 ?_
  refine x_if_lt (tgt := 26) d_X8_sum_18 (by decide) (fun c_a => ?_) (fun c_a => ?_)
  · refine x_ldc2 d_X8_sum_26 ct_8_135 ?_
    exact x_lreturn d_X8_sum_29 rfl rfl rfl (Nat.zero_le _) (Nat.zero_le _) (⟨rfl, rfl⟩)
  · refine x_iload_n rfl d_X8_sum_21 ?_
    refine x_iconst (v := nI 1) (by decide) d_X8_sum_22 ?_
    refine x_icmp_le (tgt := 30) d_X8_sum_23 (by decide) (fun c_b => by exfalso; exact hc ⟨Int32.not_lt.mp c_a, c_b⟩) (fun c_b => ?_)
    refine x_ldc2 d_X8_sum_26 ct_8_135 ?_
    exact x_lreturn d_X8_sum_29 rfl rfl rfl (Nat.zero_le _) (Nat.zero_le _) (⟨rfl, rfl⟩)
theorem md_sum10 {h : nPH} {b : Nat} {M V : Nat → Nat → Nat} {P : Nat → Nat → Nat → Nat} {R : Nat → Nat → Nat → Nat → Nat} {E Y T S : Nat → Nat → Nat} (H : o8 h b M) (W : rW M V P R E Y T S) (O : kO V P R) {p : Nat} (hp : p < V 1 0) : nWv YX8_sum [.ref b, .int (nI p), .int (nI 1), .int (nI 0)] h (some (.long (lN ((uLs (P p 6) (R p) (P p 5 0 - 1)) / Nat.gcd (uLs (P p 6) (R p) (P p 5 0 - 1)) 609359740010496)))) (fun h2 => nFr (nIv b 24) h h2 ∧ ∃ M2, o8 h2 b M2 ∧ rW M2 V P R E Y T S) := by
  obtain ⟨p1, p2, p3, p4, p5, p6, p7, p8⟩ := rW_p W O hp
  have hb1 := uLs_le (p := P p 6) p7.2.2.2.1 (fun j hj => (p7.2.2.1 j hj).1) (P p 5 0 - 1) (by omega)
  have hb2 := uLs_0 (p := P p 6) (R := R p) p7.2.2.2.2.1 (p7.2.2.1 0 (by omega)).1
  refine nSp_of (by decide +kernel) rfl (Nat.le_of_ble_eq_true rfl) (ls := [some (.ref (b)), some (.int (nI (p))), some (.int (nI (1))), some (.int (nI (0)))]) (by exact (And.intro rfl (And.intro rfl (And.intro rfl (And.intro rfl True.intro))))) ?_
  refine x_aload_n rfl d_X8_sum_0 ?_
  refine x_iload_n rfl d_X8_sum_1 ?_
  refine x_rdV d_X8_sum_2 lk_8_91 mo_X8_isPanel vi_X8_isPanel (sp_isPanel H p2 p1) (o8_o H) ⟨_, rfl, rfl⟩ rfl ⟨Nat.le_of_ble_eq_true rfl, Nat.le_of_ble_eq_true rfl⟩ rfl rfl (Nat.zero_le _) (Nat.zero_le _) (Nat.le_of_ble_eq_true rfl) rfl ?_
  refine x_if_eqN (tgt := 26) d_X8_sum_5 (by decide) (by omega) (fun c_1 => by exfalso; omega) (fun c_1 => ?_)
  refine x_iload_n rfl d_X8_sum_8 ?_
  refine x_if_ltN (tgt := 26) d_X8_sum_9 (by decide) (by omega) (fun c_2 => by exfalso; omega) (fun c_2 => ?_)
  refine x_iload_n rfl d_X8_sum_12 ?_
  refine x_iconst (v := nI 1) (by decide) d_X8_sum_13 ?_
  refine x_icmp_gtN (tgt := 26) d_X8_sum_14 (by decide) (by omega) (by omega) (fun c_3 => by exfalso; omega) (fun c_3 => ?_)
  refine x_iload_n rfl d_X8_sum_17 ?_
  refine x_if_ltN (tgt := 26) d_X8_sum_18 (by decide) (by omega) (fun c_4 => by exfalso; omega) (fun c_4 => ?_)
  refine x_iload_n rfl d_X8_sum_21 ?_
  refine x_iconst (v := nI 1) (by decide) d_X8_sum_22 ?_
  refine x_icmp_leN (tgt := 30) d_X8_sum_23 (by decide) (by omega) (by omega) (fun c_5 => ?_) (fun c_5 => by exfalso; omega)
  refine x_aload_n rfl d_X8_sum_30 ?_
  refine x_iload_n rfl d_X8_sum_31 ?_
  refine x_wvV d_X8_sum_32 lk_8_229 mo_X8_leads vi_X8_leads (sp_mleads H W O hp) (o8_o H) ⟨_, rfl, rfl⟩ rfl ⟨Nat.le_of_ble_eq_true rfl, Nat.le_of_ble_eq_true rfl⟩ (Nat.zero_le _) (Nat.zero_le _) (Nat.le_of_ble_eq_true rfl) rfl (fun h3 hq_ e3a e3b => ?_)
  obtain ⟨F3, N, H3, J⟩ := hq_
  have W3 := rW_ld W J.1.1
  refine x_iload_n rfl d_X8_sum_35 ?_
  refine x_if_neN (tgt := 46) d_X8_sum_36 (by decide) (by omega) (fun c_6 => ?_) (fun c_6 => by exfalso; omega)
  refine x_aload_n rfl d_X8_sum_46 ?_
  refine x_getf co_all (v := .long (lN (N 37 0))) d_X8_sum_47 fk_8_218 (o8_o H3) rfl ?_
  rw [J.2.1]
  refine x_bipush (v := nI 19) (by decide) d_X8_sum_50 ?_
  refine x_rdS d_X8_sum_52 lk_8_225 mo_X8_sixth sc_X8_sixth (sp_sixth (r := 19) (by decide)) rfl ⟨Nat.le_of_ble_eq_true rfl, Nat.le_of_ble_eq_true rfl⟩ rfl rfl (Nat.zero_le _) (Nat.zero_le _) (Nat.le_of_ble_eq_true rfl) rfl ?_
  rw [show (6 : Nat) ^ 19 = 609359740010496 by decide]
  refine x_iload_n rfl d_X8_sum_55 ?_
  refine x_rdS d_X8_sum_56 lk_8_233 mo_X8_lowest sc_X8_lowest (sp_low0 (u := (uLs (P p 6) (R p) (P p 5 0 - 1))) (t := 609359740010496) (by omega) (by decide) (by decide)) rfl ⟨Nat.le_of_ble_eq_true rfl, Nat.le_of_ble_eq_true rfl⟩ rfl rfl (Nat.zero_le _) (Nat.zero_le _) (Nat.le_of_ble_eq_true rfl) rfl ?_
  exact x_lreturn d_X8_sum_59 rfl (F3).1 (F3).2.1 (Nat.zero_le _) (Nat.zero_le _) (⟨rfl, F3, N, H3, W3⟩)
theorem md_sum11 {h : nPH} {b : Nat} {M V : Nat → Nat → Nat} {P : Nat → Nat → Nat → Nat} {R : Nat → Nat → Nat → Nat → Nat} {E Y T S : Nat → Nat → Nat} (H : o8 h b M) (W : rW M V P R E Y T S) (O : kO V P R) {p : Nat} (hp : p < V 1 0) : nWv YX8_sum [.ref b, .int (nI p), .int (nI 1), .int (nI 1)] h (some (.long (lN (609359740010496 / Nat.gcd (uLs (P p 6) (R p) (P p 5 0 - 1)) 609359740010496)))) (fun h2 => nFr (nIv b 24) h h2 ∧ ∃ M2, o8 h2 b M2 ∧ rW M2 V P R E Y T S) := by
  obtain ⟨p1, p2, p3, p4, p5, p6, p7, p8⟩ := rW_p W O hp
  have hb1 := uLs_le (p := P p 6) p7.2.2.2.1 (fun j hj => (p7.2.2.1 j hj).1) (P p 5 0 - 1) (by omega)
  have hb2 := uLs_0 (p := P p 6) (R := R p) p7.2.2.2.2.1 (p7.2.2.1 0 (by omega)).1
  refine nSp_of (by decide +kernel) rfl (Nat.le_of_ble_eq_true rfl) (ls := [some (.ref (b)), some (.int (nI (p))), some (.int (nI (1))), some (.int (nI (1)))]) (by exact (And.intro rfl (And.intro rfl (And.intro rfl (And.intro rfl True.intro))))) ?_
  refine x_aload_n rfl d_X8_sum_0 ?_
  refine x_iload_n rfl d_X8_sum_1 ?_
  refine x_rdV d_X8_sum_2 lk_8_91 mo_X8_isPanel vi_X8_isPanel (sp_isPanel H p2 p1) (o8_o H) ⟨_, rfl, rfl⟩ rfl ⟨Nat.le_of_ble_eq_true rfl, Nat.le_of_ble_eq_true rfl⟩ rfl rfl (Nat.zero_le _) (Nat.zero_le _) (Nat.le_of_ble_eq_true rfl) rfl ?_
  refine x_if_eqN (tgt := 26) d_X8_sum_5 (by decide) (by omega) (fun c_1 => by exfalso; omega) (fun c_1 => ?_)
  refine x_iload_n rfl d_X8_sum_8 ?_
  refine x_if_ltN (tgt := 26) d_X8_sum_9 (by decide) (by omega) (fun c_2 => by exfalso; omega) (fun c_2 => ?_)
  refine x_iload_n rfl d_X8_sum_12 ?_
  refine x_iconst (v := nI 1) (by decide) d_X8_sum_13 ?_
  refine x_icmp_gtN (tgt := 26) d_X8_sum_14 (by decide) (by omega) (by omega) (fun c_3 => by exfalso; omega) (fun c_3 => ?_)
  refine x_iload_n rfl d_X8_sum_17 ?_
  refine x_if_ltN (tgt := 26) d_X8_sum_18 (by decide) (by omega) (fun c_4 => by exfalso; omega) (fun c_4 => ?_)
  refine x_iload_n rfl d_X8_sum_21 ?_
  refine x_iconst (v := nI 1) (by decide) d_X8_sum_22 ?_
  refine x_icmp_leN (tgt := 30) d_X8_sum_23 (by decide) (by omega) (by omega) (fun c_5 => ?_) (fun c_5 => by exfalso; omega)
  refine x_aload_n rfl d_X8_sum_30 ?_
  refine x_iload_n rfl d_X8_sum_31 ?_
  refine x_wvV d_X8_sum_32 lk_8_229 mo_X8_leads vi_X8_leads (sp_mleads H W O hp) (o8_o H) ⟨_, rfl, rfl⟩ rfl ⟨Nat.le_of_ble_eq_true rfl, Nat.le_of_ble_eq_true rfl⟩ (Nat.zero_le _) (Nat.zero_le _) (Nat.le_of_ble_eq_true rfl) rfl (fun h3 hq_ e3a e3b => ?_)
  obtain ⟨F3, N, H3, J⟩ := hq_
  have W3 := rW_ld W J.1.1
  refine x_iload_n rfl d_X8_sum_35 ?_
  refine x_if_neN (tgt := 46) d_X8_sum_36 (by decide) (by omega) (fun c_6 => ?_) (fun c_6 => by exfalso; omega)
  refine x_aload_n rfl d_X8_sum_46 ?_
  refine x_getf co_all (v := .long (lN (N 37 0))) d_X8_sum_47 fk_8_218 (o8_o H3) rfl ?_
  rw [J.2.1]
  refine x_bipush (v := nI 19) (by decide) d_X8_sum_50 ?_
  refine x_rdS d_X8_sum_52 lk_8_225 mo_X8_sixth sc_X8_sixth (sp_sixth (r := 19) (by decide)) rfl ⟨Nat.le_of_ble_eq_true rfl, Nat.le_of_ble_eq_true rfl⟩ rfl rfl (Nat.zero_le _) (Nat.zero_le _) (Nat.le_of_ble_eq_true rfl) rfl ?_
  rw [show (6 : Nat) ^ 19 = 609359740010496 by decide]
  refine x_iload_n rfl d_X8_sum_55 ?_
  refine x_rdS d_X8_sum_56 lk_8_233 mo_X8_lowest sc_X8_lowest (sp_low1 (u := (uLs (P p 6) (R p) (P p 5 0 - 1))) (t := 609359740010496) (by omega) (by decide) (by decide)) rfl ⟨Nat.le_of_ble_eq_true rfl, Nat.le_of_ble_eq_true rfl⟩ rfl rfl (Nat.zero_le _) (Nat.zero_le _) (Nat.le_of_ble_eq_true rfl) rfl ?_
  exact x_lreturn d_X8_sum_59 rfl (F3).1 (F3).2.1 (Nat.zero_le _) (Nat.zero_le _) (⟨rfl, F3, N, H3, W3⟩)
theorem md_sum1 {h : nPH} {b : Nat} {M V : Nat → Nat → Nat} {P : Nat → Nat → Nat → Nat} {R : Nat → Nat → Nat → Nat → Nat} {E Y T S : Nat → Nat → Nat} (H : o8 h b M) (W : rW M V P R E Y T S) (O : kO V P R) {p : Nat} (hp : p < V 1 0) {c : Int32} : nWv YX8_sum [.ref b, .int (nI p), .int (nI 1), .int c] h (some (.long (ldT (uLs (P p 6) (R p) (P p 5 0 - 1)) c))) (fun h2 => nFr (nIv b 24) h h2 ∧ ∃ M2, o8 h2 b M2 ∧ rW M2 V P R E Y T S) := by
  unfold ldT
  by_cases h0 : c = nI 0
  · rw [if_pos h0, h0]
    exact md_sum10 H W O hp
  · rw [if_neg h0]
    by_cases h1 : c = nI 1
    · rw [if_pos h1, h1]
      exact md_sum11 H W O hp
    · rw [if_neg h1]
      exact nSp.mono (md_sum1N H W O hp (in01x h0 h1)) (fun v h2 y => ⟨y.1, by rw [y.2]; exact nFr.rf, M, by rw [y.2]; exact H, W⟩)
theorem md_weakP {h : nPH} {b : Nat} {M V : Nat → Nat → Nat} {P : Nat → Nat → Nat → Nat} {R : Nat → Nat → Nat → Nat → Nat} {E Y T S : Nat → Nat → Nat} (H : o8 h b M) (W : rW M V P R E Y T S) (O : kO V P R) {p : Int32} (hp : ¬ nIn p (V 1 0)) : nRd YX8_weak [.ref (b), .int (p)] h (.int (-1)) := by
  refine nSp_of (by decide +kernel) rfl (Nat.le_of_ble_eq_true rfl) (ls := [some (.ref (b)), some (.int (p)), none, none]) (by exact (And.intro rfl (And.intro rfl True.intro))) ?_
  refine x_aload_n rfl d_X8_weak_0 ?_
  refine x_iload_n rfl d_X8_weak_1 ?_
  refine x_rdV d_X8_weak_2 lk_8_91 mo_X8_isPanel vi_X8_isPanel (sp_isPanelN H (rW_n W O) (rW_x W hp)) (o8_o H) ⟨_, rfl, rfl⟩ rfl ⟨Nat.le_of_ble_eq_true rfl, Nat.le_of_ble_eq_true rfl⟩ rfl rfl (Nat.zero_le _) (Nat.zero_le _) (Nat.le_of_ble_eq_true rfl) rfl ?_
  refine x_if_neN (tgt := 10) d_X8_weak_5 (by decide) (by omega) (fun c_1 => by exfalso; omega) (fun c_1 => ?_)
  refine x_iconst (v := -1) (by decide) d_X8_weak_8 ?_
  exact x_ireturn d_X8_weak_9 rfl rfl rfl rfl (Nat.zero_le _) (Nat.zero_le _) (⟨rfl, rfl⟩)
theorem lp_wkK {h0 h : nPH} {Post : Option Value → nPH → Prop} {b : Nat} {M N V : Nat → Nat → Nat} {P : Nat → Nat → Nat → Nat} {R : Nat → Nat → Nat → Nat → Nat} {E Y T S : Nat → Nat → Nat} (H : o8 h b N) (W : rW N V P R E Y T S) (O : kO V P R) {p : Nat} (hp : p < V 1 0) (J : ldF M N (P p 6) (R p) (P p 5 0 - 1)) (F : nFr (nIv b 24) h0 h) {r : Nat} (hr : r < P p 5 0) (hno : ∀ k, k < R p r 0 0 → ¬ P p 1 0 * 609359740010496 < uLd (P p 6) (R p) r k) (kk : nG YX8_weak (nKy YX8_weak h0.1 h0.2.1 Post) 0 0 96 [some (.ref (b)), some (.int (nI (p))), some (.int (nI (r))), none] [] h) : ∀ d k : Nat, k + d = R p r 0 0 → nG YX8_weak (nKy YX8_weak h0.1 h0.2.1 Post) 0 0 29 [some (.ref (b)), some (.int (nI (p))), some (.int (nI (r))), some (.int (nI (k)))] [] h := by
  intro d
  obtain ⟨p1, p2, p3, p4, p5, p6, p7, p8⟩ := rW_p W O hp
  have ul := uLd_mm (p := P p 6) p7.2.1 p7.2.2.2.1 (fun r hr => (p7.2.2.2.2.2.2 r hr).1)
  have ub : ∀ r, r < P p 5 0 → ∀ k, k < R p r 0 0 → mLd (P p 6) (R p) r k ≤ 1462463376025190400 := fun r hr k hk => by
    have h1 := uLd_le (p := P p 6) p7.2.2.2.1 (fun j hj => (p7.2.2.1 j hj).1) p7.2.2.2.2.1 hr hk
    rw [ul r hr k hk] at h1
    exact Nat.le_trans (Nat.le_mul_of_pos_right _ (Nat.pow_pos (by decide))) h1
  have b4 := (W.2.1 p hp).1.2.2.1
  have hst := p7.2.2.2.2.2.1.2.1.2
  obtain ⟨r1, r2, r3, r4, r5, r6⟩ := rW_r W O hp hr
  induction d with
  | zero =>
    intro k hk
    refine x_iload_n rfl d_X8_weak_29 ?_
    refine x_aload_n rfl d_X8_weak_30 ?_
    refine x_getf co_all (v := .ref (b + 7)) d_X8_weak_31 fk_8_32 (o8_o H) rfl ?_
    refine x_bipush (v := nI 20) (by decide) d_X8_weak_34 ?_
    refine x_iload_n rfl d_X8_weak_36 ?_
    refine x_imulN d_X8_weak_37 ?_
    refine x_iload_n rfl d_X8_weak_38 ?_
    refine x_iaddN d_X8_weak_39 ?_
    refine x_iaload d_X8_weak_40 (o8_8 H) (nIx_nI (j := (20 * p) + r) (by omega) (by decide)) ?_
    refine x_icmp_geN (tgt := 96) d_X8_weak_41 (by decide) (by omega) (by omega) (fun c_1 => ?_) (fun c_1 => by exfalso; omega)
    exact nG.sub (by exact (And.intro rfl (And.intro rfl (And.intro rfl True.intro)))) kk
  | succ d ih =>
    intro k hk
    have hn := hno k (by omega)
    have hu := ub r hr k (by omega)
    have h6 := six_le (r := r) (by omega)
    have hwi := wk_iff (s := P p 1 0) (a := mLd (P p 6) (R p) r k) (r := r) (by omega)
    rw [← ul r hr k (by omega)] at hwi
    have hbd : P p 1 0 < 2400 → P p 1 0 * 6 ^ r ≤ 2400 * 609359740010496 := fun z => Nat.mul_le_mul (by omega) h6
    refine x_iload_n rfl d_X8_weak_29 ?_
    refine x_aload_n rfl d_X8_weak_30 ?_
    refine x_getf co_all (v := .ref (b + 7)) d_X8_weak_31 fk_8_32 (o8_o H) rfl ?_
    refine x_bipush (v := nI 20) (by decide) d_X8_weak_34 ?_
    refine x_iload_n rfl d_X8_weak_36 ?_
    refine x_imulN d_X8_weak_37 ?_
    refine x_iload_n rfl d_X8_weak_38 ?_
    refine x_iaddN d_X8_weak_39 ?_
    refine x_iaload d_X8_weak_40 (o8_8 H) (nIx_nI (j := (20 * p) + r) (by omega) (by decide)) ?_
    refine x_icmp_geN (tgt := 96) d_X8_weak_41 (by decide) (by omega) (by omega) (fun c_1 => by exfalso; omega) (fun c_1 => ?_)
    refine x_aload_n rfl d_X8_weak_44 ?_
    refine x_getf co_all (v := .ref (b + 3)) d_X8_weak_45 fk_8_20 (o8_o H) rfl ?_
    refine x_iload_n rfl d_X8_weak_48 ?_
    refine x_iaload d_X8_weak_49 (o8_4 H) (nIx_nI (j := p) (by omega) (by decide)) ?_
    rw [b4]
    refine x_sipush (v := nI 2400) (by decide) d_X8_weak_50 ?_
    refine x_icmp_geN (tgt := 90) d_X8_weak_53 (by decide) (by omega) (by omega) (fun c_s => ?_) (fun c_s => ?_)
    · refine x_iincN (m := 1) d_X8_weak_90 rfl (by decide) (Nat.le_of_ble_eq_true rfl) ?_
      refine x_goto (tgt := 29) d_X8_weak_93 (by decide) ?_
      exact ih (k + 1) (by omega)
    · refine x_aload_n rfl d_X8_weak_56 ?_
      refine x_getf co_all (v := .ref (b + 23)) d_X8_weak_57 fk_8_81 (o8_o H) rfl ?_
      refine x_bipush (v := nI 24) (by decide) d_X8_weak_60 ?_
      refine x_iload_n rfl d_X8_weak_62 ?_
      refine x_imulN d_X8_weak_63 ?_
      refine x_iload_n rfl d_X8_weak_64 ?_
      refine x_iaddN d_X8_weak_65 ?_
      refine x_laload d_X8_weak_66 (o8_36 H) (nIx_nI (j := (24 * r) + k) (by omega) (by decide)) ?_
      rw [J.1.2 r k (by omega) (by omega)]
      refine x_aload_n rfl d_X8_weak_67 ?_
      refine x_getf co_all (v := .ref (b + 3)) d_X8_weak_68 fk_8_20 (o8_o H) rfl ?_
      refine x_iload_n rfl d_X8_weak_71 ?_
      refine x_iaload d_X8_weak_72 (o8_4 H) (nIx_nI (j := p) (by omega) (by decide)) ?_
      rw [b4]
      refine x_i2lN d_X8_weak_73 (by omega) ?_
      refine x_iload_n rfl d_X8_weak_74 ?_
      refine x_rdS d_X8_weak_75 lk_8_225 mo_X8_sixth sc_X8_sixth (sp_sixth (r := r) (by omega)) rfl ⟨Nat.le_of_ble_eq_true rfl, Nat.le_of_ble_eq_true rfl⟩ rfl rfl (Nat.zero_le _) (Nat.zero_le _) (Nat.le_of_ble_eq_true rfl) rfl ?_
      refine x_lmulN d_X8_weak_78 ?_
      refine x_lcmp d_X8_weak_79 ?_
      refine x_lif_leN (tgt := 90) d_X8_weak_80 (by decide) (by first | omega | (have := hbd (by omega); omega)) (by first | omega | (have := hbd (by omega); omega)) (fun c_l => ?_) (fun c_l => by exfalso; exact hn (hwi.mpr (by omega)))
      refine x_iincN (m := 1) d_X8_weak_90 rfl (by decide) (Nat.le_of_ble_eq_true rfl) ?_
      refine x_goto (tgt := 29) d_X8_weak_93 (by decide) ?_
      exact ih (k + 1) (by omega)
theorem lp_wkM {h0 h : nPH} {Post : Option Value → nPH → Prop} {b : Nat} {M N V : Nat → Nat → Nat} {P : Nat → Nat → Nat → Nat} {R : Nat → Nat → Nat → Nat → Nat} {E Y T S : Nat → Nat → Nat} (H : o8 h b N) (W : rW N V P R E Y T S) (O : kO V P R) {p : Nat} (hp : p < V 1 0) (J : ldF M N (P p 6) (R p) (P p 5 0 - 1)) (F : nFr (nIv b 24) h0 h) {r m : Nat} (hr : r < P p 5 0) (hm : m < R p r 0 0) (hno : ∀ k, k < m → ¬ P p 1 0 * 609359740010496 < uLd (P p 6) (R p) r k) (hyes : P p 1 0 * 609359740010496 < uLd (P p 6) (R p) r m) (kk : Post (some (.int (nI (100 * r + m)))) h) : ∀ d k : Nat, k + d = m → nG YX8_weak (nKy YX8_weak h0.1 h0.2.1 Post) 0 0 29 [some (.ref (b)), some (.int (nI (p))), some (.int (nI (r))), some (.int (nI (k)))] [] h := by
  intro d
  obtain ⟨p1, p2, p3, p4, p5, p6, p7, p8⟩ := rW_p W O hp
  have ul := uLd_mm (p := P p 6) p7.2.1 p7.2.2.2.1 (fun r hr => (p7.2.2.2.2.2.2 r hr).1)
  have ub : ∀ r, r < P p 5 0 → ∀ k, k < R p r 0 0 → mLd (P p 6) (R p) r k ≤ 1462463376025190400 := fun r hr k hk => by
    have h1 := uLd_le (p := P p 6) p7.2.2.2.1 (fun j hj => (p7.2.2.1 j hj).1) p7.2.2.2.2.1 hr hk
    rw [ul r hr k hk] at h1
    exact Nat.le_trans (Nat.le_mul_of_pos_right _ (Nat.pow_pos (by decide))) h1
  have b4 := (W.2.1 p hp).1.2.2.1
  have hst := p7.2.2.2.2.2.1.2.1.2
  obtain ⟨r1, r2, r3, r4, r5, r6⟩ := rW_r W O hp hr
  have hbig := uLd_le (p := P p 6) p7.2.2.2.1 (fun j hj => (p7.2.2.1 j hj).1) p7.2.2.2.2.1 hr hm
  induction d with
  | zero =>
    intro k hk
    have ek : k = m := by omega
    subst ek
    have hu := ub r hr k (by omega)
    have h6 := six_le (r := r) (by omega)
    have hwi := wk_iff (s := P p 1 0) (a := mLd (P p 6) (R p) r k) (r := r) (by omega)
    rw [← ul r hr k (by omega)] at hwi
    have hbd : P p 1 0 < 2400 → P p 1 0 * 6 ^ r ≤ 2400 * 609359740010496 := fun z => Nat.mul_le_mul (by omega) h6
    refine x_iload_n rfl d_X8_weak_29 ?_
    refine x_aload_n rfl d_X8_weak_30 ?_
    refine x_getf co_all (v := .ref (b + 7)) d_X8_weak_31 fk_8_32 (o8_o H) rfl ?_
    refine x_bipush (v := nI 20) (by decide) d_X8_weak_34 ?_
    refine x_iload_n rfl d_X8_weak_36 ?_
    refine x_imulN d_X8_weak_37 ?_
    refine x_iload_n rfl d_X8_weak_38 ?_
    refine x_iaddN d_X8_weak_39 ?_
    refine x_iaload d_X8_weak_40 (o8_8 H) (nIx_nI (j := (20 * p) + r) (by omega) (by decide)) ?_
    refine x_icmp_geN (tgt := 96) d_X8_weak_41 (by decide) (by omega) (by omega) (fun c_1 => by exfalso; omega) (fun c_1 => ?_)
    refine x_aload_n rfl d_X8_weak_44 ?_
    refine x_getf co_all (v := .ref (b + 3)) d_X8_weak_45 fk_8_20 (o8_o H) rfl ?_
    refine x_iload_n rfl d_X8_weak_48 ?_
    refine x_iaload d_X8_weak_49 (o8_4 H) (nIx_nI (j := p) (by omega) (by decide)) ?_
    rw [b4]
    refine x_sipush (v := nI 2400) (by decide) d_X8_weak_50 ?_
    refine x_icmp_geN (tgt := 90) d_X8_weak_53 (by decide) (by omega) (by omega) (fun c_s => by exfalso; omega) (fun c_s => ?_)
    refine x_aload_n rfl d_X8_weak_56 ?_
    refine x_getf co_all (v := .ref (b + 23)) d_X8_weak_57 fk_8_81 (o8_o H) rfl ?_
    refine x_bipush (v := nI 24) (by decide) d_X8_weak_60 ?_
    refine x_iload_n rfl d_X8_weak_62 ?_
    refine x_imulN d_X8_weak_63 ?_
    refine x_iload_n rfl d_X8_weak_64 ?_
    refine x_iaddN d_X8_weak_65 ?_
    refine x_laload d_X8_weak_66 (o8_36 H) (nIx_nI (j := (24 * r) + k) (by omega) (by decide)) ?_
    rw [J.1.2 r k (by omega) (by omega)]
    refine x_aload_n rfl d_X8_weak_67 ?_
    refine x_getf co_all (v := .ref (b + 3)) d_X8_weak_68 fk_8_20 (o8_o H) rfl ?_
    refine x_iload_n rfl d_X8_weak_71 ?_
    refine x_iaload d_X8_weak_72 (o8_4 H) (nIx_nI (j := p) (by omega) (by decide)) ?_
    rw [b4]
    refine x_i2lN d_X8_weak_73 (by omega) ?_
    refine x_iload_n rfl d_X8_weak_74 ?_
    refine x_rdS d_X8_weak_75 lk_8_225 mo_X8_sixth sc_X8_sixth (sp_sixth (r := r) (by omega)) rfl ⟨Nat.le_of_ble_eq_true rfl, Nat.le_of_ble_eq_true rfl⟩ rfl rfl (Nat.zero_le _) (Nat.zero_le _) (Nat.le_of_ble_eq_true rfl) rfl ?_
    refine x_lmulN d_X8_weak_78 ?_
    refine x_lcmp d_X8_weak_79 ?_
    refine x_lif_leN (tgt := 90) d_X8_weak_80 (by decide) (by first | omega | (have := hbd (by omega); omega)) (by first | omega | (have := hbd (by omega); omega)) (fun c_l => by exfalso; have := hwi.mp hyes; omega) (fun c_l => ?_)
    refine x_bipush (v := nI 100) (by decide) d_X8_weak_83 ?_
    refine x_iload_n rfl d_X8_weak_85 ?_
    refine x_imulN d_X8_weak_86 ?_
    refine x_iload_n rfl d_X8_weak_87 ?_
    refine x_iaddN d_X8_weak_88 ?_
    exact x_ireturn d_X8_weak_89 rfl rfl F.1 F.2.1 (Nat.zero_le _) (Nat.zero_le _) (kk)
  | succ d ih =>
    intro k hk
    have hn := hno k (by omega)
    have hu := ub r hr k (by omega)
    have h6 := six_le (r := r) (by omega)
    have hwi := wk_iff (s := P p 1 0) (a := mLd (P p 6) (R p) r k) (r := r) (by omega)
    rw [← ul r hr k (by omega)] at hwi
    have hbd : P p 1 0 < 2400 → P p 1 0 * 6 ^ r ≤ 2400 * 609359740010496 := fun z => Nat.mul_le_mul (by omega) h6
    refine x_iload_n rfl d_X8_weak_29 ?_
    refine x_aload_n rfl d_X8_weak_30 ?_
    refine x_getf co_all (v := .ref (b + 7)) d_X8_weak_31 fk_8_32 (o8_o H) rfl ?_
    refine x_bipush (v := nI 20) (by decide) d_X8_weak_34 ?_
    refine x_iload_n rfl d_X8_weak_36 ?_
    refine x_imulN d_X8_weak_37 ?_
    refine x_iload_n rfl d_X8_weak_38 ?_
    refine x_iaddN d_X8_weak_39 ?_
    refine x_iaload d_X8_weak_40 (o8_8 H) (nIx_nI (j := (20 * p) + r) (by omega) (by decide)) ?_
    refine x_icmp_geN (tgt := 96) d_X8_weak_41 (by decide) (by omega) (by omega) (fun c_1 => by exfalso; omega) (fun c_1 => ?_)
    refine x_aload_n rfl d_X8_weak_44 ?_
    refine x_getf co_all (v := .ref (b + 3)) d_X8_weak_45 fk_8_20 (o8_o H) rfl ?_
    refine x_iload_n rfl d_X8_weak_48 ?_
    refine x_iaload d_X8_weak_49 (o8_4 H) (nIx_nI (j := p) (by omega) (by decide)) ?_
    rw [b4]
    refine x_sipush (v := nI 2400) (by decide) d_X8_weak_50 ?_
    refine x_icmp_geN (tgt := 90) d_X8_weak_53 (by decide) (by omega) (by omega) (fun c_s => ?_) (fun c_s => ?_)
    · refine x_iincN (m := 1) d_X8_weak_90 rfl (by decide) (Nat.le_of_ble_eq_true rfl) ?_
      refine x_goto (tgt := 29) d_X8_weak_93 (by decide) ?_
      exact ih (k + 1) (by omega)
    · refine x_aload_n rfl d_X8_weak_56 ?_
      refine x_getf co_all (v := .ref (b + 23)) d_X8_weak_57 fk_8_81 (o8_o H) rfl ?_
      refine x_bipush (v := nI 24) (by decide) d_X8_weak_60 ?_
      refine x_iload_n rfl d_X8_weak_62 ?_
      refine x_imulN d_X8_weak_63 ?_
      refine x_iload_n rfl d_X8_weak_64 ?_
      refine x_iaddN d_X8_weak_65 ?_
      refine x_laload d_X8_weak_66 (o8_36 H) (nIx_nI (j := (24 * r) + k) (by omega) (by decide)) ?_
      rw [J.1.2 r k (by omega) (by omega)]
      refine x_aload_n rfl d_X8_weak_67 ?_
      refine x_getf co_all (v := .ref (b + 3)) d_X8_weak_68 fk_8_20 (o8_o H) rfl ?_
      refine x_iload_n rfl d_X8_weak_71 ?_
      refine x_iaload d_X8_weak_72 (o8_4 H) (nIx_nI (j := p) (by omega) (by decide)) ?_
      rw [b4]
      refine x_i2lN d_X8_weak_73 (by omega) ?_
      refine x_iload_n rfl d_X8_weak_74 ?_
      refine x_rdS d_X8_weak_75 lk_8_225 mo_X8_sixth sc_X8_sixth (sp_sixth (r := r) (by omega)) rfl ⟨Nat.le_of_ble_eq_true rfl, Nat.le_of_ble_eq_true rfl⟩ rfl rfl (Nat.zero_le _) (Nat.zero_le _) (Nat.le_of_ble_eq_true rfl) rfl ?_
      refine x_lmulN d_X8_weak_78 ?_
      refine x_lcmp d_X8_weak_79 ?_
      refine x_lif_leN (tgt := 90) d_X8_weak_80 (by decide) (by first | omega | (have := hbd (by omega); omega)) (by first | omega | (have := hbd (by omega); omega)) (fun c_l => ?_) (fun c_l => by exfalso; exact hn (hwi.mpr (by omega)))
      refine x_iincN (m := 1) d_X8_weak_90 rfl (by decide) (Nat.le_of_ble_eq_true rfl) ?_
      refine x_goto (tgt := 29) d_X8_weak_93 (by decide) ?_
      exact ih (k + 1) (by omega)
theorem lp_wkN {h0 h : nPH} {Post : Option Value → nPH → Prop} {b : Nat} {M N V : Nat → Nat → Nat} {P : Nat → Nat → Nat → Nat} {R : Nat → Nat → Nat → Nat → Nat} {E Y T S : Nat → Nat → Nat} (H : o8 h b N) (W : rW N V P R E Y T S) (O : kO V P R) {p : Nat} (hp : p < V 1 0) (J : ldF M N (P p 6) (R p) (P p 5 0 - 1)) (F : nFr (nIv b 24) h0 h) (hno0 : ∀ r k, r < P p 5 0 → k < R p r 0 0 → ¬ P p 1 0 * 609359740010496 < uLd (P p 6) (R p) r k) (kk : Post (some (.int (-1))) h) : ∀ d r : Nat, r + d = P p 5 0 → nG YX8_weak (nKy YX8_weak h0.1 h0.2.1 Post) 0 0 17 [some (.ref (b)), some (.int (nI (p))), some (.int (nI (r))), none] [] h := by
  intro d
  obtain ⟨p1, p2, p3, p4, p5, p6, p7, p8⟩ := rW_p W O hp
  induction d with
  | zero =>
    intro r hr
    refine x_iload_n rfl d_X8_weak_17 ?_
    refine x_aload_n rfl d_X8_weak_18 ?_
    refine x_getf co_all (v := .ref (b + 1)) d_X8_weak_19 fk_8_13 (o8_o H) rfl ?_
    refine x_iload_n rfl d_X8_weak_22 ?_
    refine x_iaload d_X8_weak_23 (o8_2 H) (nIx_nI (j := p) (by omega) (by decide)) ?_
    refine x_icmp_geN (tgt := 102) d_X8_weak_24 (by decide) (by omega) (by omega) (fun c_1 => ?_) (fun c_1 => by exfalso; omega)
    refine x_iconst (v := -1) (by decide) d_X8_weak_102 ?_
    exact x_ireturn d_X8_weak_103 rfl rfl F.1 F.2.1 (Nat.zero_le _) (Nat.zero_le _) (kk)
  | succ d ih =>
    intro r hr
    refine x_iload_n rfl d_X8_weak_17 ?_
    refine x_aload_n rfl d_X8_weak_18 ?_
    refine x_getf co_all (v := .ref (b + 1)) d_X8_weak_19 fk_8_13 (o8_o H) rfl ?_
    refine x_iload_n rfl d_X8_weak_22 ?_
    refine x_iaload d_X8_weak_23 (o8_2 H) (nIx_nI (j := p) (by omega) (by decide)) ?_
    refine x_icmp_geN (tgt := 102) d_X8_weak_24 (by decide) (by omega) (by omega) (fun c_1 => by exfalso; omega) (fun c_1 => ?_)
    refine x_iconst (v := nI 0) (by decide) d_X8_weak_27 ?_
    refine x_istore_n d_X8_weak_28 (Nat.le_of_ble_eq_true rfl) ?_
    refine lp_wkK H W O hp J F (r := r) (by omega) (fun k hk => hno0 r k (by omega) hk) ?_ (R p r 0 0) 0 (Nat.zero_add _)
    refine x_iincN (m := 1) d_X8_weak_96 rfl (by decide) (Nat.le_of_ble_eq_true rfl) ?_
    refine x_goto (tgt := 17) d_X8_weak_99 (by decide) ?_
    exact ih (r + 1) (by omega)
theorem lp_wkY {h0 h : nPH} {Post : Option Value → nPH → Prop} {b : Nat} {M N V : Nat → Nat → Nat} {P : Nat → Nat → Nat → Nat} {R : Nat → Nat → Nat → Nat → Nat} {E Y T S : Nat → Nat → Nat} (H : o8 h b N) (W : rW N V P R E Y T S) (O : kO V P R) {p : Nat} (hp : p < V 1 0) (J : ldF M N (P p 6) (R p) (P p 5 0 - 1)) (F : nFr (nIv b 24) h0 h) {r0 m : Nat} (hr0 : r0 < P p 5 0) (hm : m < R p r0 0 0) (hno0 : ∀ r k, r < r0 → k < R p r 0 0 → ¬ P p 1 0 * 609359740010496 < uLd (P p 6) (R p) r k) (hno : ∀ k, k < m → ¬ P p 1 0 * 609359740010496 < uLd (P p 6) (R p) r0 k) (hyes : P p 1 0 * 609359740010496 < uLd (P p 6) (R p) r0 m) (kk : Post (some (.int (nI (100 * r0 + m)))) h) : ∀ d r : Nat, r + d = r0 → nG YX8_weak (nKy YX8_weak h0.1 h0.2.1 Post) 0 0 17 [some (.ref (b)), some (.int (nI (p))), some (.int (nI (r))), none] [] h := by
  intro d
  obtain ⟨p1, p2, p3, p4, p5, p6, p7, p8⟩ := rW_p W O hp
  induction d with
  | zero =>
    intro r hr
    refine x_iload_n rfl d_X8_weak_17 ?_
    refine x_aload_n rfl d_X8_weak_18 ?_
    refine x_getf co_all (v := .ref (b + 1)) d_X8_weak_19 fk_8_13 (o8_o H) rfl ?_
    refine x_iload_n rfl d_X8_weak_22 ?_
    refine x_iaload d_X8_weak_23 (o8_2 H) (nIx_nI (j := p) (by omega) (by decide)) ?_
    refine x_icmp_geN (tgt := 102) d_X8_weak_24 (by decide) (by omega) (by omega) (fun c_1 => by exfalso; omega) (fun c_1 => ?_)
    refine x_iconst (v := nI 0) (by decide) d_X8_weak_27 ?_
    refine x_istore_n d_X8_weak_28 (Nat.le_of_ble_eq_true rfl) ?_
    have e : r = r0 := by omega
    subst e
    exact lp_wkM H W O hp J F hr0 hm hno hyes kk m 0 (Nat.zero_add _)
  | succ d ih =>
    intro r hr
    refine x_iload_n rfl d_X8_weak_17 ?_
    refine x_aload_n rfl d_X8_weak_18 ?_
    refine x_getf co_all (v := .ref (b + 1)) d_X8_weak_19 fk_8_13 (o8_o H) rfl ?_
    refine x_iload_n rfl d_X8_weak_22 ?_
    refine x_iaload d_X8_weak_23 (o8_2 H) (nIx_nI (j := p) (by omega) (by decide)) ?_
    refine x_icmp_geN (tgt := 102) d_X8_weak_24 (by decide) (by omega) (by omega) (fun c_1 => by exfalso; omega) (fun c_1 => ?_)
    refine x_iconst (v := nI 0) (by decide) d_X8_weak_27 ?_
    refine x_istore_n d_X8_weak_28 (Nat.le_of_ble_eq_true rfl) ?_
    refine lp_wkK H W O hp J F (r := r) (by omega) (fun k hk => hno0 r k (by omega) hk) ?_ (R p r 0 0) 0 (Nat.zero_add _)
    refine x_iincN (m := 1) d_X8_weak_96 rfl (by decide) (Nat.le_of_ble_eq_true rfl) ?_
    refine x_goto (tgt := 17) d_X8_weak_99 (by decide) ?_
    exact ih (r + 1) (by omega)
theorem md_weakN {h : nPH} {b : Nat} {M V : Nat → Nat → Nat} {P : Nat → Nat → Nat → Nat} {R : Nat → Nat → Nat → Nat → Nat} {E Y T S : Nat → Nat → Nat} (H : o8 h b M) (W : rW M V P R E Y T S) (O : kO V P R) {p : Nat} (hp : p < V 1 0) (hno0 : ∀ r k, r < P p 5 0 → k < R p r 0 0 → ¬ P p 1 0 * 609359740010496 < uLd (P p 6) (R p) r k) : nWv YX8_weak [.ref b, .int (nI p)] h (some (.int (-1))) (fun h2 => nFr (nIv b 24) h h2 ∧ ∃ M2, o8 h2 b M2 ∧ rW M2 V P R E Y T S) := by
  obtain ⟨p1, p2, p3, p4, p5, p6, p7, p8⟩ := rW_p W O hp
  refine nSp_of (by decide +kernel) rfl (Nat.le_of_ble_eq_true rfl) (ls := [some (.ref (b)), some (.int (nI (p))), none, none]) (by exact (And.intro rfl (And.intro rfl True.intro))) ?_
  refine x_aload_n rfl d_X8_weak_0 ?_
  refine x_iload_n rfl d_X8_weak_1 ?_
  refine x_rdV d_X8_weak_2 lk_8_91 mo_X8_isPanel vi_X8_isPanel (sp_isPanel H p2 p1) (o8_o H) ⟨_, rfl, rfl⟩ rfl ⟨Nat.le_of_ble_eq_true rfl, Nat.le_of_ble_eq_true rfl⟩ rfl rfl (Nat.zero_le _) (Nat.zero_le _) (Nat.le_of_ble_eq_true rfl) rfl ?_
  refine x_if_neN (tgt := 10) d_X8_weak_5 (by decide) (by omega) (fun c_1 => ?_) (fun c_1 => by exfalso; omega)
  refine x_aload_n rfl d_X8_weak_10 ?_
  refine x_iload_n rfl d_X8_weak_11 ?_
  refine x_wvV d_X8_weak_12 lk_8_229 mo_X8_leads vi_X8_leads (sp_mleads H W O hp) (o8_o H) ⟨_, rfl, rfl⟩ rfl ⟨Nat.le_of_ble_eq_true rfl, Nat.le_of_ble_eq_true rfl⟩ (Nat.zero_le _) (Nat.zero_le _) (Nat.le_of_ble_eq_true rfl) rfl (fun h3 hq_ e3a e3b => ?_)
  obtain ⟨F3, N, H3, J⟩ := hq_
  have W3 := rW_ld W J.1.1
  refine x_iconst (v := nI 0) (by decide) d_X8_weak_15 ?_
  refine x_istore_n d_X8_weak_16 (Nat.le_of_ble_eq_true rfl) ?_
  exact nG.sub (by exact (And.intro rfl (And.intro rfl (And.intro rfl True.intro)))) (lp_wkN H3 W3 O hp J F3 hno0 ⟨rfl, F3, N, H3, W3⟩ (P p 5 0) 0 (Nat.zero_add _))
theorem md_weakY {h : nPH} {b : Nat} {M V : Nat → Nat → Nat} {P : Nat → Nat → Nat → Nat} {R : Nat → Nat → Nat → Nat → Nat} {E Y T S : Nat → Nat → Nat} (H : o8 h b M) (W : rW M V P R E Y T S) (O : kO V P R) {p : Nat} (hp : p < V 1 0) {r0 m : Nat} (hr0 : r0 < P p 5 0) (hm : m < R p r0 0 0) (hno0 : ∀ r k, r < r0 → k < R p r 0 0 → ¬ P p 1 0 * 609359740010496 < uLd (P p 6) (R p) r k) (hno : ∀ k, k < m → ¬ P p 1 0 * 609359740010496 < uLd (P p 6) (R p) r0 k) (hyes : P p 1 0 * 609359740010496 < uLd (P p 6) (R p) r0 m) : nWv YX8_weak [.ref b, .int (nI p)] h (some (.int (nI (100 * r0 + m)))) (fun h2 => nFr (nIv b 24) h h2 ∧ ∃ M2, o8 h2 b M2 ∧ rW M2 V P R E Y T S) := by
  obtain ⟨p1, p2, p3, p4, p5, p6, p7, p8⟩ := rW_p W O hp
  refine nSp_of (by decide +kernel) rfl (Nat.le_of_ble_eq_true rfl) (ls := [some (.ref (b)), some (.int (nI (p))), none, none]) (by exact (And.intro rfl (And.intro rfl True.intro))) ?_
  refine x_aload_n rfl d_X8_weak_0 ?_
  refine x_iload_n rfl d_X8_weak_1 ?_
  refine x_rdV d_X8_weak_2 lk_8_91 mo_X8_isPanel vi_X8_isPanel (sp_isPanel H p2 p1) (o8_o H) ⟨_, rfl, rfl⟩ rfl ⟨Nat.le_of_ble_eq_true rfl, Nat.le_of_ble_eq_true rfl⟩ rfl rfl (Nat.zero_le _) (Nat.zero_le _) (Nat.le_of_ble_eq_true rfl) rfl ?_
  refine x_if_neN (tgt := 10) d_X8_weak_5 (by decide) (by omega) (fun c_1 => ?_) (fun c_1 => by exfalso; omega)
  refine x_aload_n rfl d_X8_weak_10 ?_
  refine x_iload_n rfl d_X8_weak_11 ?_
  refine x_wvV d_X8_weak_12 lk_8_229 mo_X8_leads vi_X8_leads (sp_mleads H W O hp) (o8_o H) ⟨_, rfl, rfl⟩ rfl ⟨Nat.le_of_ble_eq_true rfl, Nat.le_of_ble_eq_true rfl⟩ (Nat.zero_le _) (Nat.zero_le _) (Nat.le_of_ble_eq_true rfl) rfl (fun h3 hq_ e3a e3b => ?_)
  obtain ⟨F3, N, H3, J⟩ := hq_
  have W3 := rW_ld W J.1.1
  refine x_iconst (v := nI 0) (by decide) d_X8_weak_15 ?_
  refine x_istore_n d_X8_weak_16 (Nat.le_of_ble_eq_true rfl) ?_
  exact nG.sub (by exact (And.intro rfl (And.intro rfl (And.intro rfl True.intro)))) (lp_wkY H3 W3 O hp J F3 hr0 hm hno0 hno hyes ⟨rfl, F3, N, H3, W3⟩ r0 0 (Nat.zero_add _))
