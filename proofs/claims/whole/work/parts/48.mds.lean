/-! the model: what it reads, told as the class tells it -/
theorem rW_n {M V : Nat → Nat → Nat} {P : Nat → Nat → Nat → Nat} {R : Nat → Nat → Nat → Nat → Nat} {E Y T S : Nat → Nat → Nat} (W : rW M V P R E Y T S) (O : kO V P R) : M 1 0 ≤ 12 := by rw [W.1.1]; exact O.1
theorem rW_x {M V : Nat → Nat → Nat} {P : Nat → Nat → Nat → Nat} {R : Nat → Nat → Nat → Nat → Nat} {E Y T S : Nat → Nat → Nat} (W : rW M V P R E Y T S) {p : Int32} (hp : ¬ nIn p (V 1 0)) : ¬ nIn p (M 1 0) := by rw [W.1.1]; exact hp
theorem le_V {j m : Nat} (hj : j < 2 ^ 30) (hm : m < 2 ^ 30) : (nV m ≤ nI j) ↔ m ≤ j + 1 := by
  rcases Nat.lt_or_ge m 1 with z | z
  · have e : m = 0 := by omega
    subst e
    have h2 : (nI j).toInt = j := nI_toInt (by omega)
    have : (nV 0 : Int32).toInt = -1 := by decide
    rw [Int32.le_iff_toInt_le, this, h2]
    omega
  · obtain ⟨n, rfl⟩ : ∃ n, m = n + 1 := ⟨m - 1, by omega⟩
    rw [nV_s, nI_leI (by omega) (by omega)]
    omega
theorem sp_isKnotO {h : nPH} {b : Nat} {M V : Nat → Nat → Nat} {P : Nat → Nat → Nat → Nat} {R : Nat → Nat → Nat → Nat → Nat} {E Y T S : Nat → Nat → Nat} (H : o8 h b M) (W : rW M V P R E Y T S) (O : kO V P R) {p : Nat} (hp : p < V 1 0) {r k : Int32} (hO : rOff (P p 5 0) (R p) r k) : nRd YX8_isKnot [.ref (b), .int (nI (p)), .int (r), .int (k)] h (.int (nI 0)) := by
  obtain ⟨p1, p2, p3, p4, p5, p6, p7, p8⟩ := rW_p W O hp
  by_cases hr : nIn r (M 2 p)
  · obtain ⟨r2, hr2, rfl⟩ := nIn_of hr (by omega)
    obtain ⟨r1, r2', r3, r4, r5, r6⟩ := rW_r W O hp (r := r2) (by omega)
    by_cases hk : nIn k (M 8 (20 * p + r2))
    · obtain ⟨k2, hk2, rfl⟩ := nIn_of hk (by omega)
      exact (hO r2 k2 rfl (by omega) rfl (by omega)).elim
    · exact sp_isKnotK H p2 p1 r1 p5 hk (by omega)
  · exact sp_isKnotR H p2 p1 hr p5
theorem rRw_hw {D N : Nat → Nat → Nat} (h : rRw D N) {k : Nat} (hk : k < D 0 0) (c q : Nat) : hw D c k q = hw N c k q := by
  have e1 := rRw_hg h hk q
  obtain ⟨e2, e3⟩ := rRw_go h hk q
  unfold hw
  rw [e1, e2, e3]
/-- what hangs in a knot -/
theorem rW_bl {M V : Nat → Nat → Nat} {P : Nat → Nat → Nat → Nat} {R : Nat → Nat → Nat → Nat → Nat} {E Y T S : Nat → Nat → Nat} (W : rW M V P R E Y T S) (O : kO V P R) {p r : Nat} (hp : p < V 1 0) (k c : Nat) : mbl M p r k c = if r + 1 < P p 5 0 then fb_sm (fun j => hw (R p (r + 1)) c j k) (R p (r + 1) 0 0) else 0 := by
  obtain ⟨p1, p2, p3, p4, p5, p6, p7, p8⟩ := rW_p W O hp
  unfold mbl
  rw [p4]
  by_cases e : r + 1 < P p 5 0
  · rw [if_pos e, if_pos e]
    obtain ⟨r1, r2, r3, r4, r5, r6⟩ := rW_r W O hp e
    rw [show 20 * p + r + 1 = 20 * p + (r + 1) by omega, r3]
    exact fb_sm_cong (fun j hj => (rRw_hw r6 hj c k).symm)
  · rw [if_neg e, if_neg e]
theorem hw1_gbl (D : Nat → Nat → Nat) (k n : Nat) : fb_sm (fun j => hw D 1 j k) n = gbl D k n := fb_sm_cong (fun _ _ => rfl)
theorem hw0_wbl (D : Nat → Nat → Nat) (k n : Nat) : fb_sm (fun j => hw D 0 j k) n = wbl D k n := fb_sm_cong (fun _ _ => rfl)
theorem rW_gs {M V : Nat → Nat → Nat} {P : Nat → Nat → Nat → Nat} {R : Nat → Nat → Nat → Nat → Nat} {E Y T S : Nat → Nat → Nat} (W : rW M V P R E Y T S) (O : kO V P R) {p r k : Nat} (hp : p < V 1 0) (hr : r < P p 5 0) (hk : k < R p r 0 0) : mgs M p r k = gsd (P p) (R p) r k := by
  obtain ⟨k1, k2, k3, k4, k5, k6, k7, k8, k9⟩ := rW_k W O hp hr hk
  unfold mgs gsd
  rw [rW_bl W O hp, hw1_gbl, k7]
theorem md_meshes {h : nPH} {b : Nat} {M V : Nat → Nat → Nat} {P : Nat → Nat → Nat → Nat} {R : Nat → Nat → Nat → Nat → Nat} {E Y T S : Nat → Nat → Nat} (H : o8 h b M) (W : rW M V P R E Y T S) (O : kO V P R) {p : Nat} (hp : p < V 1 0) {r : Nat} (hr : r < P p 5 0) : nRd YX8_meshes [.ref (b), .int (nI (p)), .int (nI (r))] h (.int (nI (R p r 0 0))) := by
  obtain ⟨p1, p2, p3, p4, p5, p6, p7, p8⟩ := rW_p W O hp
  obtain ⟨r1, r2, r3, r4, r5, r6⟩ := rW_r W O hp hr
  refine nSp_of (by decide +kernel) rfl (Nat.le_of_ble_eq_true rfl) (ls := [some (.ref (b)), some (.int (nI (p))), some (.int (nI (r)))]) (by exact (And.intro rfl (And.intro rfl (And.intro rfl True.intro)))) ?_
  refine x_aload_n rfl d_X8_meshes_0 ?_
  refine x_iload_n rfl d_X8_meshes_1 ?_
  refine x_iload_n rfl d_X8_meshes_2 ?_
  refine x_rdV d_X8_meshes_3 lk_8_95 mo_X8_isRow vi_X8_isRow (sp_isRow H p2 p1 r1 p5) (o8_o H) ⟨_, rfl, rfl⟩ rfl ⟨Nat.le_of_ble_eq_true rfl, Nat.le_of_ble_eq_true rfl⟩ rfl rfl (Nat.zero_le _) (Nat.zero_le _) (Nat.le_of_ble_eq_true rfl) rfl ?_
  refine x_if_eqN (tgt := 23) d_X8_meshes_6 (by decide) (by omega) (fun c_1 => by exfalso; omega) (fun c_1 => ?_)
  refine x_aload_n rfl d_X8_meshes_9 ?_
  refine x_getf co_all (v := .ref (b + 7)) d_X8_meshes_10 fk_8_32 (o8_o H) rfl ?_
  refine x_bipush (v := nI 20) (by decide) d_X8_meshes_13 ?_
  refine x_iload_n rfl d_X8_meshes_15 ?_
  refine x_imulN d_X8_meshes_16 ?_
  refine x_iload_n rfl d_X8_meshes_17 ?_
  refine x_iaddN d_X8_meshes_18 ?_
  refine x_iaload d_X8_meshes_19 (o8_8 H) (nIx_nI (j := (20 * p) + r) (by omega) (by decide)) ?_
  refine x_goto (tgt := 24) d_X8_meshes_20 (by decide) ?_
  exact x_ireturn d_X8_meshes_24 rfl rfl rfl rfl (Nat.zero_le _) (Nat.zero_le _) (⟨by rw [r3], rfl⟩)
theorem md_meshesP {h : nPH} {b : Nat} {M V : Nat → Nat → Nat} {P : Nat → Nat → Nat → Nat} {R : Nat → Nat → Nat → Nat → Nat} {E Y T S : Nat → Nat → Nat} (H : o8 h b M) (W : rW M V P R E Y T S) (O : kO V P R) {p : Int32} (hp : ¬ nIn p (V 1 0)) {r : Int32} : nRd YX8_meshes [.ref (b), .int (p), .int (r)] h (.int (-1)) := by
  refine nSp_of (by decide +kernel) rfl (Nat.le_of_ble_eq_true rfl) (ls := [some (.ref (b)), some (.int (p)), some (.int (r))]) (by exact (And.intro rfl (And.intro rfl (And.intro rfl True.intro)))) ?_
  refine x_aload_n rfl d_X8_meshes_0 ?_
  refine x_iload_n rfl d_X8_meshes_1 ?_
  refine x_iload_n rfl d_X8_meshes_2 ?_
  refine x_rdV d_X8_meshes_3 lk_8_95 mo_X8_isRow vi_X8_isRow (sp_isRowP H (rW_n W O) (rW_x W hp)) (o8_o H) ⟨_, rfl, rfl⟩ rfl ⟨Nat.le_of_ble_eq_true rfl, Nat.le_of_ble_eq_true rfl⟩ rfl rfl (Nat.zero_le _) (Nat.zero_le _) (Nat.le_of_ble_eq_true rfl) rfl ?_
  refine x_if_eqN (tgt := 23) d_X8_meshes_6 (by decide) (by omega) (fun c_1 => ?_) (fun c_1 => by exfalso; omega)
  refine x_iconst (v := -1) (by decide) d_X8_meshes_23 ?_
  exact x_ireturn d_X8_meshes_24 rfl rfl rfl rfl (Nat.zero_le _) (Nat.zero_le _) (⟨rfl, rfl⟩)
theorem md_meshesR {h : nPH} {b : Nat} {M V : Nat → Nat → Nat} {P : Nat → Nat → Nat → Nat} {R : Nat → Nat → Nat → Nat → Nat} {E Y T S : Nat → Nat → Nat} (H : o8 h b M) (W : rW M V P R E Y T S) (O : kO V P R) {p : Nat} (hp : p < V 1 0) {r : Int32} (hr : ¬ nIn r (P p 5 0)) : nRd YX8_meshes [.ref (b), .int (nI (p)), .int (r)] h (.int (-1)) := by
  obtain ⟨p1, p2, p3, p4, p5, p6, p7, p8⟩ := rW_p W O hp
  refine nSp_of (by decide +kernel) rfl (Nat.le_of_ble_eq_true rfl) (ls := [some (.ref (b)), some (.int (nI (p))), some (.int (r))]) (by exact (And.intro rfl (And.intro rfl (And.intro rfl True.intro)))) ?_
  refine x_aload_n rfl d_X8_meshes_0 ?_
  refine x_iload_n rfl d_X8_meshes_1 ?_
  refine x_iload_n rfl d_X8_meshes_2 ?_
  refine x_rdV d_X8_meshes_3 lk_8_95 mo_X8_isRow vi_X8_isRow (sp_isRowR H p2 p1 (by rw [p4]; exact hr) p5) (o8_o H) ⟨_, rfl, rfl⟩ rfl ⟨Nat.le_of_ble_eq_true rfl, Nat.le_of_ble_eq_true rfl⟩ rfl rfl (Nat.zero_le _) (Nat.zero_le _) (Nat.le_of_ble_eq_true rfl) rfl ?_
  refine x_if_eqN (tgt := 23) d_X8_meshes_6 (by decide) (by omega) (fun c_1 => ?_) (fun c_1 => by exfalso; omega)
  refine x_iconst (v := -1) (by decide) d_X8_meshes_23 ?_
  exact x_ireturn d_X8_meshes_24 rfl rfl rfl rfl (Nat.zero_le _) (Nat.zero_le _) (⟨rfl, rfl⟩)
theorem md_of_0 {h : nPH} {b : Nat} {M V : Nat → Nat → Nat} {P : Nat → Nat → Nat → Nat} {R : Nat → Nat → Nat → Nat → Nat} {E Y T S : Nat → Nat → Nat} (H : o8 h b M) (W : rW M V P R E Y T S) (O : kO V P R) {p : Nat} (hp : p < V 1 0) {r : Nat} (hr : r < P p 5 0) {k : Nat} (hk : k < R p r 0 0) : nRd YX8_of [.ref (b), .int (nI (p)), .int (nI (r)), .int (nI (k)), .int (nI (0))] h (.int (nI (R p r 1 k))) := by
  obtain ⟨p1, p2, p3, p4, p5, p6, p7, p8⟩ := rW_p W O hp
  obtain ⟨r1, r2, r3, r4, r5, r6⟩ := rW_r W O hp hr
  obtain ⟨k1, k2, k3, k4, k5, k6, k7, k8, k9⟩ := rW_k W O hp hr hk
  have k6b := ((p8.2 r r1).2 k k2).2.2.1
  have ks := (r5.2 k k2)
  refine nSp_of (by decide +kernel) rfl (Nat.le_of_ble_eq_true rfl) (ls := [some (.ref (b)), some (.int (nI (p))), some (.int (nI (r))), some (.int (nI (k))), some (.int (nI (0))), none]) (by exact (And.intro rfl (And.intro rfl (And.intro rfl (And.intro rfl (And.intro rfl True.intro)))))) ?_
  refine x_aload_n rfl d_X8_of_0 ?_
  refine x_iload_n rfl d_X8_of_1 ?_
  refine x_iload_n rfl d_X8_of_2 ?_
  refine x_iload_n rfl d_X8_of_3 ?_
  refine x_rdV d_X8_of_4 lk_8_118 mo_X8_isKnot vi_X8_isKnot (sp_isKnot H p2 p1 r1 p5 k1 (by omega)) (o8_o H) ⟨_, rfl, rfl⟩ rfl ⟨Nat.le_of_ble_eq_true rfl, Nat.le_of_ble_eq_true rfl⟩ rfl rfl (Nat.zero_le _) (Nat.zero_le _) (Nat.le_of_ble_eq_true rfl) rfl ?_
  refine x_if_neN (tgt := 12) d_X8_of_7 (by decide) (by omega) (fun c_1 => ?_) (fun c_1 => by exfalso; omega)
  refine x_iload_n rfl d_X8_of_12 ?_
  refine x_iload_n rfl d_X8_of_13 ?_
  refine x_iload_n rfl d_X8_of_14 ?_
  refine x_rdS d_X8_of_15 lk_8_99 mo_X8_at sc_X8_at (sp_at) rfl ⟨Nat.le_of_ble_eq_true rfl, Nat.le_of_ble_eq_true rfl⟩ rfl rfl (Nat.zero_le _) (Nat.zero_le _) (Nat.le_of_ble_eq_true rfl) rfl ?_
  refine x_istore d_X8_of_18 (Nat.le_of_ble_eq_true rfl) ?_
  refine x_iload rfl d_X8_of_20 ?_
  refine x_bipush (v := nI 10) (by decide) d_X8_of_22 ?_
  refine x_icmp_ltN (tgt := 60) d_X8_of_24 (by decide) (by omega) (by omega) (fun c_2 => ?_) (fun c_2 => by exfalso; omega)
  refine x_iload rfl d_X8_of_60 ?_
  refine x_tableIn (off := 42) (tgt := 104) d_X8_of_62 (by decide) (by decide) (by decide) (by decide) ?_
  refine x_aload_n rfl d_X8_of_104 ?_
  refine x_getf co_all (v := .ref (b + 9)) d_X8_of_105 fk_8_39 (o8_o H) rfl ?_
  refine x_iload rfl d_X8_of_108 ?_
  refine x_iaload d_X8_of_110 (o8_10 H) (nIx_nI (j := 24 * (20 * p + r) + k) (by omega) (by decide)) ?_
  exact x_ireturn d_X8_of_111 rfl rfl rfl rfl (Nat.zero_le _) (Nat.zero_le _) (⟨by rw [k3], rfl⟩)
theorem md_of_1 {h : nPH} {b : Nat} {M V : Nat → Nat → Nat} {P : Nat → Nat → Nat → Nat} {R : Nat → Nat → Nat → Nat → Nat} {E Y T S : Nat → Nat → Nat} (H : o8 h b M) (W : rW M V P R E Y T S) (O : kO V P R) {p : Nat} (hp : p < V 1 0) {r : Nat} (hr : r < P p 5 0) {k : Nat} (hk : k < R p r 0 0) : nRd YX8_of [.ref (b), .int (nI (p)), .int (nI (r)), .int (nI (k)), .int (nI (1))] h (.int (nI (R p r 2 k))) := by
  obtain ⟨p1, p2, p3, p4, p5, p6, p7, p8⟩ := rW_p W O hp
  obtain ⟨r1, r2, r3, r4, r5, r6⟩ := rW_r W O hp hr
  obtain ⟨k1, k2, k3, k4, k5, k6, k7, k8, k9⟩ := rW_k W O hp hr hk
  have k6b := ((p8.2 r r1).2 k k2).2.2.1
  have ks := (r5.2 k k2)
  refine nSp_of (by decide +kernel) rfl (Nat.le_of_ble_eq_true rfl) (ls := [some (.ref (b)), some (.int (nI (p))), some (.int (nI (r))), some (.int (nI (k))), some (.int (nI (1))), none]) (by exact (And.intro rfl (And.intro rfl (And.intro rfl (And.intro rfl (And.intro rfl True.intro)))))) ?_
  refine x_aload_n rfl d_X8_of_0 ?_
  refine x_iload_n rfl d_X8_of_1 ?_
  refine x_iload_n rfl d_X8_of_2 ?_
  refine x_iload_n rfl d_X8_of_3 ?_
  refine x_rdV d_X8_of_4 lk_8_118 mo_X8_isKnot vi_X8_isKnot (sp_isKnot H p2 p1 r1 p5 k1 (by omega)) (o8_o H) ⟨_, rfl, rfl⟩ rfl ⟨Nat.le_of_ble_eq_true rfl, Nat.le_of_ble_eq_true rfl⟩ rfl rfl (Nat.zero_le _) (Nat.zero_le _) (Nat.le_of_ble_eq_true rfl) rfl ?_
  refine x_if_neN (tgt := 12) d_X8_of_7 (by decide) (by omega) (fun c_1 => ?_) (fun c_1 => by exfalso; omega)
  refine x_iload_n rfl d_X8_of_12 ?_
  refine x_iload_n rfl d_X8_of_13 ?_
  refine x_iload_n rfl d_X8_of_14 ?_
  refine x_rdS d_X8_of_15 lk_8_99 mo_X8_at sc_X8_at (sp_at) rfl ⟨Nat.le_of_ble_eq_true rfl, Nat.le_of_ble_eq_true rfl⟩ rfl rfl (Nat.zero_le _) (Nat.zero_le _) (Nat.le_of_ble_eq_true rfl) rfl ?_
  refine x_istore d_X8_of_18 (Nat.le_of_ble_eq_true rfl) ?_
  refine x_iload rfl d_X8_of_20 ?_
  refine x_bipush (v := nI 10) (by decide) d_X8_of_22 ?_
  refine x_icmp_ltN (tgt := 60) d_X8_of_24 (by decide) (by omega) (by omega) (fun c_2 => ?_) (fun c_2 => by exfalso; omega)
  refine x_iload rfl d_X8_of_60 ?_
  refine x_tableIn (off := 50) (tgt := 112) d_X8_of_62 (by decide) (by decide) (by decide) (by decide) ?_
  refine x_aload_n rfl d_X8_of_112 ?_
  refine x_getf co_all (v := .ref (b + 10)) d_X8_of_113 fk_8_42 (o8_o H) rfl ?_
  refine x_iload rfl d_X8_of_116 ?_
  refine x_iaload d_X8_of_118 (o8_11 H) (nIx_nI (j := 24 * (20 * p + r) + k) (by omega) (by decide)) ?_
  exact x_ireturn d_X8_of_119 rfl rfl rfl rfl (Nat.zero_le _) (Nat.zero_le _) (⟨by rw [k4], rfl⟩)
theorem md_of_2 {h : nPH} {b : Nat} {M V : Nat → Nat → Nat} {P : Nat → Nat → Nat → Nat} {R : Nat → Nat → Nat → Nat → Nat} {E Y T S : Nat → Nat → Nat} (H : o8 h b M) (W : rW M V P R E Y T S) (O : kO V P R) {p : Nat} (hp : p < V 1 0) {r : Nat} (hr : r < P p 5 0) {k : Nat} (hk : k < R p r 0 0) : nRd YX8_of [.ref (b), .int (nI (p)), .int (nI (r)), .int (nI (k)), .int (nI (2))] h (.int (nI (R p r 5 k))) := by
  obtain ⟨p1, p2, p3, p4, p5, p6, p7, p8⟩ := rW_p W O hp
  obtain ⟨r1, r2, r3, r4, r5, r6⟩ := rW_r W O hp hr
  obtain ⟨k1, k2, k3, k4, k5, k6, k7, k8, k9⟩ := rW_k W O hp hr hk
  have k6b := ((p8.2 r r1).2 k k2).2.2.1
  have ks := (r5.2 k k2)
  refine nSp_of (by decide +kernel) rfl (Nat.le_of_ble_eq_true rfl) (ls := [some (.ref (b)), some (.int (nI (p))), some (.int (nI (r))), some (.int (nI (k))), some (.int (nI (2))), none]) (by exact (And.intro rfl (And.intro rfl (And.intro rfl (And.intro rfl (And.intro rfl True.intro)))))) ?_
  refine x_aload_n rfl d_X8_of_0 ?_
  refine x_iload_n rfl d_X8_of_1 ?_
  refine x_iload_n rfl d_X8_of_2 ?_
  refine x_iload_n rfl d_X8_of_3 ?_
  refine x_rdV d_X8_of_4 lk_8_118 mo_X8_isKnot vi_X8_isKnot (sp_isKnot H p2 p1 r1 p5 k1 (by omega)) (o8_o H) ⟨_, rfl, rfl⟩ rfl ⟨Nat.le_of_ble_eq_true rfl, Nat.le_of_ble_eq_true rfl⟩ rfl rfl (Nat.zero_le _) (Nat.zero_le _) (Nat.le_of_ble_eq_true rfl) rfl ?_
  refine x_if_neN (tgt := 12) d_X8_of_7 (by decide) (by omega) (fun c_1 => ?_) (fun c_1 => by exfalso; omega)
  refine x_iload_n rfl d_X8_of_12 ?_
  refine x_iload_n rfl d_X8_of_13 ?_
  refine x_iload_n rfl d_X8_of_14 ?_
  refine x_rdS d_X8_of_15 lk_8_99 mo_X8_at sc_X8_at (sp_at) rfl ⟨Nat.le_of_ble_eq_true rfl, Nat.le_of_ble_eq_true rfl⟩ rfl rfl (Nat.zero_le _) (Nat.zero_le _) (Nat.le_of_ble_eq_true rfl) rfl ?_
  refine x_istore d_X8_of_18 (Nat.le_of_ble_eq_true rfl) ?_
  refine x_iload rfl d_X8_of_20 ?_
  refine x_bipush (v := nI 10) (by decide) d_X8_of_22 ?_
  refine x_icmp_ltN (tgt := 60) d_X8_of_24 (by decide) (by omega) (by omega) (fun c_2 => ?_) (fun c_2 => by exfalso; omega)
  refine x_iload rfl d_X8_of_60 ?_
  refine x_tableIn (off := 58) (tgt := 120) d_X8_of_62 (by decide) (by decide) (by decide) (by decide) ?_
  refine x_aload_n rfl d_X8_of_120 ?_
  refine x_getf co_all (v := .ref (b + 12)) d_X8_of_121 fk_8_48 (o8_o H) rfl ?_
  refine x_iload rfl d_X8_of_124 ?_
  refine x_iaload d_X8_of_126 (o8_13 H) (nIx_nI (j := 24 * (20 * p + r) + k) (by omega) (by decide)) ?_
  exact x_ireturn d_X8_of_127 rfl rfl rfl rfl (Nat.zero_le _) (Nat.zero_le _) (⟨by rw [k6], rfl⟩)
theorem md_of_3 {h : nPH} {b : Nat} {M V : Nat → Nat → Nat} {P : Nat → Nat → Nat → Nat} {R : Nat → Nat → Nat → Nat → Nat} {E Y T S : Nat → Nat → Nat} (H : o8 h b M) (W : rW M V P R E Y T S) (O : kO V P R) {p : Nat} (hp : p < V 1 0) {r : Nat} (hr : r < P p 5 0) {k : Nat} (hk : k < R p r 0 0) : nRd YX8_of [.ref (b), .int (nI (p)), .int (nI (r)), .int (nI (k)), .int (nI (3))] h (.int (nI (pcn (R p r 6 k)))) := by
  obtain ⟨p1, p2, p3, p4, p5, p6, p7, p8⟩ := rW_p W O hp
  obtain ⟨r1, r2, r3, r4, r5, r6⟩ := rW_r W O hp hr
  obtain ⟨k1, k2, k3, k4, k5, k6, k7, k8, k9⟩ := rW_k W O hp hr hk
  have k6b := ((p8.2 r r1).2 k k2).2.2.1
  have ks := (r5.2 k k2)
  refine nSp_of (by decide +kernel) rfl (Nat.le_of_ble_eq_true rfl) (ls := [some (.ref (b)), some (.int (nI (p))), some (.int (nI (r))), some (.int (nI (k))), some (.int (nI (3))), none]) (by exact (And.intro rfl (And.intro rfl (And.intro rfl (And.intro rfl (And.intro rfl True.intro)))))) ?_
  refine x_aload_n rfl d_X8_of_0 ?_
  refine x_iload_n rfl d_X8_of_1 ?_
  refine x_iload_n rfl d_X8_of_2 ?_
  refine x_iload_n rfl d_X8_of_3 ?_
  refine x_rdV d_X8_of_4 lk_8_118 mo_X8_isKnot vi_X8_isKnot (sp_isKnot H p2 p1 r1 p5 k1 (by omega)) (o8_o H) ⟨_, rfl, rfl⟩ rfl ⟨Nat.le_of_ble_eq_true rfl, Nat.le_of_ble_eq_true rfl⟩ rfl rfl (Nat.zero_le _) (Nat.zero_le _) (Nat.le_of_ble_eq_true rfl) rfl ?_
  refine x_if_neN (tgt := 12) d_X8_of_7 (by decide) (by omega) (fun c_1 => ?_) (fun c_1 => by exfalso; omega)
  refine x_iload_n rfl d_X8_of_12 ?_
  refine x_iload_n rfl d_X8_of_13 ?_
  refine x_iload_n rfl d_X8_of_14 ?_
  refine x_rdS d_X8_of_15 lk_8_99 mo_X8_at sc_X8_at (sp_at) rfl ⟨Nat.le_of_ble_eq_true rfl, Nat.le_of_ble_eq_true rfl⟩ rfl rfl (Nat.zero_le _) (Nat.zero_le _) (Nat.le_of_ble_eq_true rfl) rfl ?_
  refine x_istore d_X8_of_18 (Nat.le_of_ble_eq_true rfl) ?_
  refine x_iload rfl d_X8_of_20 ?_
  refine x_bipush (v := nI 10) (by decide) d_X8_of_22 ?_
  refine x_icmp_ltN (tgt := 60) d_X8_of_24 (by decide) (by omega) (by omega) (fun c_2 => ?_) (fun c_2 => by exfalso; omega)
  refine x_iload rfl d_X8_of_60 ?_
  refine x_tableIn (off := 66) (tgt := 128) d_X8_of_62 (by decide) (by decide) (by decide) (by decide) ?_
  refine x_aload_n rfl d_X8_of_128 ?_
  refine x_getf co_all (v := .ref (b + 13)) d_X8_of_129 fk_8_51 (o8_o H) rfl ?_
  refine x_iload rfl d_X8_of_132 ?_
  refine x_iaload d_X8_of_134 (o8_14 H) (nIx_nI (j := 24 * (20 * p + r) + k) (by omega) (by decide)) ?_
  refine x_rdS d_X8_of_135 lk_8_142 mo_X8_bits sc_X8_bits (sp_mbits (g := M 14 (24 * (20 * p + r) + k)) (by omega)) rfl ⟨Nat.le_of_ble_eq_true rfl, Nat.le_of_ble_eq_true rfl⟩ rfl rfl (Nat.zero_le _) (Nat.zero_le _) (Nat.le_of_ble_eq_true rfl) rfl ?_
  exact x_ireturn d_X8_of_138 rfl rfl rfl rfl (Nat.zero_le _) (Nat.zero_le _) (⟨by rw [k7], rfl⟩)
theorem md_of_6 {h : nPH} {b : Nat} {M V : Nat → Nat → Nat} {P : Nat → Nat → Nat → Nat} {R : Nat → Nat → Nat → Nat → Nat} {E Y T S : Nat → Nat → Nat} (H : o8 h b M) (W : rW M V P R E Y T S) (O : kO V P R) {p : Nat} (hp : p < V 1 0) {r : Nat} (hr : r < P p 5 0) {k : Nat} (hk : k < R p r 0 0) : nRd YX8_of [.ref (b), .int (nI (p)), .int (nI (r)), .int (nI (k)), .int (nI (6))] h (.int (nI (gsd (P p) (R p) r k))) := by
  obtain ⟨p1, p2, p3, p4, p5, p6, p7, p8⟩ := rW_p W O hp
  obtain ⟨r1, r2, r3, r4, r5, r6⟩ := rW_r W O hp hr
  obtain ⟨k1, k2, k3, k4, k5, k6, k7, k8, k9⟩ := rW_k W O hp hr hk
  have k6b := ((p8.2 r r1).2 k k2).2.2.1
  have ks := (r5.2 k k2)
  refine nSp_of (by decide +kernel) rfl (Nat.le_of_ble_eq_true rfl) (ls := [some (.ref (b)), some (.int (nI (p))), some (.int (nI (r))), some (.int (nI (k))), some (.int (nI (6))), none]) (by exact (And.intro rfl (And.intro rfl (And.intro rfl (And.intro rfl (And.intro rfl True.intro)))))) ?_
  refine x_aload_n rfl d_X8_of_0 ?_
  refine x_iload_n rfl d_X8_of_1 ?_
  refine x_iload_n rfl d_X8_of_2 ?_
  refine x_iload_n rfl d_X8_of_3 ?_
  refine x_rdV d_X8_of_4 lk_8_118 mo_X8_isKnot vi_X8_isKnot (sp_isKnot H p2 p1 r1 p5 k1 (by omega)) (o8_o H) ⟨_, rfl, rfl⟩ rfl ⟨Nat.le_of_ble_eq_true rfl, Nat.le_of_ble_eq_true rfl⟩ rfl rfl (Nat.zero_le _) (Nat.zero_le _) (Nat.le_of_ble_eq_true rfl) rfl ?_
  refine x_if_neN (tgt := 12) d_X8_of_7 (by decide) (by omega) (fun c_1 => ?_) (fun c_1 => by exfalso; omega)
  refine x_iload_n rfl d_X8_of_12 ?_
  refine x_iload_n rfl d_X8_of_13 ?_
  refine x_iload_n rfl d_X8_of_14 ?_
  refine x_rdS d_X8_of_15 lk_8_99 mo_X8_at sc_X8_at (sp_at) rfl ⟨Nat.le_of_ble_eq_true rfl, Nat.le_of_ble_eq_true rfl⟩ rfl rfl (Nat.zero_le _) (Nat.zero_le _) (Nat.le_of_ble_eq_true rfl) rfl ?_
  refine x_istore d_X8_of_18 (Nat.le_of_ble_eq_true rfl) ?_
  refine x_iload rfl d_X8_of_20 ?_
  refine x_bipush (v := nI 10) (by decide) d_X8_of_22 ?_
  refine x_icmp_ltN (tgt := 60) d_X8_of_24 (by decide) (by omega) (by omega) (fun c_2 => ?_) (fun c_2 => by exfalso; omega)
  refine x_iload rfl d_X8_of_60 ?_
  refine x_tableIn (off := 101) (tgt := 163) d_X8_of_62 (by decide) (by decide) (by decide) (by decide) ?_
  refine x_aload_n rfl d_X8_of_163 ?_
  refine x_iload_n rfl d_X8_of_164 ?_
  refine x_iload_n rfl d_X8_of_165 ?_
  refine x_iload_n rfl d_X8_of_166 ?_
  refine x_rdV d_X8_of_167 lk_8_149 mo_X8_goneAt vi_X8_goneAt (sp_mgs H p3 r1 k2 p8) (o8_o H) ⟨_, rfl, rfl⟩ rfl ⟨Nat.le_of_ble_eq_true rfl, Nat.le_of_ble_eq_true rfl⟩ rfl rfl (Nat.zero_le _) (Nat.zero_le _) (Nat.le_of_ble_eq_true rfl) rfl ?_
  exact x_ireturn d_X8_of_170 rfl rfl rfl rfl (Nat.zero_le _) (Nat.zero_le _) (⟨by rw [← rW_gs W O hp hr hk], rfl⟩)
theorem md_of_5 {h : nPH} {b : Nat} {M V : Nat → Nat → Nat} {P : Nat → Nat → Nat → Nat} {R : Nat → Nat → Nat → Nat → Nat} {E Y T S : Nat → Nat → Nat} (H : o8 h b M) (W : rW M V P R E Y T S) (O : kO V P R) {p : Nat} (hp : p < V 1 0) {r : Nat} (hr : r < P p 5 0) {k : Nat} (hk : k < R p r 0 0) : nRd YX8_of [.ref (b), .int (nI (p)), .int (nI (r)), .int (nI (k)), .int (nI (5))] h (.int (nI (R p r 3 k))) := by
  obtain ⟨p1, p2, p3, p4, p5, p6, p7, p8⟩ := rW_p W O hp
  obtain ⟨r1, r2, r3, r4, r5, r6⟩ := rW_r W O hp hr
  obtain ⟨k1, k2, k3, k4, k5, k6, k7, k8, k9⟩ := rW_k W O hp hr hk
  have k6b := ((p8.2 r r1).2 k k2).2.2.1
  have ks := (r5.2 k k2)
  refine nSp_of (by decide +kernel) rfl (Nat.le_of_ble_eq_true rfl) (ls := [some (.ref (b)), some (.int (nI (p))), some (.int (nI (r))), some (.int (nI (k))), some (.int (nI (5))), none]) (by exact (And.intro rfl (And.intro rfl (And.intro rfl (And.intro rfl (And.intro rfl True.intro)))))) ?_
  refine x_aload_n rfl d_X8_of_0 ?_
  refine x_iload_n rfl d_X8_of_1 ?_
  refine x_iload_n rfl d_X8_of_2 ?_
  refine x_iload_n rfl d_X8_of_3 ?_
  refine x_rdV d_X8_of_4 lk_8_118 mo_X8_isKnot vi_X8_isKnot (sp_isKnot H p2 p1 r1 p5 k1 (by omega)) (o8_o H) ⟨_, rfl, rfl⟩ rfl ⟨Nat.le_of_ble_eq_true rfl, Nat.le_of_ble_eq_true rfl⟩ rfl rfl (Nat.zero_le _) (Nat.zero_le _) (Nat.le_of_ble_eq_true rfl) rfl ?_
  refine x_if_neN (tgt := 12) d_X8_of_7 (by decide) (by omega) (fun c_1 => ?_) (fun c_1 => by exfalso; omega)
  refine x_iload_n rfl d_X8_of_12 ?_
  refine x_iload_n rfl d_X8_of_13 ?_
  refine x_iload_n rfl d_X8_of_14 ?_
  refine x_rdS d_X8_of_15 lk_8_99 mo_X8_at sc_X8_at (sp_at) rfl ⟨Nat.le_of_ble_eq_true rfl, Nat.le_of_ble_eq_true rfl⟩ rfl rfl (Nat.zero_le _) (Nat.zero_le _) (Nat.le_of_ble_eq_true rfl) rfl ?_
  refine x_istore d_X8_of_18 (Nat.le_of_ble_eq_true rfl) ?_
  refine x_iload rfl d_X8_of_20 ?_
  refine x_bipush (v := nI 10) (by decide) d_X8_of_22 ?_
  refine x_icmp_ltN (tgt := 60) d_X8_of_24 (by decide) (by omega) (by omega) (fun c_2 => ?_) (fun c_2 => by exfalso; omega)
  refine x_iload rfl d_X8_of_60 ?_
  refine x_tableIn (off := 85) (tgt := 147) d_X8_of_62 (by decide) (by decide) (by decide) (by decide) ?_
  refine x_aload_n rfl d_X8_of_147 ?_
  refine x_getf co_all (v := .ref (b + 14)) d_X8_of_148 fk_8_54 (o8_o H) rfl ?_
  refine x_iload rfl d_X8_of_151 ?_
  refine x_baload d_X8_of_153 (o8_15 H) (nIx_nI (j := 24 * (20 * p + r) + k) (by omega) (by decide)) ?_
  refine x_if_eqN (tgt := 161) d_X8_of_154 (by decide) (by omega) (fun c_9 => ?_) (fun c_9 => ?_)
  · refine x_iconst (v := nI 0) (by decide) d_X8_of_161 ?_
    exact x_ireturn d_X8_of_162 rfl rfl rfl rfl (Nat.zero_le _) (Nat.zero_le _) (⟨by rw [k5, c_9], rfl⟩)
  · refine x_iconst (v := nI 1) (by decide) d_X8_of_157 ?_
    refine x_goto (tgt := 162) d_X8_of_158 (by decide) ?_
    exact x_ireturn d_X8_of_162 rfl rfl rfl rfl (Nat.zero_le _) (Nat.zero_le _) (⟨by rw [k5, show M 15 (24 * (20 * p + r) + k) = 1 by omega], rfl⟩)
theorem md_of_4 {h : nPH} {b : Nat} {M V : Nat → Nat → Nat} {P : Nat → Nat → Nat → Nat} {R : Nat → Nat → Nat → Nat → Nat} {E Y T S : Nat → Nat → Nat} (H : o8 h b M) (W : rW M V P R E Y T S) (O : kO V P R) {p : Nat} (hp : p < V 1 0) {r : Nat} (hr : r < P p 5 0) {k : Nat} (hk : k < R p r 0 0) (hs : 0 < R p r 5 k) : nRd YX8_of [.ref (b), .int (nI (p)), .int (nI (r)), .int (nI (k)), .int (nI (4))] h (.int (nI (R p r 4 k + 0))) := by
  obtain ⟨p1, p2, p3, p4, p5, p6, p7, p8⟩ := rW_p W O hp
  obtain ⟨r1, r2, r3, r4, r5, r6⟩ := rW_r W O hp hr
  obtain ⟨k1, k2, k3, k4, k5, k6, k7, k8, k9⟩ := rW_k W O hp hr hk
  refine nSp_of (by decide +kernel) rfl (Nat.le_of_ble_eq_true rfl) (ls := [some (.ref (b)), some (.int (nI (p))), some (.int (nI (r))), some (.int (nI (k))), some (.int (nI (4))), none]) (by exact (And.intro rfl (And.intro rfl (And.intro rfl (And.intro rfl (And.intro rfl True.intro)))))) ?_
  refine x_aload_n rfl d_X8_of_0 ?_
  refine x_iload_n rfl d_X8_of_1 ?_
  refine x_iload_n rfl d_X8_of_2 ?_
  refine x_iload_n rfl d_X8_of_3 ?_
  refine x_rdV d_X8_of_4 lk_8_118 mo_X8_isKnot vi_X8_isKnot (sp_isKnot H p2 p1 r1 p5 k1 (by omega)) (o8_o H) ⟨_, rfl, rfl⟩ rfl ⟨Nat.le_of_ble_eq_true rfl, Nat.le_of_ble_eq_true rfl⟩ rfl rfl (Nat.zero_le _) (Nat.zero_le _) (Nat.le_of_ble_eq_true rfl) rfl ?_
  refine x_if_neN (tgt := 12) d_X8_of_7 (by decide) (by omega) (fun c_1 => ?_) (fun c_1 => by exfalso; omega)
  refine x_iload_n rfl d_X8_of_12 ?_
  refine x_iload_n rfl d_X8_of_13 ?_
  refine x_iload_n rfl d_X8_of_14 ?_
  refine x_rdS d_X8_of_15 lk_8_99 mo_X8_at sc_X8_at (sp_at) rfl ⟨Nat.le_of_ble_eq_true rfl, Nat.le_of_ble_eq_true rfl⟩ rfl rfl (Nat.zero_le _) (Nat.zero_le _) (Nat.le_of_ble_eq_true rfl) rfl ?_
  refine x_istore d_X8_of_18 (Nat.le_of_ble_eq_true rfl) ?_
  refine x_iload rfl d_X8_of_20 ?_
  refine x_bipush (v := nI 10) (by decide) d_X8_of_22 ?_
  refine x_icmp_ltN (tgt := 60) d_X8_of_24 (by decide) (by omega) (by omega) (fun c_2 => ?_) (fun c_2 => by exfalso; omega)
  refine x_iload rfl d_X8_of_60 ?_
  refine x_tableIn (off := 77) (tgt := 139) d_X8_of_62 (by decide) (by decide) (by decide) (by decide) ?_
  refine x_aload_n rfl d_X8_of_139 ?_
  refine x_getf co_all (v := .ref (b + 11)) d_X8_of_140 fk_8_45 (o8_o H) rfl ?_
  refine x_iload rfl d_X8_of_143 ?_
  refine x_iaload d_X8_of_145 (o8_12 H) (nIx_nI (j := 24 * (20 * p + r) + k) (by omega) (by decide)) ?_
  exact x_ireturn d_X8_of_146 rfl rfl rfl rfl (Nat.zero_le _) (Nat.zero_le _) (⟨by rw [k8 (by omega), nV_s, Nat.add_zero], rfl⟩)
theorem md_of_4N {h : nPH} {b : Nat} {M V : Nat → Nat → Nat} {P : Nat → Nat → Nat → Nat} {R : Nat → Nat → Nat → Nat → Nat} {E Y T S : Nat → Nat → Nat} (H : o8 h b M) (W : rW M V P R E Y T S) (O : kO V P R) {p : Nat} (hp : p < V 1 0) {r : Nat} (hr : r < P p 5 0) {k : Nat} (hk : k < R p r 0 0) (hs : R p r 5 k = 0) : nRd YX8_of [.ref (b), .int (nI (p)), .int (nI (r)), .int (nI (k)), .int (nI (4))] h (.int (-1)) := by
  obtain ⟨p1, p2, p3, p4, p5, p6, p7, p8⟩ := rW_p W O hp
  obtain ⟨r1, r2, r3, r4, r5, r6⟩ := rW_r W O hp hr
  obtain ⟨k1, k2, k3, k4, k5, k6, k7, k8, k9⟩ := rW_k W O hp hr hk
  refine nSp_of (by decide +kernel) rfl (Nat.le_of_ble_eq_true rfl) (ls := [some (.ref (b)), some (.int (nI (p))), some (.int (nI (r))), some (.int (nI (k))), some (.int (nI (4))), none]) (by exact (And.intro rfl (And.intro rfl (And.intro rfl (And.intro rfl (And.intro rfl True.intro)))))) ?_
  refine x_aload_n rfl d_X8_of_0 ?_
  refine x_iload_n rfl d_X8_of_1 ?_
  refine x_iload_n rfl d_X8_of_2 ?_
  refine x_iload_n rfl d_X8_of_3 ?_
  refine x_rdV d_X8_of_4 lk_8_118 mo_X8_isKnot vi_X8_isKnot (sp_isKnot H p2 p1 r1 p5 k1 (by omega)) (o8_o H) ⟨_, rfl, rfl⟩ rfl ⟨Nat.le_of_ble_eq_true rfl, Nat.le_of_ble_eq_true rfl⟩ rfl rfl (Nat.zero_le _) (Nat.zero_le _) (Nat.le_of_ble_eq_true rfl) rfl ?_
  refine x_if_neN (tgt := 12) d_X8_of_7 (by decide) (by omega) (fun c_1 => ?_) (fun c_1 => by exfalso; omega)
  refine x_iload_n rfl d_X8_of_12 ?_
  refine x_iload_n rfl d_X8_of_13 ?_
  refine x_iload_n rfl d_X8_of_14 ?_
  refine x_rdS d_X8_of_15 lk_8_99 mo_X8_at sc_X8_at (sp_at) rfl ⟨Nat.le_of_ble_eq_true rfl, Nat.le_of_ble_eq_true rfl⟩ rfl rfl (Nat.zero_le _) (Nat.zero_le _) (Nat.le_of_ble_eq_true rfl) rfl ?_
  refine x_istore d_X8_of_18 (Nat.le_of_ble_eq_true rfl) ?_
  refine x_iload rfl d_X8_of_20 ?_
  refine x_bipush (v := nI 10) (by decide) d_X8_of_22 ?_
  refine x_icmp_ltN (tgt := 60) d_X8_of_24 (by decide) (by omega) (by omega) (fun c_2 => ?_) (fun c_2 => by exfalso; omega)
  refine x_iload rfl d_X8_of_60 ?_
  refine x_tableIn (off := 77) (tgt := 139) d_X8_of_62 (by decide) (by decide) (by decide) (by decide) ?_
  refine x_aload_n rfl d_X8_of_139 ?_
  refine x_getf co_all (v := .ref (b + 11)) d_X8_of_140 fk_8_45 (o8_o H) rfl ?_
  refine x_iload rfl d_X8_of_143 ?_
  refine x_iaload d_X8_of_145 (o8_12 H) (nIx_nI (j := 24 * (20 * p + r) + k) (by omega) (by decide)) ?_
  exact x_ireturn d_X8_of_146 rfl rfl rfl rfl (Nat.zero_le _) (Nat.zero_le _) (⟨by rw [k9 hs, nV_0], rfl⟩)
theorem md_of_s {h : nPH} {b : Nat} {M V : Nat → Nat → Nat} {P : Nat → Nat → Nat → Nat} {R : Nat → Nat → Nat → Nat → Nat} {E Y T S : Nat → Nat → Nat} (H : o8 h b M) (W : rW M V P R E Y T S) (O : kO V P R) {p : Nat} (hp : p < V 1 0) {r : Nat} (hr : r < P p 5 0) {k : Nat} (hk : k < R p r 0 0) {c : Nat} (hc : 10 ≤ c) (hc2 : c < 2 ^ 31) (hs : c - 10 < R p r 5 k) : nRd YX8_of [.ref (b), .int (nI (p)), .int (nI (r)), .int (nI (k)), .int (nI (c))] h (.int (nI (R p r 4 k + (c - 10)))) := by
  obtain ⟨p1, p2, p3, p4, p5, p6, p7, p8⟩ := rW_p W O hp
  obtain ⟨r1, r2, r3, r4, r5, r6⟩ := rW_r W O hp hr
  obtain ⟨k1, k2, k3, k4, k5, k6, k7, k8, k9⟩ := rW_k W O hp hr hk
  have k6b := ((p8.2 r r1).2 k k2).2.2.1
  have ks := (r5.2 k k2)
  refine nSp_of (by decide +kernel) rfl (Nat.le_of_ble_eq_true rfl) (ls := [some (.ref (b)), some (.int (nI (p))), some (.int (nI (r))), some (.int (nI (k))), some (.int (nI (c))), none]) (by exact (And.intro rfl (And.intro rfl (And.intro rfl (And.intro rfl (And.intro rfl True.intro)))))) ?_
  refine x_aload_n rfl d_X8_of_0 ?_
  refine x_iload_n rfl d_X8_of_1 ?_
  refine x_iload_n rfl d_X8_of_2 ?_
  refine x_iload_n rfl d_X8_of_3 ?_
  refine x_rdV d_X8_of_4 lk_8_118 mo_X8_isKnot vi_X8_isKnot (sp_isKnot H p2 p1 r1 p5 k1 (by omega)) (o8_o H) ⟨_, rfl, rfl⟩ rfl ⟨Nat.le_of_ble_eq_true rfl, Nat.le_of_ble_eq_true rfl⟩ rfl rfl (Nat.zero_le _) (Nat.zero_le _) (Nat.le_of_ble_eq_true rfl) rfl ?_
  refine x_if_neN (tgt := 12) d_X8_of_7 (by decide) (by omega) (fun c_1 => ?_) (fun c_1 => by exfalso; omega)
  refine x_iload_n rfl d_X8_of_12 ?_
  refine x_iload_n rfl d_X8_of_13 ?_
  refine x_iload_n rfl d_X8_of_14 ?_
  refine x_rdS d_X8_of_15 lk_8_99 mo_X8_at sc_X8_at (sp_at) rfl ⟨Nat.le_of_ble_eq_true rfl, Nat.le_of_ble_eq_true rfl⟩ rfl rfl (Nat.zero_le _) (Nat.zero_le _) (Nat.le_of_ble_eq_true rfl) rfl ?_
  refine x_istore d_X8_of_18 (Nat.le_of_ble_eq_true rfl) ?_
  refine x_iload rfl d_X8_of_20 ?_
  refine x_bipush (v := nI 10) (by decide) d_X8_of_22 ?_
  refine x_icmp_ltN (tgt := 60) d_X8_of_24 (by decide) (by omega) (by omega) (fun c_2 => by exfalso; omega) (fun c_2 => ?_)
  refine x_iload rfl d_X8_of_27 ?_
  refine x_bipush (v := nI 10) (by decide) d_X8_of_29 ?_
  refine x_isubN d_X8_of_31 (by omega) ?_
  refine x_aload_n rfl d_X8_of_32 ?_
  refine x_getf co_all (v := .ref (b + 12)) d_X8_of_33 fk_8_48 (o8_o H) rfl ?_
  refine x_iload rfl d_X8_of_36 ?_
  refine x_iaload d_X8_of_38 (o8_13 H) (nIx_nI (j := 24 * (20 * p + r) + k) (by omega) (by decide)) ?_
  refine x_icmp_geN (tgt := 58) d_X8_of_39 (by decide) (by omega) (by omega) (fun c_3 => by exfalso; omega) (fun c_3 => ?_)
  refine x_aload_n rfl d_X8_of_42 ?_
  refine x_getf co_all (v := .ref (b + 11)) d_X8_of_43 fk_8_45 (o8_o H) rfl ?_
  refine x_iload rfl d_X8_of_46 ?_
  refine x_iaload d_X8_of_48 (o8_12 H) (nIx_nI (j := 24 * (20 * p + r) + k) (by omega) (by decide)) ?_
  rw [k8 (by omega), nV_s]
  refine x_iload rfl d_X8_of_49 ?_
  refine x_iaddN d_X8_of_51 ?_
  refine x_bipush (v := nI 10) (by decide) d_X8_of_52 ?_
  refine x_isubN d_X8_of_54 (by omega) ?_
  refine x_goto (tgt := 59) d_X8_of_55 (by decide) ?_
  exact x_ireturn d_X8_of_59 rfl rfl rfl rfl (Nat.zero_le _) (Nat.zero_le _) (⟨congrArg (fun n => some (Value.int (nI n))) (by omega), rfl⟩)
theorem md_of_sN {h : nPH} {b : Nat} {M V : Nat → Nat → Nat} {P : Nat → Nat → Nat → Nat} {R : Nat → Nat → Nat → Nat → Nat} {E Y T S : Nat → Nat → Nat} (H : o8 h b M) (W : rW M V P R E Y T S) (O : kO V P R) {p : Nat} (hp : p < V 1 0) {r : Nat} (hr : r < P p 5 0) {k : Nat} (hk : k < R p r 0 0) {c : Nat} (hc : 10 ≤ c) (hc2 : c < 2 ^ 31) (hs : R p r 5 k ≤ c - 10) : nRd YX8_of [.ref (b), .int (nI (p)), .int (nI (r)), .int (nI (k)), .int (nI (c))] h (.int (-1)) := by
  obtain ⟨p1, p2, p3, p4, p5, p6, p7, p8⟩ := rW_p W O hp
  obtain ⟨r1, r2, r3, r4, r5, r6⟩ := rW_r W O hp hr
  obtain ⟨k1, k2, k3, k4, k5, k6, k7, k8, k9⟩ := rW_k W O hp hr hk
  have k6b := ((p8.2 r r1).2 k k2).2.2.1
  have ks := (r5.2 k k2)
  refine nSp_of (by decide +kernel) rfl (Nat.le_of_ble_eq_true rfl) (ls := [some (.ref (b)), some (.int (nI (p))), some (.int (nI (r))), some (.int (nI (k))), some (.int (nI (c))), none]) (by exact (And.intro rfl (And.intro rfl (And.intro rfl (And.intro rfl (And.intro rfl True.intro)))))) ?_
  refine x_aload_n rfl d_X8_of_0 ?_
  refine x_iload_n rfl d_X8_of_1 ?_
  refine x_iload_n rfl d_X8_of_2 ?_
  refine x_iload_n rfl d_X8_of_3 ?_
  refine x_rdV d_X8_of_4 lk_8_118 mo_X8_isKnot vi_X8_isKnot (sp_isKnot H p2 p1 r1 p5 k1 (by omega)) (o8_o H) ⟨_, rfl, rfl⟩ rfl ⟨Nat.le_of_ble_eq_true rfl, Nat.le_of_ble_eq_true rfl⟩ rfl rfl (Nat.zero_le _) (Nat.zero_le _) (Nat.le_of_ble_eq_true rfl) rfl ?_
  refine x_if_neN (tgt := 12) d_X8_of_7 (by decide) (by omega) (fun c_1 => ?_) (fun c_1 => by exfalso; omega)
  refine x_iload_n rfl d_X8_of_12 ?_
  refine x_iload_n rfl d_X8_of_13 ?_
  refine x_iload_n rfl d_X8_of_14 ?_
  refine x_rdS d_X8_of_15 lk_8_99 mo_X8_at sc_X8_at (sp_at) rfl ⟨Nat.le_of_ble_eq_true rfl, Nat.le_of_ble_eq_true rfl⟩ rfl rfl (Nat.zero_le _) (Nat.zero_le _) (Nat.le_of_ble_eq_true rfl) rfl ?_
  refine x_istore d_X8_of_18 (Nat.le_of_ble_eq_true rfl) ?_
  refine x_iload rfl d_X8_of_20 ?_
  refine x_bipush (v := nI 10) (by decide) d_X8_of_22 ?_
  refine x_icmp_ltN (tgt := 60) d_X8_of_24 (by decide) (by omega) (by omega) (fun c_2 => by exfalso; omega) (fun c_2 => ?_)
  refine x_iload rfl d_X8_of_27 ?_
  refine x_bipush (v := nI 10) (by decide) d_X8_of_29 ?_
  refine x_isubN d_X8_of_31 (by omega) ?_
  refine x_aload_n rfl d_X8_of_32 ?_
  refine x_getf co_all (v := .ref (b + 12)) d_X8_of_33 fk_8_48 (o8_o H) rfl ?_
  refine x_iload rfl d_X8_of_36 ?_
  refine x_iaload d_X8_of_38 (o8_13 H) (nIx_nI (j := 24 * (20 * p + r) + k) (by omega) (by decide)) ?_
  refine x_icmp_geN (tgt := 58) d_X8_of_39 (by decide) (by omega) (by omega) (fun c_3 => ?_) (fun c_3 => by exfalso; omega)
  refine x_iconst (v := -1) (by decide) d_X8_of_58 ?_
  exact x_ireturn d_X8_of_59 rfl rfl rfl rfl (Nat.zero_le _) (Nat.zero_le _) (⟨rfl, rfl⟩)
theorem md_of_n {h : nPH} {b : Nat} {M V : Nat → Nat → Nat} {P : Nat → Nat → Nat → Nat} {R : Nat → Nat → Nat → Nat → Nat} {E Y T S : Nat → Nat → Nat} (H : o8 h b M) (W : rW M V P R E Y T S) (O : kO V P R) {p : Nat} (hp : p < V 1 0) {r : Nat} (hr : r < P p 5 0) {k : Nat} (hk : k < R p r 0 0) {c : Int32} (hq : c.toInt < 0 ∨ 6 < c.toInt) (hc : ¬ nI 10 ≤ c) : nRd YX8_of [.ref (b), .int (nI (p)), .int (nI (r)), .int (nI (k)), .int (c)] h (.int (-1)) := by
  obtain ⟨p1, p2, p3, p4, p5, p6, p7, p8⟩ := rW_p W O hp
  obtain ⟨r1, r2, r3, r4, r5, r6⟩ := rW_r W O hp hr
  obtain ⟨k1, k2, k3, k4, k5, k6, k7, k8, k9⟩ := rW_k W O hp hr hk
  refine nSp_of (by decide +kernel) rfl (Nat.le_of_ble_eq_true rfl) (ls := [some (.ref (b)), some (.int (nI (p))), some (.int (nI (r))), some (.int (nI (k))), some (.int (c)), none]) (by exact (And.intro rfl (And.intro rfl (And.intro rfl (And.intro rfl (And.intro rfl True.intro)))))) ?_
  refine x_aload_n rfl d_X8_of_0 ?_
  refine x_iload_n rfl d_X8_of_1 ?_
  refine x_iload_n rfl d_X8_of_2 ?_
  refine x_iload_n rfl d_X8_of_3 ?_
  refine x_rdV d_X8_of_4 lk_8_118 mo_X8_isKnot vi_X8_isKnot (sp_isKnot H p2 p1 r1 p5 k1 (by omega)) (o8_o H) ⟨_, rfl, rfl⟩ rfl ⟨Nat.le_of_ble_eq_true rfl, Nat.le_of_ble_eq_true rfl⟩ rfl rfl (Nat.zero_le _) (Nat.zero_le _) (Nat.le_of_ble_eq_true rfl) rfl ?_
  refine x_if_neN (tgt := 12) d_X8_of_7 (by decide) (by omega) (fun c_1 => ?_) (fun c_1 => by exfalso; omega)
  refine x_iload_n rfl d_X8_of_12 ?_
  refine x_iload_n rfl d_X8_of_13 ?_
  refine x_iload_n rfl d_X8_of_14 ?_
  refine x_rdS d_X8_of_15 lk_8_99 mo_X8_at sc_X8_at (sp_at) rfl ⟨Nat.le_of_ble_eq_true rfl, Nat.le_of_ble_eq_true rfl⟩ rfl rfl (Nat.zero_le _) (Nat.zero_le _) (Nat.le_of_ble_eq_true rfl) rfl ?_
  refine x_istore d_X8_of_18 (Nat.le_of_ble_eq_true rfl) ?_
  refine x_iload rfl d_X8_of_20 ?_
  refine x_bipush (v := nI 10) (by decide) d_X8_of_22 ?_
  refine x_icmp_lt (tgt := 60) d_X8_of_24 (by decide) (fun c_2 => ?_) (fun c_2 => by exfalso; exact hc (Int32.not_lt.mp c_2))
  refine x_iload rfl d_X8_of_60 ?_
  refine x_tableOut (tgt := 171) d_X8_of_62 hq (by decide) ?_
  refine x_iconst (v := -1) (by decide) d_X8_of_171 ?_
  exact x_ireturn d_X8_of_172 rfl rfl rfl rfl (Nat.zero_le _) (Nat.zero_le _) (⟨rfl, rfl⟩)
theorem md_ofP {h : nPH} {b : Nat} {M V : Nat → Nat → Nat} {P : Nat → Nat → Nat → Nat} {R : Nat → Nat → Nat → Nat → Nat} {E Y T S : Nat → Nat → Nat} (H : o8 h b M) (W : rW M V P R E Y T S) (O : kO V P R) {p : Int32} (hp : ¬ nIn p (V 1 0)) {r k c : Int32} : nRd YX8_of [.ref (b), .int (p), .int (r), .int (k), .int (c)] h (.int (-1)) := by
  refine nSp_of (by decide +kernel) rfl (Nat.le_of_ble_eq_true rfl) (ls := [some (.ref (b)), some (.int (p)), some (.int (r)), some (.int (k)), some (.int (c)), none]) (by exact (And.intro rfl (And.intro rfl (And.intro rfl (And.intro rfl (And.intro rfl True.intro)))))) ?_
  refine x_aload_n rfl d_X8_of_0 ?_
  refine x_iload_n rfl d_X8_of_1 ?_
  refine x_iload_n rfl d_X8_of_2 ?_
  refine x_iload_n rfl d_X8_of_3 ?_
  refine x_rdV d_X8_of_4 lk_8_118 mo_X8_isKnot vi_X8_isKnot (sp_isKnotP H (rW_n W O) (rW_x W hp)) (o8_o H) ⟨_, rfl, rfl⟩ rfl ⟨Nat.le_of_ble_eq_true rfl, Nat.le_of_ble_eq_true rfl⟩ rfl rfl (Nat.zero_le _) (Nat.zero_le _) (Nat.le_of_ble_eq_true rfl) rfl ?_
  refine x_if_neN (tgt := 12) d_X8_of_7 (by decide) (by omega) (fun c_1 => by exfalso; omega) (fun c_1 => ?_)
  refine x_iconst (v := -1) (by decide) d_X8_of_10 ?_
  exact x_ireturn d_X8_of_11 rfl rfl rfl rfl (Nat.zero_le _) (Nat.zero_le _) (⟨rfl, rfl⟩)
theorem md_ofO {h : nPH} {b : Nat} {M V : Nat → Nat → Nat} {P : Nat → Nat → Nat → Nat} {R : Nat → Nat → Nat → Nat → Nat} {E Y T S : Nat → Nat → Nat} (H : o8 h b M) (W : rW M V P R E Y T S) (O : kO V P R) {p : Nat} (hp : p < V 1 0) {r k : Int32} (hO : rOff (P p 5 0) (R p) r k) {c : Int32} : nRd YX8_of [.ref (b), .int (nI (p)), .int (r), .int (k), .int (c)] h (.int (-1)) := by
  obtain ⟨p1, p2, p3, p4, p5, p6, p7, p8⟩ := rW_p W O hp
  refine nSp_of (by decide +kernel) rfl (Nat.le_of_ble_eq_true rfl) (ls := [some (.ref (b)), some (.int (nI (p))), some (.int (r)), some (.int (k)), some (.int (c)), none]) (by exact (And.intro rfl (And.intro rfl (And.intro rfl (And.intro rfl (And.intro rfl True.intro)))))) ?_
  refine x_aload_n rfl d_X8_of_0 ?_
  refine x_iload_n rfl d_X8_of_1 ?_
  refine x_iload_n rfl d_X8_of_2 ?_
  refine x_iload_n rfl d_X8_of_3 ?_
  refine x_rdV d_X8_of_4 lk_8_118 mo_X8_isKnot vi_X8_isKnot (sp_isKnotO H W O hp hO) (o8_o H) ⟨_, rfl, rfl⟩ rfl ⟨Nat.le_of_ble_eq_true rfl, Nat.le_of_ble_eq_true rfl⟩ rfl rfl (Nat.zero_le _) (Nat.zero_le _) (Nat.le_of_ble_eq_true rfl) rfl ?_
  refine x_if_neN (tgt := 12) d_X8_of_7 (by decide) (by omega) (fun c_1 => by exfalso; omega) (fun c_1 => ?_)
  refine x_iconst (v := -1) (by decide) d_X8_of_10 ?_
  exact x_ireturn d_X8_of_11 rfl rfl rfl rfl (Nat.zero_le _) (Nat.zero_le _) (⟨rfl, rfl⟩)
theorem md_count_0 {h : nPH} {b : Nat} {M V : Nat → Nat → Nat} {P : Nat → Nat → Nat → Nat} {R : Nat → Nat → Nat → Nat → Nat} {E Y T S : Nat → Nat → Nat} (H : o8 h b M) (W : rW M V P R E Y T S) (O : kO V P R) : nRd YX8_count [.ref (b), .int (nI (0))] h (.int (nI (V 1 0))) := by
  refine nSp_of (by decide +kernel) rfl (Nat.le_of_ble_eq_true rfl) (ls := [some (.ref (b)), some (.int (nI (0)))]) (by exact (And.intro rfl (And.intro rfl True.intro))) ?_
  refine x_iload_n rfl d_X8_count_0 ?_
  refine x_if_neN (tgt := 11) d_X8_count_1 (by decide) (by omega) (fun c_1 => by exfalso; omega) (fun c_1 => ?_)
  refine x_aload_n rfl d_X8_count_4 ?_
  refine x_getf co_all (v := .int (nI (M 1 0))) d_X8_count_5 fk_8_88 (o8_o H) rfl ?_
  refine x_goto (tgt := 36) d_X8_count_8 (by decide) ?_
  exact x_ireturn d_X8_count_36 rfl rfl rfl rfl (Nat.zero_le _) (Nat.zero_le _) (⟨by rw [W.1.1], rfl⟩)
theorem md_count_1 {h : nPH} {b : Nat} {M V : Nat → Nat → Nat} {P : Nat → Nat → Nat → Nat} {R : Nat → Nat → Nat → Nat → Nat} {E Y T S : Nat → Nat → Nat} (H : o8 h b M) (W : rW M V P R E Y T S) (O : kO V P R) : nRd YX8_count [.ref (b), .int (nI (1))] h (.int (nV (V 3 0))) := by
  refine nSp_of (by decide +kernel) rfl (Nat.le_of_ble_eq_true rfl) (ls := [some (.ref (b)), some (.int (nI (1)))]) (by exact (And.intro rfl (And.intro rfl True.intro))) ?_
  refine x_iload_n rfl d_X8_count_0 ?_
  refine x_if_neN (tgt := 11) d_X8_count_1 (by decide) (by omega) (fun c_1 => ?_) (fun c_1 => by exfalso; omega)
  refine x_iload_n rfl d_X8_count_11 ?_
  refine x_iconst (v := nI 1) (by decide) d_X8_count_12 ?_
  refine x_icmp_neN (tgt := 23) d_X8_count_13 (by decide) (by omega) (by omega) (fun c_2 => by exfalso; omega) (fun c_2 => ?_)
  refine x_aload_n rfl d_X8_count_16 ?_
  refine x_getf co_all (v := .int (nV (M 16 0))) d_X8_count_17 fk_8_85 (o8_o H) rfl ?_
  refine x_goto (tgt := 36) d_X8_count_20 (by decide) ?_
  exact x_ireturn d_X8_count_36 rfl rfl rfl rfl (Nat.zero_le _) (Nat.zero_le _) (⟨by rw [W.1.2.1], rfl⟩)
theorem md_count_2 {h : nPH} {b : Nat} {M V : Nat → Nat → Nat} {P : Nat → Nat → Nat → Nat} {R : Nat → Nat → Nat → Nat → Nat} {E Y T S : Nat → Nat → Nat} (H : o8 h b M) (W : rW M V P R E Y T S) (O : kO V P R) : nRd YX8_count [.ref (b), .int (nI (2))] h (.int (nI (Y 0 0))) := by
  refine nSp_of (by decide +kernel) rfl (Nat.le_of_ble_eq_true rfl) (ls := [some (.ref (b)), some (.int (nI (2)))]) (by exact (And.intro rfl (And.intro rfl True.intro))) ?_
  refine x_iload_n rfl d_X8_count_0 ?_
  refine x_if_neN (tgt := 11) d_X8_count_1 (by decide) (by omega) (fun c_1 => ?_) (fun c_1 => by exfalso; omega)
  refine x_iload_n rfl d_X8_count_11 ?_
  refine x_iconst (v := nI 1) (by decide) d_X8_count_12 ?_
  refine x_icmp_neN (tgt := 23) d_X8_count_13 (by decide) (by omega) (by omega) (fun c_2 => ?_) (fun c_2 => by exfalso; omega)
  refine x_iload_n rfl d_X8_count_23 ?_
  refine x_iconst (v := nI 2) (by decide) d_X8_count_24 ?_
  refine x_icmp_neN (tgt := 35) d_X8_count_25 (by decide) (by omega) (by omega) (fun c_3 => by exfalso; omega) (fun c_3 => ?_)
  refine x_aload_n rfl d_X8_count_28 ?_
  refine x_getf co_all (v := .int (nI (M 28 0))) d_X8_count_29 fk_8_181 (o8_o H) rfl ?_
  refine x_goto (tgt := 36) d_X8_count_32 (by decide) ?_
  exact x_ireturn d_X8_count_36 rfl rfl rfl rfl (Nat.zero_le _) (Nat.zero_le _) (⟨by rw [W.2.2.2.1.1], rfl⟩)
theorem i_of {c : Int32} {n : Nat} (h : c = nI n) (hn : n < 2 ^ 31) : c.toInt = n := by rw [h, nI_toInt hn]
theorem md_count_n {h : nPH} {b : Nat} {M V : Nat → Nat → Nat} {P : Nat → Nat → Nat → Nat} {R : Nat → Nat → Nat → Nat → Nat} {E Y T S : Nat → Nat → Nat} (H : o8 h b M) (W : rW M V P R E Y T S) (O : kO V P R) {c : Int32} (hq : c.toInt < 0 ∨ 2 < c.toInt) : nRd YX8_count [.ref (b), .int (c)] h (.int (-1)) := by
  refine nSp_of (by decide +kernel) rfl (Nat.le_of_ble_eq_true rfl) (ls := [some (.ref (b)), some (.int (c))]) (by exact (And.intro rfl (And.intro rfl True.intro))) ?_
  refine x_iload_n rfl d_X8_count_0 ?_
  refine x_if_ne (tgt := 11) d_X8_count_1 (by decide) (fun c_1 => ?_) (fun c_1 => by exfalso; have := i_of (n := 0) c_1 (by decide); omega)
  refine x_iload_n rfl d_X8_count_11 ?_
  refine x_iconst (v := nI 1) (by decide) d_X8_count_12 ?_
  refine x_icmp_ne (tgt := 23) d_X8_count_13 (by decide) (fun c_2 => ?_) (fun c_2 => by exfalso; have := i_of (n := 1) c_2 (by decide); omega)
  refine x_iload_n rfl d_X8_count_23 ?_
  refine x_iconst (v := nI 2) (by decide) d_X8_count_24 ?_
  refine x_icmp_ne (tgt := 35) d_X8_count_25 (by decide) (fun c_3 => ?_) (fun c_3 => by exfalso; have := i_of (n := 2) c_3 (by decide); omega)
  refine x_iconst (v := -1) (by decide) d_X8_count_35 ?_
  exact x_ireturn d_X8_count_36 rfl rfl rfl rfl (Nat.zero_le _) (Nat.zero_le _) (⟨rfl, rfl⟩)
theorem md_way {h : nPH} {b : Nat} {M V : Nat → Nat → Nat} {P : Nat → Nat → Nat → Nat} {R : Nat → Nat → Nat → Nat → Nat} {E Y T S : Nat → Nat → Nat} (H : o8 h b M) (W : rW M V P R E Y T S) (O : kO V P R) (hy : Y 0 0 ≤ 1200) {j : Nat} (hj : j < Y 0 0) : nRd YX8_way [.ref (b), .int (nI (j))] h (.int (nI (Y 1 (Y 0 0 - 1 - j)))) := by
  have y1 := W.2.2.2.1.1
  refine nSp_of (by decide +kernel) rfl (Nat.le_of_ble_eq_true rfl) (ls := [some (.ref (b)), some (.int (nI (j)))]) (by exact (And.intro rfl (And.intro rfl True.intro))) ?_
  refine x_iload_n rfl d_X8_way_0 ?_
  refine x_if_ltN (tgt := 21) d_X8_way_1 (by decide) (by omega) (fun c_1 => by exfalso; omega) (fun c_1 => ?_)
  refine x_iload_n rfl d_X8_way_4 ?_
  refine x_aload_n rfl d_X8_way_5 ?_
  refine x_getf co_all (v := .int (nI (M 28 0))) d_X8_way_6 fk_8_181 (o8_o H) rfl ?_
  refine x_icmp_geN (tgt := 21) d_X8_way_9 (by decide) (by omega) (by omega) (fun c_2 => by exfalso; omega) (fun c_2 => ?_)
  refine x_aload_n rfl d_X8_way_12 ?_
  refine x_getf co_all (v := .ref (b + 20)) d_X8_way_13 fk_8_72 (o8_o H) rfl ?_
  refine x_iload_n rfl d_X8_way_16 ?_
  refine x_iaload d_X8_way_17 (o8_29 H) (nIx_nI (j := j) (by omega) (by decide)) ?_
  refine x_goto (tgt := 22) d_X8_way_18 (by decide) ?_
  exact x_ireturn d_X8_way_22 rfl rfl rfl rfl (Nat.zero_le _) (Nat.zero_le _) (⟨by rw [W.2.2.2.1.2 j hj], rfl⟩)
theorem md_wayN {h : nPH} {b : Nat} {M V : Nat → Nat → Nat} {P : Nat → Nat → Nat → Nat} {R : Nat → Nat → Nat → Nat → Nat} {E Y T S : Nat → Nat → Nat} (H : o8 h b M) (W : rW M V P R E Y T S) (O : kO V P R) (hy : Y 0 0 ≤ 1200) {j : Int32} (hj : ¬ nIn j (Y 0 0)) : nRd YX8_way [.ref (b), .int (j)] h (.int (-1)) := by
  have y1 := W.2.2.2.1.1
  refine nSp_of (by decide +kernel) rfl (Nat.le_of_ble_eq_true rfl) (ls := [some (.ref (b)), some (.int (j))]) (by exact (And.intro rfl (And.intro rfl True.intro))) ?_
  refine x_iload_n rfl d_X8_way_0 ?_
  refine x_if_lt (tgt := 21) d_X8_way_1 (by decide) (fun c_1 => ?_) (fun c_1 => ?_)
  · refine x_iconst (v := -1) (by decide) d_X8_way_21 ?_
    exact x_ireturn d_X8_way_22 rfl rfl rfl rfl (Nat.zero_le _) (Nat.zero_le _) (⟨rfl, rfl⟩)
  · refine x_iload_n rfl d_X8_way_4 ?_
    refine x_aload_n rfl d_X8_way_5 ?_
    refine x_getf co_all (v := .int (nI (M 28 0))) d_X8_way_6 fk_8_181 (o8_o H) rfl ?_
    refine x_icmp_ge (tgt := 21) d_X8_way_9 (by decide) (fun c_2 => ?_) (fun c_2 => by exfalso; exact hj (by rw [← y1]; exact nIn_g2 c_1 c_2 (by omega)))
    refine x_iconst (v := -1) (by decide) d_X8_way_21 ?_
    exact x_ireturn d_X8_way_22 rfl rfl rfl rfl (Nat.zero_le _) (Nat.zero_le _) (⟨rfl, rfl⟩)
theorem md_match {h : nPH} {b : Nat} {M V : Nat → Nat → Nat} {P : Nat → Nat → Nat → Nat} {R : Nat → Nat → Nat → Nat → Nat} {E Y T S : Nat → Nat → Nat} (H : o8 h b M) (W : rW M V P R E Y T S) (O : kO V P R) (hs : S 0 0 ≤ 24) {j : Nat} (hj : j < S 0 0) : nRd YX8_match [.ref (b), .int (nI (j))] h (.int (nI (S 1 j))) := by
  have y1 := W.2.2.2.2.2.1
  refine nSp_of (by decide +kernel) rfl (Nat.le_of_ble_eq_true rfl) (ls := [some (.ref (b)), some (.int (nI (j)))]) (by exact (And.intro rfl (And.intro rfl True.intro))) ?_
  refine x_iload_n rfl d_X8_match_0 ?_
  refine x_if_ltN (tgt := 21) d_X8_match_1 (by decide) (by omega) (fun c_1 => by exfalso; omega) (fun c_1 => ?_)
  refine x_iload_n rfl d_X8_match_4 ?_
  refine x_aload_n rfl d_X8_match_5 ?_
  refine x_getf co_all (v := .int (nI (M 34 0))) d_X8_match_6 fk_8_206 (o8_o H) rfl ?_
  refine x_icmp_geN (tgt := 21) d_X8_match_9 (by decide) (by omega) (by omega) (fun c_2 => by exfalso; omega) (fun c_2 => ?_)
  refine x_aload_n rfl d_X8_match_12 ?_
  refine x_getf co_all (v := .ref (b + 22)) d_X8_match_13 fk_8_78 (o8_o H) rfl ?_
  refine x_iload_n rfl d_X8_match_16 ?_
  refine x_iaload d_X8_match_17 (o8_35 H) (nIx_nI (j := j) (by omega) (by decide)) ?_
  refine x_goto (tgt := 22) d_X8_match_18 (by decide) ?_
  exact x_ireturn d_X8_match_22 rfl rfl rfl rfl (Nat.zero_le _) (Nat.zero_le _) (⟨by rw [W.2.2.2.2.2.2 j hj], rfl⟩)
theorem md_matchN {h : nPH} {b : Nat} {M V : Nat → Nat → Nat} {P : Nat → Nat → Nat → Nat} {R : Nat → Nat → Nat → Nat → Nat} {E Y T S : Nat → Nat → Nat} (H : o8 h b M) (W : rW M V P R E Y T S) (O : kO V P R) (hs : S 0 0 ≤ 24) {j : Int32} (hj : ¬ nIn j (S 0 0)) : nRd YX8_match [.ref (b), .int (j)] h (.int (-1)) := by
  have y1 := W.2.2.2.2.2.1
  refine nSp_of (by decide +kernel) rfl (Nat.le_of_ble_eq_true rfl) (ls := [some (.ref (b)), some (.int (j))]) (by exact (And.intro rfl (And.intro rfl True.intro))) ?_
  refine x_iload_n rfl d_X8_match_0 ?_
  refine x_if_lt (tgt := 21) d_X8_match_1 (by decide) (fun c_1 => ?_) (fun c_1 => ?_)
  · refine x_iconst (v := -1) (by decide) d_X8_match_21 ?_
    exact x_ireturn d_X8_match_22 rfl rfl rfl rfl (Nat.zero_le _) (Nat.zero_le _) (⟨rfl, rfl⟩)
  · refine x_iload_n rfl d_X8_match_4 ?_
    refine x_aload_n rfl d_X8_match_5 ?_
    refine x_getf co_all (v := .int (nI (M 34 0))) d_X8_match_6 fk_8_206 (o8_o H) rfl ?_
    refine x_icmp_ge (tgt := 21) d_X8_match_9 (by decide) (fun c_2 => ?_) (fun c_2 => by exfalso; exact hj (by rw [← y1]; exact nIn_g2 c_1 c_2 (by omega)))
    refine x_iconst (v := -1) (by decide) d_X8_match_21 ?_
    exact x_ireturn d_X8_match_22 rfl rfl rfl rfl (Nat.zero_le _) (Nat.zero_le _) (⟨rfl, rfl⟩)
