/-! the loads: what is told of them -/
theorem mod_half {g l : Nat} (hl : 0 < l) (h : 0 < g % l) : 2 * (l % (g % l)) < l := by
  have h1 := Nat.mod_lt g hl
  have h2 := Nat.mod_lt l h
  have h3 := Nat.div_add_mod l (g % l)
  have h4 : 1 ≤ l / (g % l) := (Nat.le_div_iff_mul_le h).mpr (by omega)
  have h5 : (g % l) * 1 ≤ (g % l) * (l / (g % l)) := Nat.mul_le_mul_left _ h4
  omega
theorem gcd_st (g l : Nat) : Nat.gcd l (g % l) = Nat.gcd g l := by
  rw [Nat.gcd_comm l (g % l), ← Nat.gcd_rec l g, Nat.gcd_comm]
theorem lp_cd0 {h : nPH} {a b G g l i : Nat} (hg : g < 2 ^ 63) (hl : l = 0) (hi : i < 200) (hG : Nat.gcd g l = G) : nG YX1_commonDivisor (nKy YX1_commonDivisor h.1 h.2.1 (fun v h2 => v = some (.long (lN G)) ∧ h2 = h)) 0 0 9 [some (.long (lN (a))), none, some (.long (lN (b))), none, some (.long (lN (g))), none, some (.long (lN (l))), none, some (.int (nI (i))), none, none] [] h := by
  refine x_iload rfl d_X1_commonDivisor_9 ?_
  refine x_sipush (v := nI 200) (by decide) d_X1_commonDivisor_11 ?_
  refine x_icmp_geN (tgt := 45) d_X1_commonDivisor_14 (by decide) (by omega) (by omega) (fun c_1 => by exfalso; omega) (fun c_1 => ?_)
  refine x_lload rfl d_X1_commonDivisor_17 ?_
  refine x_lconst (v := lN 0) (by decide) d_X1_commonDivisor_19 ?_
  refine x_lcmp d_X1_commonDivisor_20 ?_
  refine x_lif_eqN (tgt := 45) d_X1_commonDivisor_21 (by decide) (by omega) (by omega) (fun c_2 => ?_) (fun c_2 => by exfalso; omega)
  refine x_lload rfl d_X1_commonDivisor_45 ?_
  exact x_lreturn d_X1_commonDivisor_47 rfl rfl rfl (Nat.zero_le _) (Nat.zero_le _) (⟨by rw [← hG, hl, Nat.gcd_zero_right], rfl⟩)
theorem lp_cd1 {h : nPH} {a b G g l i : Nat} (hg : g < 2 ^ 63) (hl : l < 2 ^ 63) (h0 : 0 < l) (hi : i < 200) (k : nG YX1_commonDivisor (nKy YX1_commonDivisor h.1 h.2.1 (fun v h2 => v = some (.long (lN G)) ∧ h2 = h)) 0 0 9 [some (.long (lN (a))), none, some (.long (lN (b))), none, some (.long (lN (l))), none, some (.long (lN (g % l))), none, some (.int (nI (i + 1))), none, none] [] h) : nG YX1_commonDivisor (nKy YX1_commonDivisor h.1 h.2.1 (fun v h2 => v = some (.long (lN G)) ∧ h2 = h)) 0 0 9 [some (.long (lN (a))), none, some (.long (lN (b))), none, some (.long (lN (g))), none, some (.long (lN (l))), none, some (.int (nI (i))), none, none] [] h := by
  refine x_iload rfl d_X1_commonDivisor_9 ?_
  refine x_sipush (v := nI 200) (by decide) d_X1_commonDivisor_11 ?_
  refine x_icmp_geN (tgt := 45) d_X1_commonDivisor_14 (by decide) (by omega) (by omega) (fun c_1 => by exfalso; omega) (fun c_1 => ?_)
  refine x_lload rfl d_X1_commonDivisor_17 ?_
  refine x_lconst (v := lN 0) (by decide) d_X1_commonDivisor_19 ?_
  refine x_lcmp d_X1_commonDivisor_20 ?_
  refine x_lif_eqN (tgt := 45) d_X1_commonDivisor_21 (by decide) (by omega) (by omega) (fun c_2 => by exfalso; omega) (fun c_2 => ?_)
  refine x_lload rfl d_X1_commonDivisor_24 ?_
  refine x_lload rfl d_X1_commonDivisor_26 ?_
  refine x_lremN d_X1_commonDivisor_28 (by omega) (by omega) (by omega) ?_
  refine x_lstore d_X1_commonDivisor_29 (Nat.le_of_ble_eq_true rfl) ?_
  refine x_lload rfl d_X1_commonDivisor_31 ?_
  refine x_lstore d_X1_commonDivisor_33 (Nat.le_of_ble_eq_true rfl) ?_
  refine x_lload rfl d_X1_commonDivisor_35 ?_
  refine x_lstore d_X1_commonDivisor_37 (Nat.le_of_ble_eq_true rfl) ?_
  refine x_iincN (m := 1) d_X1_commonDivisor_39 rfl (by decide) (Nat.le_of_ble_eq_true rfl) ?_
  refine x_goto (tgt := 9) d_X1_commonDivisor_42 (by decide) ?_
  exact nG.sub (by exact (And.intro rfl (And.intro rfl (And.intro rfl (And.intro rfl (And.intro rfl True.intro)))))) k
theorem lp_cd {h : nPH} {a b G : Nat} : ∀ n g l i : Nat, n ≤ 60 → l < 2 ^ n → g < 2 ^ 63 → i + 2 * n < 200 → Nat.gcd g l = G → nG YX1_commonDivisor (nKy YX1_commonDivisor h.1 h.2.1 (fun v h2 => v = some (.long (lN G)) ∧ h2 = h)) 0 0 9 [some (.long (lN (a))), none, some (.long (lN (b))), none, some (.long (lN (g))), none, some (.long (lN (l))), none, some (.int (nI (i))), none, none] [] h := by
  intro n
  induction n with
  | zero =>
    intro g l i hn hl hg hi hG
    exact lp_cd0 hg (by omega) (by omega) hG
  | succ n ih =>
    intro g l i hn hl hg hi hG
    have hl63 : l < 2 ^ 63 := Nat.lt_of_lt_of_le hl (Nat.pow_le_pow_right (by decide) (by omega))
    rcases Nat.eq_zero_or_pos l with z | z
    · exact lp_cd0 hg z (by omega) hG
    · have hm := Nat.mod_lt g z
      refine lp_cd1 hg hl63 z (by omega) ?_
      rcases Nat.eq_zero_or_pos (g % l) with z2 | z2
      · exact lp_cd0 hl63 z2 (by omega) ((gcd_st g l).trans hG)
      · refine lp_cd1 hl63 (by omega) z2 (by omega) ?_
        refine ih (g % l) (l % (g % l)) (i + 1 + 1) (by omega) ?_ (by omega) (by omega) ?_
        · have := mod_half z z2
          have e : 2 ^ (n + 1) = 2 * 2 ^ n := by rw [Nat.pow_succ, Nat.mul_comm]
          omega
        · exact (gcd_st _ _).trans ((gcd_st g l).trans hG)
theorem sp_cd {h : nPH} {a b : Nat} (ha : a < 2 ^ 63) (hb : b < 2 ^ 60) : nRd YX1_commonDivisor [.long (lN a), .long (lN b)] h (.long (lN (Nat.gcd a b))) := by
  refine nSp_of (by decide +kernel) rfl (Nat.le_of_ble_eq_true rfl) (ls := [some (.long (lN (a))), none, some (.long (lN (b))), none, none, none, none, none, none, none, none]) (by exact (And.intro rfl (And.intro rfl True.intro))) ?_
  refine x_lload_n rfl d_X1_commonDivisor_0 ?_
  refine x_lstore d_X1_commonDivisor_1 (Nat.le_of_ble_eq_true rfl) ?_
  refine x_lload_n rfl d_X1_commonDivisor_3 ?_
  refine x_lstore d_X1_commonDivisor_4 (Nat.le_of_ble_eq_true rfl) ?_
  refine x_iconst (v := nI 0) (by decide) d_X1_commonDivisor_6 ?_
  refine x_istore d_X1_commonDivisor_7 (Nat.le_of_ble_eq_true rfl) ?_
  exact nG.sub (by exact (And.intro rfl (And.intro rfl (And.intro rfl (And.intro rfl (And.intro rfl True.intro)))))) (lp_cd 60 a b 0 (by decide) hb ha (by decide) rfl)
theorem sp_term0 {h : nPH} {u : Nat} (hu : u < 2 ^ 63) : nRd YX1_term [.long (lN u), .int (nI 0)] h (.long (lN (u / (Nat.gcd u 609359740010496)))) := by
  refine nSp_of (by decide +kernel) rfl (Nat.le_of_ble_eq_true rfl) (ls := [some (.long (lN (u))), none, some (.int (nI (0))), none, none]) (by exact (And.intro rfl (And.intro rfl True.intro))) ?_
  refine x_lload_n rfl d_X1_term_0 ?_
  refine x_ldc2 (v := lN 609359740010496) d_X1_term_1 ct_1_32 ?_
  refine x_rdS d_X1_term_4 lk_1_80 mo_X1_commonDivisor sc_X1_commonDivisor (sp_cd (a := u) (b := 609359740010496) hu (by decide)) rfl ⟨Nat.le_of_ble_eq_true rfl, Nat.le_of_ble_eq_true rfl⟩ rfl rfl (Nat.zero_le _) (Nat.zero_le _) (Nat.le_of_ble_eq_true rfl) rfl ?_
  have hg0 : 0 < Nat.gcd u 609359740010496 := Nat.gcd_pos_of_pos_right u (by decide)
  have hgl : Nat.gcd u 609359740010496 ≤ 609359740010496 := Nat.gcd_le_right u (by decide)
  refine x_lstore_n d_X1_term_7 (Nat.le_of_ble_eq_true rfl) ?_
  refine x_iload_n rfl d_X1_term_8 ?_
  refine x_iconst (v := nI 0) (by decide) d_X1_term_9 ?_
  refine x_iconst (v := nI 1) (by decide) d_X1_term_10 ?_
  refine x_rdSN d_X1_term_11 lk_1_69 mo_X7_within sc_X7_within (sp_within (nI (0)) (nI 0) (nI 1)) rfl ⟨Nat.le_of_ble_eq_true rfl, Nat.le_of_ble_eq_true rfl⟩ rfl rfl (Nat.zero_le _) (Nat.zero_le _) (Nat.le_of_ble_eq_true rfl) rfl ?_
  rw [nB_T (show nI 0 ≤ nI 0 ∧ nI 0 ≤ nI 1 by decide)]
  refine x_if_eqN (tgt := 23) d_X1_term_14 (by decide) (by first | omega | decide) (fun c_1 => by exfalso; exact absurd c_1 (by decide)) (fun c_1 => ?_)
  refine x_lload_n rfl d_X1_term_17 ?_
  refine x_lconst (v := lN 0) (by decide) d_X1_term_18 ?_
  refine x_lcmp d_X1_term_19 ?_
  refine x_lif_gtN (tgt := 27) d_X1_term_20 (by decide) (by first | omega | decide) (by first | omega | decide) (fun c_2 => ?_) (fun c_2 => by exfalso; omega)
  refine x_iload_n rfl d_X1_term_27 ?_
  refine x_if_neN (tgt := 35) d_X1_term_28 (by decide) (by first | omega | decide) (fun c_3 => by exfalso; omega) (fun c_3 => ?_)
  refine x_lload_n rfl d_X1_term_31 ?_
  refine x_goto (tgt := 38) d_X1_term_32 (by decide) ?_
  refine x_lload_n rfl d_X1_term_38 ?_
  refine x_ldivN d_X1_term_39 (by omega) (by first | omega | decide) (by first | omega | decide) ?_
  exact x_lreturn d_X1_term_40 rfl rfl rfl (Nat.zero_le _) (Nat.zero_le _) (⟨rfl, rfl⟩)
theorem sp_term1 {h : nPH} {u : Nat} (hu : u < 2 ^ 63) : nRd YX1_term [.long (lN u), .int (nI 1)] h (.long (lN (609359740010496 / (Nat.gcd u 609359740010496)))) := by
  refine nSp_of (by decide +kernel) rfl (Nat.le_of_ble_eq_true rfl) (ls := [some (.long (lN (u))), none, some (.int (nI (1))), none, none]) (by exact (And.intro rfl (And.intro rfl True.intro))) ?_
  refine x_lload_n rfl d_X1_term_0 ?_
  refine x_ldc2 (v := lN 609359740010496) d_X1_term_1 ct_1_32 ?_
  refine x_rdS d_X1_term_4 lk_1_80 mo_X1_commonDivisor sc_X1_commonDivisor (sp_cd (a := u) (b := 609359740010496) hu (by decide)) rfl ⟨Nat.le_of_ble_eq_true rfl, Nat.le_of_ble_eq_true rfl⟩ rfl rfl (Nat.zero_le _) (Nat.zero_le _) (Nat.le_of_ble_eq_true rfl) rfl ?_
  have hg0 : 0 < Nat.gcd u 609359740010496 := Nat.gcd_pos_of_pos_right u (by decide)
  have hgl : Nat.gcd u 609359740010496 ≤ 609359740010496 := Nat.gcd_le_right u (by decide)
  refine x_lstore_n d_X1_term_7 (Nat.le_of_ble_eq_true rfl) ?_
  refine x_iload_n rfl d_X1_term_8 ?_
  refine x_iconst (v := nI 0) (by decide) d_X1_term_9 ?_
  refine x_iconst (v := nI 1) (by decide) d_X1_term_10 ?_
  refine x_rdSN d_X1_term_11 lk_1_69 mo_X7_within sc_X7_within (sp_within (nI (1)) (nI 0) (nI 1)) rfl ⟨Nat.le_of_ble_eq_true rfl, Nat.le_of_ble_eq_true rfl⟩ rfl rfl (Nat.zero_le _) (Nat.zero_le _) (Nat.le_of_ble_eq_true rfl) rfl ?_
  rw [nB_T (show nI 0 ≤ nI 1 ∧ nI 1 ≤ nI 1 by decide)]
  refine x_if_eqN (tgt := 23) d_X1_term_14 (by decide) (by first | omega | decide) (fun c_1 => by exfalso; exact absurd c_1 (by decide)) (fun c_1 => ?_)
  refine x_lload_n rfl d_X1_term_17 ?_
  refine x_lconst (v := lN 0) (by decide) d_X1_term_18 ?_
  refine x_lcmp d_X1_term_19 ?_
  refine x_lif_gtN (tgt := 27) d_X1_term_20 (by decide) (by first | omega | decide) (by first | omega | decide) (fun c_2 => ?_) (fun c_2 => by exfalso; omega)
  refine x_iload_n rfl d_X1_term_27 ?_
  refine x_if_neN (tgt := 35) d_X1_term_28 (by decide) (by first | omega | decide) (fun c_3 => ?_) (fun c_3 => by exfalso; omega)
  refine x_ldc2 (v := lN 609359740010496) d_X1_term_35 ct_1_32 ?_
  refine x_lload_n rfl d_X1_term_38 ?_
  refine x_ldivN d_X1_term_39 (by omega) (by first | omega | decide) (by first | omega | decide) ?_
  exact x_lreturn d_X1_term_40 rfl rfl rfl (Nat.zero_le _) (Nat.zero_le _) (⟨rfl, rfl⟩)
theorem sp_termN {h : nPH} {u : Nat} (hu : u < 2 ^ 63) {c : Int32} (hc : ¬ (nI 0 ≤ c ∧ c ≤ nI 1)) : nRd YX1_term [.long (lN u), .int c] h (.long (-1)) := by
  refine nSp_of (by decide +kernel) rfl (Nat.le_of_ble_eq_true rfl) (ls := [some (.long (lN (u))), none, some (.int (c)), none, none]) (by exact (And.intro rfl (And.intro rfl True.intro))) ?_
  refine x_lload_n rfl d_X1_term_0 ?_
  refine x_ldc2 (v := lN 609359740010496) d_X1_term_1 ct_1_32 ?_
  refine x_rdS d_X1_term_4 lk_1_80 mo_X1_commonDivisor sc_X1_commonDivisor (sp_cd (a := u) (b := 609359740010496) hu (by decide)) rfl ⟨Nat.le_of_ble_eq_true rfl, Nat.le_of_ble_eq_true rfl⟩ rfl rfl (Nat.zero_le _) (Nat.zero_le _) (Nat.le_of_ble_eq_true rfl) rfl ?_
  have hg0 : 0 < Nat.gcd u 609359740010496 := Nat.gcd_pos_of_pos_right u (by decide)
  have hgl : Nat.gcd u 609359740010496 ≤ 609359740010496 := Nat.gcd_le_right u (by decide)
  refine x_lstore_n d_X1_term_7 (Nat.le_of_ble_eq_true rfl) ?_
  refine x_iload_n rfl d_X1_term_8 ?_
  refine x_iconst (v := nI 0) (by decide) d_X1_term_9 ?_
  refine x_iconst (v := nI 1) (by decide) d_X1_term_10 ?_
  refine x_rdSN d_X1_term_11 lk_1_69 mo_X7_within sc_X7_within (sp_within c (nI 0) (nI 1)) rfl ⟨Nat.le_of_ble_eq_true rfl, Nat.le_of_ble_eq_true rfl⟩ rfl rfl (Nat.zero_le _) (Nat.zero_le _) (Nat.le_of_ble_eq_true rfl) rfl ?_
  rw [nB_F hc]
  refine x_if_eqN (tgt := 23) d_X1_term_14 (by decide) (by first | omega | decide) (fun c_1 => ?_) (fun c_1 => by exfalso; exact c_1 rfl)
  refine x_ldc2 d_X1_term_23 ct_1_84 ?_
  exact x_lreturn d_X1_term_26 rfl rfl rfl (Nat.zero_le _) (Nat.zero_le _) (⟨rfl, rfl⟩)
theorem sp_isAbove {h : nPH} {u g : Nat} (hu : u < 2 ^ 63) (hg : g < 2 ^ 31) : nRd YX1_isAbove [.long (lN u), .int (nI g)] h (.int (nI (nB (g * 609359740010496 < u)))) := by
  refine nSp_of (by decide +kernel) rfl (Nat.le_of_ble_eq_true rfl) (ls := [some (.long (lN (u))), none, some (.int (nI (g))), none, none]) (by exact (And.intro rfl (And.intro rfl True.intro))) ?_
  refine x_lload_n rfl d_X1_isAbove_0 ?_
  refine x_ldc2 (v := lN 609359740010496) d_X1_isAbove_1 ct_1_32 ?_
  refine x_ldivN d_X1_isAbove_4 (by omega) (by omega) (by omega) ?_
  refine x_lstore_n d_X1_isAbove_5 (Nat.le_of_ble_eq_true rfl) ?_
  refine x_lload_n rfl d_X1_isAbove_6 ?_
  refine x_iload_n rfl d_X1_isAbove_7 ?_
  refine x_i2lN d_X1_isAbove_8 (by omega) ?_
  refine x_lcmp d_X1_isAbove_9 ?_
  refine x_lif_gtN (tgt := 30) d_X1_isAbove_10 (by decide) (by omega) (by omega) (fun c_1 => ?_) (fun c_1 => ?_)
  · refine x_iconst (v := nI 1) (by decide) d_X1_isAbove_30 ?_
    refine x_goto (tgt := 35) d_X1_isAbove_31 (by decide) ?_
    exact x_ireturn d_X1_isAbove_35 rfl (by first | rfl | exact nB_nar _ | exact nB_nar1 (by omega)) rfl rfl (Nat.zero_le _) (Nat.zero_le _) (⟨by rw [nB_T (by omega)], rfl⟩)
  · refine x_lload_n rfl d_X1_isAbove_13 ?_
    refine x_iload_n rfl d_X1_isAbove_14 ?_
    refine x_i2lN d_X1_isAbove_15 (by omega) ?_
    refine x_lcmp d_X1_isAbove_16 ?_
    refine x_lif_neN (tgt := 34) d_X1_isAbove_17 (by decide) (by omega) (by omega) (fun c_2 => ?_) (fun c_2 => ?_)
    · refine x_iconst (v := nI 0) (by decide) d_X1_isAbove_34 ?_
      exact x_ireturn d_X1_isAbove_35 rfl (by first | rfl | exact nB_nar _ | exact nB_nar1 (by omega)) rfl rfl (Nat.zero_le _) (Nat.zero_le _) (⟨by rw [nB_F (by omega)], rfl⟩)
    · refine x_lload_n rfl d_X1_isAbove_20 ?_
      refine x_ldc2 (v := lN 609359740010496) d_X1_isAbove_21 ct_1_32 ?_
      refine x_lremN d_X1_isAbove_24 (by omega) (by omega) (by omega) ?_
      refine x_lconst (v := lN 0) (by decide) d_X1_isAbove_25 ?_
      refine x_lcmp d_X1_isAbove_26 ?_
      refine x_lif_leN (tgt := 34) d_X1_isAbove_27 (by decide) (by omega) (by omega) (fun c_3 => ?_) (fun c_3 => ?_)
      · refine x_iconst (v := nI 0) (by decide) d_X1_isAbove_34 ?_
        exact x_ireturn d_X1_isAbove_35 rfl (by first | rfl | exact nB_nar _ | exact nB_nar1 (by omega)) rfl rfl (Nat.zero_le _) (Nat.zero_le _) (⟨by rw [nB_F (by omega)], rfl⟩)
      · refine x_iconst (v := nI 1) (by decide) d_X1_isAbove_30 ?_
        refine x_goto (tgt := 35) d_X1_isAbove_31 (by decide) ?_
        exact x_ireturn d_X1_isAbove_35 rfl (by first | rfl | exact nB_nar _ | exact nB_nar1 (by omega)) rfl rfl (Nat.zero_le _) (Nat.zero_le _) (⟨by rw [nB_T (by omega)], rfl⟩)
theorem lp_faN1 {c b : Nat} {P E : Nat → Nat → Nat} {R : Nat → Nat → Nat → Nat} {h : nPH} (Wp : pW h b P R) (H : o1 h c E) (hs : P 1 0 < 2 ^ 31) (hb : ∀ r k, r < P 5 0 → k < R r 0 0 → E 2 (20 * k + r) < 2 ^ 63) {a : Value} {r : Nat} (hr : r < P 5 0) (hno : ∀ k, k < R r 0 0 → ¬ P 1 0 * 609359740010496 < E 2 (20 * k + r)) (Kk : nG YX1_firstAbove (nKy YX1_firstAbove h.1 h.2.1 (fun v h2 => v = some (a) ∧ h2 = h)) 0 0 2 [some (.ref (c)), some (.ref (b)), some (.int (nI (r + 1))), none, none] [] h) : ∀ n k : Nat, k + n = R r 0 0 → nG YX1_firstAbove (nKy YX1_firstAbove h.1 h.2.1 (fun v h2 => v = some (a) ∧ h2 = h)) 0 0 19 [some (.ref (c)), some (.ref (b)), some (.int (nI (r))), some (.ref (P 4 r)), some (.int (nI (k)))] [] h := by
  intro n
  induction n with
  | zero =>
    intro k hk
    have hpl := (Wp.2.2.1 r hr).2.1.1
    have hn20 := Wp.2.1
    refine x_aload_n rfl d_X1_firstAbove_19 ?_
    refine x_ifnull d_X1_firstAbove_20 ?_
    refine x_iload rfl d_X1_firstAbove_23 ?_
    refine x_aload_n rfl d_X1_firstAbove_25 ?_
    refine x_getf co_all (v := .int (nI ((R r) 0 0))) d_X1_firstAbove_26 fk_1_57 (o3_o (Wp.2.2.1 r hr).1) rfl ?_
    refine x_icmp_geN (tgt := 65) d_X1_firstAbove_29 (by decide) (by omega) (by omega) (fun c_1 => ?_) (fun c_1 => by exfalso; omega)
    refine x_iincN (m := 1) d_X1_firstAbove_65 rfl (by decide) (Nat.le_of_ble_eq_true rfl) ?_
    refine x_goto (tgt := 2) d_X1_firstAbove_68 (by decide) ?_
    exact nG.sub (by exact (And.intro rfl (And.intro rfl (And.intro rfl True.intro)))) Kk
  | succ n ih =>
    intro k hk
    have hpl := (Wp.2.2.1 r hr).2.1.1
    have hn20 := Wp.2.1
    refine x_aload_n rfl d_X1_firstAbove_19 ?_
    refine x_ifnull d_X1_firstAbove_20 ?_
    refine x_iload rfl d_X1_firstAbove_23 ?_
    refine x_aload_n rfl d_X1_firstAbove_25 ?_
    refine x_getf co_all (v := .int (nI ((R r) 0 0))) d_X1_firstAbove_26 fk_1_57 (o3_o (Wp.2.2.1 r hr).1) rfl ?_
    refine x_icmp_geN (tgt := 65) d_X1_firstAbove_29 (by decide) (by omega) (by omega) (fun c_1 => by exfalso; omega) (fun c_1 => ?_)
    refine x_aload_n rfl d_X1_firstAbove_32 ?_
    refine x_getf co_all (v := .ref (c + 1)) d_X1_firstAbove_33 fk_1_11 (o1_o H) rfl ?_
    refine x_iload_n rfl d_X1_firstAbove_36 ?_
    refine x_aaload d_X1_firstAbove_37 (o1_2 H) rfl (nIx_nI (j := r) (by omega) (by decide)) rfl ?_
    refine x_iload rfl d_X1_firstAbove_38 ?_
    refine x_laload d_X1_firstAbove_40 (o1_2i H (r := (r)) (by omega)) (nIx_nI (j := k) (by omega) (by decide)) ?_
    show nG _ _ _ _ _ _ (.long (lN (E 2 (20 * k + r))) :: _) _
    refine x_aload_n rfl d_X1_firstAbove_41 ?_
    refine x_getf co_all (v := .int (nI (P 1 0))) d_X1_firstAbove_42 fk_1_73 (o2_o Wp.1) rfl ?_
    refine x_rdS d_X1_firstAbove_45 lk_1_76 mo_X1_isAbove sc_X1_isAbove (sp_isAbove (hb r k hr (by omega)) hs) rfl ⟨Nat.le_of_ble_eq_true rfl, Nat.le_of_ble_eq_true rfl⟩ rfl rfl (Nat.zero_le _) (Nat.zero_le _) (Nat.le_of_ble_eq_true rfl) rfl ?_
    have hle := nB_le (P 1 0 * 609359740010496 < E 2 (20 * k + r))
    refine x_if_eqN (tgt := 59) d_X1_firstAbove_48 (by decide) (by omega) (fun c_2 => ?_) (fun c_2 => by exfalso; exact hno k (by omega) (nB_1.mp (by omega)))
    refine x_iincN (m := 1) d_X1_firstAbove_59 rfl (by decide) (Nat.le_of_ble_eq_true rfl) ?_
    refine x_goto (tgt := 19) d_X1_firstAbove_62 (by decide) ?_
    exact ih (k + 1) (by omega)
theorem lp_faY1 {c b : Nat} {P E : Nat → Nat → Nat} {R : Nat → Nat → Nat → Nat} {h : nPH} (Wp : pW h b P R) (H : o1 h c E) (hs : P 1 0 < 2 ^ 31) (hb : ∀ r k, r < P 5 0 → k < R r 0 0 → E 2 (20 * k + r) < 2 ^ 63) {r m : Nat} (hr : r < P 5 0) (hm : m < R r 0 0) (hno : ∀ k, k < m → ¬ P 1 0 * 609359740010496 < E 2 (20 * k + r)) (hys : P 1 0 * 609359740010496 < E 2 (20 * m + r)) : ∀ n k : Nat, k + n = m → nG YX1_firstAbove (nKy YX1_firstAbove h.1 h.2.1 (fun v h2 => v = some (.int (nI (100 * r + m))) ∧ h2 = h)) 0 0 19 [some (.ref (c)), some (.ref (b)), some (.int (nI (r))), some (.ref (P 4 r)), some (.int (nI (k)))] [] h := by
  intro n
  induction n with
  | zero =>
    intro k hk
    have e : k = m := by omega
    subst e
    have hpl := (Wp.2.2.1 r hr).2.1.1
    have hn20 := Wp.2.1
    refine x_aload_n rfl d_X1_firstAbove_19 ?_
    refine x_ifnull d_X1_firstAbove_20 ?_
    refine x_iload rfl d_X1_firstAbove_23 ?_
    refine x_aload_n rfl d_X1_firstAbove_25 ?_
    refine x_getf co_all (v := .int (nI ((R r) 0 0))) d_X1_firstAbove_26 fk_1_57 (o3_o (Wp.2.2.1 r hr).1) rfl ?_
    refine x_icmp_geN (tgt := 65) d_X1_firstAbove_29 (by decide) (by omega) (by omega) (fun c_1 => by exfalso; omega) (fun c_1 => ?_)
    refine x_aload_n rfl d_X1_firstAbove_32 ?_
    refine x_getf co_all (v := .ref (c + 1)) d_X1_firstAbove_33 fk_1_11 (o1_o H) rfl ?_
    refine x_iload_n rfl d_X1_firstAbove_36 ?_
    refine x_aaload d_X1_firstAbove_37 (o1_2 H) rfl (nIx_nI (j := r) (by omega) (by decide)) rfl ?_
    refine x_iload rfl d_X1_firstAbove_38 ?_
    refine x_laload d_X1_firstAbove_40 (o1_2i H (r := (r)) (by omega)) (nIx_nI (j := k) (by omega) (by decide)) ?_
    show nG _ _ _ _ _ _ (.long (lN (E 2 (20 * k + r))) :: _) _
    refine x_aload_n rfl d_X1_firstAbove_41 ?_
    refine x_getf co_all (v := .int (nI (P 1 0))) d_X1_firstAbove_42 fk_1_73 (o2_o Wp.1) rfl ?_
    refine x_rdS d_X1_firstAbove_45 lk_1_76 mo_X1_isAbove sc_X1_isAbove (sp_isAbove (hb r k hr (by omega)) hs) rfl ⟨Nat.le_of_ble_eq_true rfl, Nat.le_of_ble_eq_true rfl⟩ rfl rfl (Nat.zero_le _) (Nat.zero_le _) (Nat.le_of_ble_eq_true rfl) rfl ?_
    have hle := nB_le (P 1 0 * 609359740010496 < E 2 (20 * k + r))
    refine x_if_eqN (tgt := 59) d_X1_firstAbove_48 (by decide) (by omega) (fun c_2 => by exfalso; exact nB_0.mp c_2 hys) (fun c_2 => ?_)
    refine x_bipush (v := nI 100) (by decide) d_X1_firstAbove_51 ?_
    refine x_iload_n rfl d_X1_firstAbove_53 ?_
    refine x_imulN d_X1_firstAbove_54 ?_
    refine x_iload rfl d_X1_firstAbove_55 ?_
    refine x_iaddN d_X1_firstAbove_57 ?_
    exact x_ireturn d_X1_firstAbove_58 rfl rfl rfl rfl (Nat.zero_le _) (Nat.zero_le _) (⟨rfl, rfl⟩)
  | succ n ih =>
    intro k hk
    have hpl := (Wp.2.2.1 r hr).2.1.1
    have hn20 := Wp.2.1
    refine x_aload_n rfl d_X1_firstAbove_19 ?_
    refine x_ifnull d_X1_firstAbove_20 ?_
    refine x_iload rfl d_X1_firstAbove_23 ?_
    refine x_aload_n rfl d_X1_firstAbove_25 ?_
    refine x_getf co_all (v := .int (nI ((R r) 0 0))) d_X1_firstAbove_26 fk_1_57 (o3_o (Wp.2.2.1 r hr).1) rfl ?_
    refine x_icmp_geN (tgt := 65) d_X1_firstAbove_29 (by decide) (by omega) (by omega) (fun c_1 => by exfalso; omega) (fun c_1 => ?_)
    refine x_aload_n rfl d_X1_firstAbove_32 ?_
    refine x_getf co_all (v := .ref (c + 1)) d_X1_firstAbove_33 fk_1_11 (o1_o H) rfl ?_
    refine x_iload_n rfl d_X1_firstAbove_36 ?_
    refine x_aaload d_X1_firstAbove_37 (o1_2 H) rfl (nIx_nI (j := r) (by omega) (by decide)) rfl ?_
    refine x_iload rfl d_X1_firstAbove_38 ?_
    refine x_laload d_X1_firstAbove_40 (o1_2i H (r := (r)) (by omega)) (nIx_nI (j := k) (by omega) (by decide)) ?_
    show nG _ _ _ _ _ _ (.long (lN (E 2 (20 * k + r))) :: _) _
    refine x_aload_n rfl d_X1_firstAbove_41 ?_
    refine x_getf co_all (v := .int (nI (P 1 0))) d_X1_firstAbove_42 fk_1_73 (o2_o Wp.1) rfl ?_
    refine x_rdS d_X1_firstAbove_45 lk_1_76 mo_X1_isAbove sc_X1_isAbove (sp_isAbove (hb r k hr (by omega)) hs) rfl ⟨Nat.le_of_ble_eq_true rfl, Nat.le_of_ble_eq_true rfl⟩ rfl rfl (Nat.zero_le _) (Nat.zero_le _) (Nat.le_of_ble_eq_true rfl) rfl ?_
    have hle := nB_le (P 1 0 * 609359740010496 < E 2 (20 * k + r))
    refine x_if_eqN (tgt := 59) d_X1_firstAbove_48 (by decide) (by omega) (fun c_2 => ?_) (fun c_2 => by exfalso; exact hno k (by omega) (nB_1.mp (by omega)))
    refine x_iincN (m := 1) d_X1_firstAbove_59 rfl (by decide) (Nat.le_of_ble_eq_true rfl) ?_
    refine x_goto (tgt := 19) d_X1_firstAbove_62 (by decide) ?_
    exact ih (k + 1) (by omega)
theorem lp_faY {c b : Nat} {P E : Nat → Nat → Nat} {R : Nat → Nat → Nat → Nat} {h : nPH} (Wp : pW h b P R) (H : o1 h c E) (hs : P 1 0 < 2 ^ 31) (hb : ∀ r k, r < P 5 0 → k < R r 0 0 → E 2 (20 * k + r) < 2 ^ 63) {r0 m : Nat} (hr0 : r0 < P 5 0) (hm : m < R r0 0 0) (hno0 : ∀ r k, r < r0 → k < R r 0 0 → ¬ P 1 0 * 609359740010496 < E 2 (20 * k + r)) (hno : ∀ k, k < m → ¬ P 1 0 * 609359740010496 < E 2 (20 * k + r0)) (hys : P 1 0 * 609359740010496 < E 2 (20 * m + r0)) : ∀ n r : Nat, r + n = r0 → nG YX1_firstAbove (nKy YX1_firstAbove h.1 h.2.1 (fun v h2 => v = some (.int (nI (100 * r0 + m))) ∧ h2 = h)) 0 0 2 [some (.ref (c)), some (.ref (b)), some (.int (nI (r))), none, none] [] h := by
  intro n
  induction n with
  | zero =>
    intro r hr1
    have e : r = r0 := by omega
    subst e
    have hr := hr0
    have hn20 := Wp.2.1
    refine x_iload_n rfl d_X1_firstAbove_2 ?_
    refine x_aload_n rfl d_X1_firstAbove_3 ?_
    refine x_getf co_all (v := .int (nI (P 5 0))) d_X1_firstAbove_4 fk_1_34 (o2_o Wp.1) rfl ?_
    refine x_icmp_geN (tgt := 71) d_X1_firstAbove_7 (by decide) (by omega) (by omega) (fun c_1 => by exfalso; omega) (fun c_1 => ?_)
    refine x_aload_n rfl d_X1_firstAbove_10 ?_
    refine x_iload_n rfl d_X1_firstAbove_11 ?_
    refine x_rdV d_X1_firstAbove_12 lk_1_38 mo_X2_rowAt vi_X2_rowAt (sp_rowAt Wp.1 Wp.2.1 hr) (o2_o Wp.1) ⟨_, rfl, rfl⟩ rfl ⟨Nat.le_of_ble_eq_true rfl, Nat.le_of_ble_eq_true rfl⟩ rfl rfl (Nat.zero_le _) (Nat.zero_le _) (Nat.le_of_ble_eq_true rfl) rfl ?_
    refine x_astore_n d_X1_firstAbove_15 (Nat.le_of_ble_eq_true rfl) ?_
    refine x_iconst (v := nI 0) (by decide) d_X1_firstAbove_16 ?_
    refine x_istore d_X1_firstAbove_17 (Nat.le_of_ble_eq_true rfl) ?_
    exact lp_faY1 Wp H hs hb hr hm hno hys m 0 (by omega)
  | succ n ih =>
    intro r hr1
    have hr : r < P 5 0 := by omega
    have hn20 := Wp.2.1
    refine x_iload_n rfl d_X1_firstAbove_2 ?_
    refine x_aload_n rfl d_X1_firstAbove_3 ?_
    refine x_getf co_all (v := .int (nI (P 5 0))) d_X1_firstAbove_4 fk_1_34 (o2_o Wp.1) rfl ?_
    refine x_icmp_geN (tgt := 71) d_X1_firstAbove_7 (by decide) (by omega) (by omega) (fun c_1 => by exfalso; omega) (fun c_1 => ?_)
    refine x_aload_n rfl d_X1_firstAbove_10 ?_
    refine x_iload_n rfl d_X1_firstAbove_11 ?_
    refine x_rdV d_X1_firstAbove_12 lk_1_38 mo_X2_rowAt vi_X2_rowAt (sp_rowAt Wp.1 Wp.2.1 hr) (o2_o Wp.1) ⟨_, rfl, rfl⟩ rfl ⟨Nat.le_of_ble_eq_true rfl, Nat.le_of_ble_eq_true rfl⟩ rfl rfl (Nat.zero_le _) (Nat.zero_le _) (Nat.le_of_ble_eq_true rfl) rfl ?_
    refine x_astore_n d_X1_firstAbove_15 (Nat.le_of_ble_eq_true rfl) ?_
    refine x_iconst (v := nI 0) (by decide) d_X1_firstAbove_16 ?_
    refine x_istore d_X1_firstAbove_17 (Nat.le_of_ble_eq_true rfl) ?_
    exact lp_faN1 Wp H hs hb hr (fun k hk => hno0 r k (by omega) hk) (ih (r + 1) (by omega)) (R r 0 0) 0 (by omega)
theorem sp_faY {c b : Nat} {P E : Nat → Nat → Nat} {R : Nat → Nat → Nat → Nat} {h : nPH} (Wp : pW h b P R) (H : o1 h c E) (hs : P 1 0 < 2 ^ 31) (hb : ∀ r k, r < P 5 0 → k < R r 0 0 → E 2 (20 * k + r) < 2 ^ 63) {r0 m : Nat} (hr0 : r0 < P 5 0) (hm : m < R r0 0 0) (hno0 : ∀ r k, r < r0 → k < R r 0 0 → ¬ P 1 0 * 609359740010496 < E 2 (20 * k + r)) (hno : ∀ k, k < m → ¬ P 1 0 * 609359740010496 < E 2 (20 * k + r0)) (hys : P 1 0 * 609359740010496 < E 2 (20 * m + r0)) : nRd YX1_firstAbove [.ref c, .ref b] h (.int (nI (100 * r0 + m))) := by
  refine nSp_of (by decide +kernel) rfl (Nat.le_of_ble_eq_true rfl) (ls := [some (.ref (c)), some (.ref (b)), none, none, none]) (by exact (And.intro rfl (And.intro rfl True.intro))) ?_
  refine x_iconst (v := nI 0) (by decide) d_X1_firstAbove_0 ?_
  refine x_istore_n d_X1_firstAbove_1 (Nat.le_of_ble_eq_true rfl) ?_
  exact nG.sub (by exact (And.intro rfl (And.intro rfl (And.intro rfl True.intro)))) (lp_faY Wp H hs hb hr0 hm hno0 hno hys (r0) 0 (by omega))
theorem lp_faN {c b : Nat} {P E : Nat → Nat → Nat} {R : Nat → Nat → Nat → Nat} {h : nPH} (Wp : pW h b P R) (H : o1 h c E) (hs : P 1 0 < 2 ^ 31) (hb : ∀ r k, r < P 5 0 → k < R r 0 0 → E 2 (20 * k + r) < 2 ^ 63) (hno0 : ∀ r k, r < P 5 0 → k < R r 0 0 → ¬ P 1 0 * 609359740010496 < E 2 (20 * k + r)) : ∀ n r : Nat, r + n = P 5 0 → nG YX1_firstAbove (nKy YX1_firstAbove h.1 h.2.1 (fun v h2 => v = some (.int (-1)) ∧ h2 = h)) 0 0 2 [some (.ref (c)), some (.ref (b)), some (.int (nI (r))), none, none] [] h := by
  intro n
  induction n with
  | zero =>
    intro r hr1
    have hn20 := Wp.2.1
    refine x_iload_n rfl d_X1_firstAbove_2 ?_
    refine x_aload_n rfl d_X1_firstAbove_3 ?_
    refine x_getf co_all (v := .int (nI (P 5 0))) d_X1_firstAbove_4 fk_1_34 (o2_o Wp.1) rfl ?_
    refine x_icmp_geN (tgt := 71) d_X1_firstAbove_7 (by decide) (by omega) (by omega) (fun c_1 => ?_) (fun c_1 => by exfalso; omega)
    refine x_iconst (v := -1) (by decide) d_X1_firstAbove_71 ?_
    exact x_ireturn d_X1_firstAbove_72 rfl rfl rfl rfl (Nat.zero_le _) (Nat.zero_le _) (⟨rfl, rfl⟩)
  | succ n ih =>
    intro r hr1
    have hr : r < P 5 0 := by omega
    have hn20 := Wp.2.1
    refine x_iload_n rfl d_X1_firstAbove_2 ?_
    refine x_aload_n rfl d_X1_firstAbove_3 ?_
    refine x_getf co_all (v := .int (nI (P 5 0))) d_X1_firstAbove_4 fk_1_34 (o2_o Wp.1) rfl ?_
    refine x_icmp_geN (tgt := 71) d_X1_firstAbove_7 (by decide) (by omega) (by omega) (fun c_1 => by exfalso; omega) (fun c_1 => ?_)
    refine x_aload_n rfl d_X1_firstAbove_10 ?_
    refine x_iload_n rfl d_X1_firstAbove_11 ?_
    refine x_rdV d_X1_firstAbove_12 lk_1_38 mo_X2_rowAt vi_X2_rowAt (sp_rowAt Wp.1 Wp.2.1 hr) (o2_o Wp.1) ⟨_, rfl, rfl⟩ rfl ⟨Nat.le_of_ble_eq_true rfl, Nat.le_of_ble_eq_true rfl⟩ rfl rfl (Nat.zero_le _) (Nat.zero_le _) (Nat.le_of_ble_eq_true rfl) rfl ?_
    refine x_astore_n d_X1_firstAbove_15 (Nat.le_of_ble_eq_true rfl) ?_
    refine x_iconst (v := nI 0) (by decide) d_X1_firstAbove_16 ?_
    refine x_istore d_X1_firstAbove_17 (Nat.le_of_ble_eq_true rfl) ?_
    exact lp_faN1 Wp H hs hb hr (fun k hk => hno0 r k (by omega) hk) (ih (r + 1) (by omega)) (R r 0 0) 0 (by omega)
theorem sp_faN {c b : Nat} {P E : Nat → Nat → Nat} {R : Nat → Nat → Nat → Nat} {h : nPH} (Wp : pW h b P R) (H : o1 h c E) (hs : P 1 0 < 2 ^ 31) (hb : ∀ r k, r < P 5 0 → k < R r 0 0 → E 2 (20 * k + r) < 2 ^ 63) (hno0 : ∀ r k, r < P 5 0 → k < R r 0 0 → ¬ P 1 0 * 609359740010496 < E 2 (20 * k + r)) : nRd YX1_firstAbove [.ref c, .ref b] h (.int (-1)) := by
  refine nSp_of (by decide +kernel) rfl (Nat.le_of_ble_eq_true rfl) (ls := [some (.ref (c)), some (.ref (b)), none, none, none]) (by exact (And.intro rfl (And.intro rfl True.intro))) ?_
  refine x_iconst (v := nI 0) (by decide) d_X1_firstAbove_0 ?_
  refine x_istore_n d_X1_firstAbove_1 (Nat.le_of_ble_eq_true rfl) ?_
  exact nG.sub (by exact (And.intro rfl (And.intro rfl (And.intro rfl True.intro)))) (lp_faN Wp H hs hb hno0 (P 5 0) 0 (by omega))
