/-! the model: tear, panel -/
def mTr (M : Nat → Nat → Nat) (y k : Nat) : Nat → Nat → Nat := fun f i => if (12 ≤ f ∧ f ≤ 14) ∧ 24 * y ≤ i ∧ i < 24 * y + k then 0 else M f i
theorem mTr_0 (M : Nat → Nat → Nat) (y f i : Nat) : mTr M y 0 f i = M f i := if_neg (by omega)
theorem mTr_s (M : Nat → Nat → Nat) (y k f i : Nat) : mTr M y (k + 1) f i = u2 (u2 (u2 (mTr M y k) 12 (24 * y + k) 0) 13 (24 * y + k) 0) 14 (24 * y + k) 0 f i := by
  by_cases e : (12 ≤ f ∧ f ≤ 14) ∧ i = 24 * y + k
  · obtain ⟨e1, rfl⟩ := e
    unfold mTr
    rw [if_pos (by omega)]
    rcases (show f = 12 ∨ f = 13 ∨ f = 14 by omega) with rfl | rfl | rfl
    · rw [u2_ne (by omega), u2_ne (by omega), u2_eq]
    · rw [u2_ne (by omega), u2_eq]
    · rw [u2_eq]
  · rw [u2_ne (by omega), u2_ne (by omega), u2_ne (by omega)]
    unfold mTr
    by_cases e2 : (12 ≤ f ∧ f ≤ 14) ∧ 24 * y ≤ i ∧ i < 24 * y + k
    · rw [if_pos e2, if_pos (by omega)]
    · rw [if_neg e2, if_neg (by omega)]
/-- the torn row -/
def mT1 (M : Nat → Nat → Nat) (y : Nat) : Nat → Nat → Nat := u2 (mCk M y 24) 9 y 1
/-- and its pulls -/
def mT2 (M : Nat → Nat → Nat) (p r : Nat) : Nat → Nat → Nat := if r = 0 then mNk (mT1 M (20 * p + r)) p 24 else mT1 M (20 * p + r)
/-- and the row below -/
def mT3 (M : Nat → Nat → Nat) (p r : Nat) : Nat → Nat → Nat := if M 2 p = r + 1 then mT2 M p r else mTr (mT2 M p r) (20 * p + (r + 1)) 24
theorem mT1_o {M : Nat → Nat → Nat} {y f i : Nat} (h8 : f = 8 ∨ f = 9 → i ≠ y) (h : 10 ≤ f → f ≤ 15 → i < 24 * y ∨ 24 * y + 24 ≤ i) : mT1 M y f i = M f i := by
  unfold mT1 mCk
  rw [u2_ne (by omega), if_neg (by omega), if_neg (by omega)]
theorem mT2_o {M : Nat → Nat → Nat} {p r f i : Nat} (h : f ≠ 7) : mT2 M p r f i = mT1 M (20 * p + r) f i := by
  unfold mT2
  split
  · exact if_neg (by omega)
  · rfl
/-- the row is torn -/
theorem rW_t1 {M V : Nat → Nat → Nat} {P : Nat → Nat → Nat → Nat} {R : Nat → Nat → Nat → Nat → Nat} {E Y T S : Nat → Nat → Nat} (W : rW M V P R E Y T S) {p r : Nat} (hp : p < V 1 0) (hr : r < P p 5 0) : rW (mT1 M (20 * p + r)) V P (uP R p (uR (R p) r (u2 (R p r) 0 0 0))) E Y T S := by
  have e0 : u2 (R p r) 0 0 0 0 0 = 0 := u2_eq _ _ _ _
  have eK : ∀ f k, 10 ≤ f → f ≤ 15 → k < 24 → mT1 M (20 * p + r) f (24 * (20 * p + r) + k) = if f = 11 then 1 else 0 := fun f k h1 h2 hk => by
    unfold mT1 mCk
    rw [u2_ne (by omega), if_neg (by omega), if_pos (by omega)]
  have e8 : mT1 M (20 * p + r) 8 (20 * p + r) = 0 := by
    unfold mT1 mCk
    rw [u2_ne (by omega), if_pos (by omega)]
  refine rW_row W hp hr (fun f i h8 h => mT1_o h8 h) ⟨e0.trans e8.symm, fun k hk => by omega⟩ ?_ (fun k hk => by omega) (fun k hk => ?_) (by omega) (fun k hk => ?_) (by omega)
  · rw [e0]
    exact u2_eq _ _ _ _
  · rw [eK 11 k (by decide) (by decide) hk]
    decide
  · unfold mK
    rw [eK 12 k (by decide) (by decide) hk, eK 13 k (by decide) (by decide) hk, eK 14 k (by decide) (by decide) hk, eK 15 k (by decide) (by decide) hk]
    decide
theorem rW_t2 {M V : Nat → Nat → Nat} {P : Nat → Nat → Nat → Nat} {R : Nat → Nat → Nat → Nat → Nat} {E Y T S : Nat → Nat → Nat} (W : rW M V P R E Y T S) (O : kO V P R) {p r : Nat} (hp : p < V 1 0) (hr : r < P p 5 0) : rW (mT2 M p r) V P (uP R p (uR (R p) r (u2 (R p r) 0 0 0))) E Y T S := by
  have W1 := rW_t1 W hp hr
  unfold mT2
  by_cases e : r = 0
  · rw [if_pos e]
    subst e
    obtain ⟨b2, b3, b4, b5, b6, b7, -⟩ := (W1.2.1 p hp).1
    have hn : ∀ f i, (f = 7 → i < 24 * p ∨ 24 * p + 24 ≤ i) → mNk (mT1 M (20 * p + 0)) p 24 f i = mT1 M (20 * p + 0) f i := fun f i h => if_neg (by omega)
    have Z := rW_head W1 hp (M2 := mNk (mT1 M (20 * p + 0)) p 24) (P2 := P p) (fun f i _ h => hn f i h) rfl ((hn 3 p (by omega)).trans b3) ((hn 4 p (by omega)).trans b4) ((hn 5 p (by omega)).trans b5) ((hn 6 p (by omega)).trans b6) (fun k hk => by
      rw [uP_eq, uR_eq, u2_eq] at hk
      omega) (fun q hq => by
      by_cases e : q = p
      · subst e; rw [uP_eq, uR_eq, u2_eq]; omega
      · rw [uP_ne e]; exact rW_z W O q hq)
    rwa [uPs, uPs] at Z
  · rw [if_neg e]
    exact W1
theorem rHN_f {D : Nat → Nat → Nat} {n f i : Nat} (h : f < 5) : rHN n D f i = D f i := if_neg (by omega)
theorem rHN_z {D : Nat → Nat → Nat} {n f i : Nat} (h : f = 5 ∨ f = 6) (hi : i < n) : rHN n D f i = 0 := if_pos ⟨h, hi⟩
theorem rW_t3 {M V : Nat → Nat → Nat} {P : Nat → Nat → Nat → Nat} {R : Nat → Nat → Nat → Nat → Nat} {E Y T S : Nat → Nat → Nat} (W : rW M V P R E Y T S) {p r : Nat} (hp : p < V 1 0) (hr : r < P p 5 0) : rW (mTr M (20 * p + r) 24) V P (uP R p (uR (R p) r (rHN 24 (R p r)))) E Y T S := by
  obtain ⟨a1, a2, a3, a4⟩ := (W.2.1 p hp).1.2.2.2.2.2.2 r hr
  have m1 := (W.2.1 p hp).2
  have m2 := m1.2 r (by have := (W.2.1 p hp).1.1; omega)
  have h24 : R p r 0 0 ≤ 24 := by rw [a1.1]; exact m2.1
  have eO : ∀ f i, (12 ≤ f → f ≤ 14 → i < 24 * (20 * p + r) ∨ 24 * (20 * p + r) + 24 ≤ i) → mTr M (20 * p + r) 24 f i = M f i := fun f i h => if_neg (by omega)
  have eZ : ∀ f k, 12 ≤ f → f ≤ 14 → k < 24 → mTr M (20 * p + r) 24 f (24 * (20 * p + r) + k) = 0 := fun f k h1 h2 h3 => if_pos (by omega)
  have e0 : rHN 24 (R p r) 0 0 = R p r 0 0 := rHN_f (by decide)
  refine rW_row W hp hr (fun f i h8 h => eO f i (fun x y => h (by omega) (by omega))) ⟨?_, fun k hk => ?_⟩ ?_ (fun k hk _ => ?_) (fun k hk => ?_) (by omega) (fun k hk => ?_) (by omega)
  · rw [e0, mR_0, eO 8 _ (by omega)]
    exact a1.1
  · rw [e0] at hk
    obtain ⟨q1, q2, q3, -⟩ := a1.2 k hk
    rw [mR_1, mR_2, mR_3, mR_4, mR_5, mR_6, eO 10 _ (by omega), eO 11 _ (by omega), eO 15 _ (by omega), eZ 13 k (by decide) (by decide) (by omega), eZ 14 k (by decide) (by decide) (by omega), rHN_f (f := 1) (by decide), rHN_f (f := 2) (by decide), rHN_f (f := 3) (by decide), rHN_z (Or.inl rfl) (by omega), rHN_z (Or.inr rfl) (by omega)]
    exact ⟨q1, q2, q3, rfl, rfl, fun z => absurd rfl z⟩
  · rw [e0, eO 9 _ (by omega)]
    exact a2
  · exact eZ 12 k (by decide) (by decide) (by omega)
  · rw [eO 11 _ (by omega)]
    exact a4 k hk
  · show mK (mTr M (20 * p + r) 24) _
    unfold mK
    rw [eZ 12 k (by decide) (by decide) hk, eZ 13 k (by decide) (by decide) hk, eZ 14 k (by decide) (by decide) hk, eO 15 _ (by omega)]
    exact ⟨by decide, by decide, by decide, fun _ => rfl, (m2.2 k hk).2.2.2.2⟩
theorem lp_mt2 {h0 : nPH} {Post : Option Value → nPH → Prop} {b : Nat} {N : Nat → Nat → Nat} {p r : Nat} (hp : p < 12) (hr : r + 1 < 20) (hP : ∀ h2, nFr (nIv b 24) h0 h2 → o8 h2 b (mTr N (20 * p + (r + 1)) 24) → Post (some (.int (nI 1))) h2) : ∀ n k : Nat, k + n = 24 → ∀ h : nPH, nFr (nIv b 24) h0 h → o8 h b (mTr N (20 * p + (r + 1)) k) → nG YX8_tear (nKy YX8_tear h0.1 h0.2.1 Post) 0 0 89 [some (.ref (b)), some (.int (nI (p))), some (.int (nI (r))), some (.int (nI (k))), none] [] h := by
  intro n
  induction n with
  | zero =>
    intro k hk h F H
    have e : k = 24 := by omega
    subst e
    refine x_iload_n rfl d_X8_tear_89 ?_
    refine x_bipush (v := nI 24) (by decide) d_X8_tear_90 ?_
    refine x_icmp_geN (tgt := 135) d_X8_tear_92 (by decide) (by omega) (by omega) (fun c_1 => ?_) (fun c_1 => by exfalso; omega)
    refine x_iconst (v := nI 1) (by decide) d_X8_tear_135 ?_
    exact x_ireturn d_X8_tear_136 rfl (by first | rfl | exact nB_nar _ | exact nB_nar1 (by omega)) F.1 F.2.1 (Nat.zero_le _) (Nat.zero_le _) (hP _ F H)
  | succ n ih =>
    intro k hk h F H
    refine x_iload_n rfl d_X8_tear_89 ?_
    refine x_bipush (v := nI 24) (by decide) d_X8_tear_90 ?_
    refine x_icmp_geN (tgt := 135) d_X8_tear_92 (by decide) (by omega) (by omega) (fun c_1 => by exfalso; omega) (fun c_1 => ?_)
    refine x_iload_n rfl d_X8_tear_95 ?_
    refine x_iload_n rfl d_X8_tear_96 ?_
    refine x_iconst (v := nI 1) (by decide) d_X8_tear_97 ?_
    refine x_iaddN d_X8_tear_98 ?_
    refine x_iload_n rfl d_X8_tear_99 ?_
    refine x_rdS d_X8_tear_100 lk_8_99 mo_X8_at sc_X8_at (sp_at) rfl ⟨Nat.le_of_ble_eq_true rfl, Nat.le_of_ble_eq_true rfl⟩ rfl rfl (Nat.zero_le _) (Nat.zero_le _) (Nat.le_of_ble_eq_true rfl) rfl ?_
    refine x_istore d_X8_tear_103 (Nat.le_of_ble_eq_true rfl) ?_
    refine x_aload_n rfl d_X8_tear_105 ?_
    refine x_getf co_all (v := .ref (b + 11)) d_X8_tear_106 fk_8_45 (o8_o H) rfl ?_
    refine x_iload rfl d_X8_tear_109 ?_
    refine x_iconst (v := -1) (by decide) d_X8_tear_111 ?_
    rw [← nV_0]
    refine x_iastore d_X8_tear_112 (o8_12 H) (nIx_nI (j := 24 * (20 * p + (r + 1)) + k) (by omega) (by decide)) (Nat.le_trans (o8_B H) (Nat.le_add_right _ _)) ?_
    have H2_8 := o8_ast12 (24 * (20 * p + (r + 1)) + k) (0) H
    have f_3 := o8_f12 (24 * (20 * p + (r + 1)) + k) (0) H (F) (by exact ⟨by omega, by omega⟩)
    refine x_aload_n rfl d_X8_tear_113 ?_
    refine x_getf co_all (v := .ref (b + 12)) d_X8_tear_114 fk_8_48 (o8_o H2_8) rfl ?_
    refine x_iload rfl d_X8_tear_117 ?_
    refine x_iconst (v := nI 0) (by decide) d_X8_tear_119 ?_
    refine x_iastore d_X8_tear_120 (o8_13 H2_8) (nIx_nI (j := 24 * (20 * p + (r + 1)) + k) (by omega) (by decide)) (Nat.le_trans (o8_B H2_8) (Nat.le_add_right _ _)) ?_
    have H4_8 := o8_ast13 (24 * (20 * p + (r + 1)) + k) (0) H2_8
    have f_5 := o8_f13 (24 * (20 * p + (r + 1)) + k) (0) H2_8 (f_3) (by exact ⟨by omega, by omega⟩)
    refine x_aload_n rfl d_X8_tear_121 ?_
    refine x_getf co_all (v := .ref (b + 13)) d_X8_tear_122 fk_8_51 (o8_o H4_8) rfl ?_
    refine x_iload rfl d_X8_tear_125 ?_
    refine x_iconst (v := nI 0) (by decide) d_X8_tear_127 ?_
    refine x_iastore d_X8_tear_128 (o8_14 H4_8) (nIx_nI (j := 24 * (20 * p + (r + 1)) + k) (by omega) (by decide)) (Nat.le_trans (o8_B H4_8) (Nat.le_add_right _ _)) ?_
    have H6_8 := o8_ast14 (24 * (20 * p + (r + 1)) + k) (0) H4_8
    have f_7 := o8_f14 (24 * (20 * p + (r + 1)) + k) (0) H4_8 (f_5) (by exact ⟨by omega, by omega⟩)
    refine x_iincN (m := 1) d_X8_tear_129 rfl (by decide) (Nat.le_of_ble_eq_true rfl) ?_
    refine x_goto (tgt := 89) d_X8_tear_132 (by decide) ?_
    exact nG.sub (by exact (And.intro rfl (And.intro rfl (And.intro rfl (And.intro rfl True.intro))))) (ih (k + 1) (by omega) _ f_7 (o8_cg H6_8 (mTr_s N (20 * p + (r + 1)) k)))
theorem lp_mt73 {h0 h : nPH} {Post : Option Value → nPH → Prop} {b : Nat} {M : Nat → Nat → Nat} {p r : Nat} (hp : p < 12) (hr : r < M 2 p) (h20 : M 2 p ≤ 20) (hP : ∀ h2, nFr (nIv b 24) h0 h2 → o8 h2 b (mT3 M p r) → Post (some (.int (nI 1))) h2) (F : nFr (nIv b 24) h0 h) (H : o8 h b (mT2 M p r)) : nG YX8_tear (nKy YX8_tear h0.1 h0.2.1 Post) 0 0 73 [some (.ref (b)), some (.int (nI (p))), some (.int (nI (r))), none, none] [] h := by
  have e2 : mT2 M p r 2 p = M 2 p := (mT2_o (by decide)).trans (mT1_o (by omega) (by omega))
  refine x_iload_n rfl d_X8_tear_73 ?_
  refine x_iconst (v := nI 1) (by decide) d_X8_tear_74 ?_
  refine x_iaddN d_X8_tear_75 ?_
  refine x_aload_n rfl d_X8_tear_76 ?_
  refine x_getf co_all (v := .ref (b + 1)) d_X8_tear_77 fk_8_13 (o8_o H) rfl ?_
  refine x_iload_n rfl d_X8_tear_80 ?_
  refine x_iaload d_X8_tear_81 (o8_2 H) (nIx_nI (j := p) (by omega) (by decide)) ?_
  rw [e2]
  refine x_icmp_neN (tgt := 87) d_X8_tear_82 (by decide) (by omega) (by omega) (fun c_2 => ?_) (fun c_2 => ?_)
  · refine x_iconst (v := nI 0) (by decide) d_X8_tear_87 ?_
    refine x_istore_n d_X8_tear_88 (Nat.le_of_ble_eq_true rfl) ?_
    exact nG.sub (by exact (And.intro rfl (And.intro rfl (And.intro rfl (And.intro rfl True.intro))))) (lp_mt2 hp (by omega) (N := mT2 M p r) (fun h2 F2 H2 => hP h2 F2 (by unfold mT3; rw [if_neg (by omega)]; exact H2)) 24 0 (by omega) _ F (o8_cg H (mTr_0 _ _)))
  · refine x_iconst (v := nI 1) (by decide) d_X8_tear_85 ?_
    exact x_ireturn d_X8_tear_86 rfl (by first | rfl | exact nB_nar _ | exact nB_nar1 (by omega)) F.1 F.2.1 (Nat.zero_le _) (Nat.zero_le _) (hP _ F (by unfold mT3; rw [if_pos (by omega)]; exact H))
theorem lp_mt1 {h0 : nPH} {Post : Option Value → nPH → Prop} {b : Nat} {M : Nat → Nat → Nat} {p r : Nat} (hp : p < 12) (hr : r < M 2 p) (h20 : M 2 p ≤ 20) (hP : ∀ h2, nFr (nIv b 24) h0 h2 → o8 h2 b (mT3 M p r) → Post (some (.int (nI 1))) h2) (h0r : r = 0) : ∀ n k : Nat, k + n = 24 → ∀ h : nPH, nFr (nIv b 24) h0 h → o8 h b (mNk (mT1 M (20 * p + r)) p k) → nG YX8_tear (nKy YX8_tear h0.1 h0.2.1 Post) 0 0 49 [some (.ref (b)), some (.int (nI (p))), some (.int (nI (r))), some (.int (nI (k))), none] [] h := by
  intro n
  induction n with
  | zero =>
    intro k hk h F H
    have e : k = 24 := by omega
    subst e
    refine x_iload_n rfl d_X8_tear_49 ?_
    refine x_bipush (v := nI 24) (by decide) d_X8_tear_50 ?_
    refine x_icmp_geN (tgt := 73) d_X8_tear_52 (by decide) (by omega) (by omega) (fun c_1 => ?_) (fun c_1 => by exfalso; omega)
    exact nG.sub (by exact (And.intro rfl (And.intro rfl (And.intro rfl True.intro)))) (lp_mt73 hp hr h20 hP F (by unfold mT2; rw [if_pos h0r]; exact H))
  | succ n ih =>
    intro k hk h F H
    refine x_iload_n rfl d_X8_tear_49 ?_
    refine x_bipush (v := nI 24) (by decide) d_X8_tear_50 ?_
    refine x_icmp_geN (tgt := 73) d_X8_tear_52 (by decide) (by omega) (by omega) (fun c_1 => by exfalso; omega) (fun c_1 => ?_)
    refine x_aload_n rfl d_X8_tear_55 ?_
    refine x_getf co_all (v := .ref (b + 6)) d_X8_tear_56 fk_8_29 (o8_o H) rfl ?_
    refine x_bipush (v := nI 24) (by decide) d_X8_tear_59 ?_
    refine x_iload_n rfl d_X8_tear_61 ?_
    refine x_imulN d_X8_tear_62 ?_
    refine x_iload_n rfl d_X8_tear_63 ?_
    refine x_iaddN d_X8_tear_64 ?_
    refine x_iconst (v := nI 0) (by decide) d_X8_tear_65 ?_
    refine x_iastore d_X8_tear_66 (o8_7 H) (nIx_nI (j := (24 * p) + k) (by omega) (by decide)) (Nat.le_trans (o8_B H) (Nat.le_add_right _ _)) ?_
    have H2_8 := o8_ast7 ((24 * p) + k) (0) H
    have f_3 := o8_f7 ((24 * p) + k) (0) H (F) (by exact ⟨by omega, by omega⟩)
    refine x_iincN (m := 1) d_X8_tear_67 rfl (by decide) (Nat.le_of_ble_eq_true rfl) ?_
    refine x_goto (tgt := 49) d_X8_tear_70 (by decide) ?_
    exact nG.sub (by exact (And.intro rfl (And.intro rfl (And.intro rfl (And.intro rfl True.intro))))) (ih (k + 1) (by omega) _ f_3 (o8_cg H2_8 (mNk_s _ p k)))
theorem sp_mtear {h : nPH} {b : Nat} {M : Nat → Nat → Nat} (H : o8 h b M) (hn : M 1 0 ≤ 12) {p r : Nat} (hp : p < M 1 0) (hr : r < M 2 p) (h20 : M 2 p ≤ 20) (h9 : M 9 (20 * p + r) = 0) : nWv YX8_tear [.ref b, .int (nI p), .int (nI r)] h (some (.int (nI 1))) (fun h2 => nFr (nIv b 24) h h2 ∧ o8 h2 b (mT3 M p r)) := by
  refine nSp_of (by decide +kernel) rfl (Nat.le_of_ble_eq_true rfl) (ls := [some (.ref (b)), some (.int (nI (p))), some (.int (nI (r))), none, none]) (by exact (And.intro rfl (And.intro rfl (And.intro rfl True.intro)))) ?_
  refine x_aload_n rfl d_X8_tear_0 ?_
  refine x_iload_n rfl d_X8_tear_1 ?_
  refine x_iload_n rfl d_X8_tear_2 ?_
  refine x_rdV d_X8_tear_3 lk_8_95 mo_X8_isRow vi_X8_isRow (sp_isRow H hn hp hr h20) (o8_o H) ⟨_, rfl, rfl⟩ rfl ⟨Nat.le_of_ble_eq_true rfl, Nat.le_of_ble_eq_true rfl⟩ rfl rfl (Nat.zero_le _) (Nat.zero_le _) (Nat.le_of_ble_eq_true rfl) rfl ?_
  refine x_if_eqN (tgt := 23) d_X8_tear_6 (by decide) (by omega) (fun c_1 => by exfalso; omega) (fun c_1 => ?_)
  refine x_aload_n rfl d_X8_tear_9 ?_
  refine x_getf co_all (v := .ref (b + 8)) d_X8_tear_10 fk_8_35 (o8_o H) rfl ?_
  refine x_bipush (v := nI 20) (by decide) d_X8_tear_13 ?_
  refine x_iload_n rfl d_X8_tear_15 ?_
  refine x_imulN d_X8_tear_16 ?_
  refine x_iload_n rfl d_X8_tear_17 ?_
  refine x_iaddN d_X8_tear_18 ?_
  refine x_baload d_X8_tear_19 (o8_9 H) (nIx_nI (j := (20 * p) + r) (by omega) (by decide)) ?_
  refine x_if_eqN (tgt := 25) d_X8_tear_20 (by decide) (by omega) (fun c_2 => ?_) (fun c_2 => by exfalso; omega)
  refine x_aload_n rfl d_X8_tear_25 ?_
  refine x_iload_n rfl d_X8_tear_26 ?_
  refine x_iload_n rfl d_X8_tear_27 ?_
  refine x_wvV d_X8_tear_28 lk_8_108 mo_X8_clears vi_X8_clears (sp_mcl (p := p) (r := r) (by omega) (by omega) H) (o8_o H) ⟨_, rfl, rfl⟩ rfl ⟨Nat.le_of_ble_eq_true rfl, Nat.le_of_ble_eq_true rfl⟩ (Nat.zero_le _) (Nat.zero_le _) (Nat.le_of_ble_eq_true rfl) rfl (fun h3 hq_ e3a e3b => ?_)
  obtain ⟨G3, H3⟩ := hq_
  have F3 := ((nFr.rf (S := nIv b 24) (h := h))).tr G3
  refine x_aload_n rfl d_X8_tear_31 ?_
  refine x_getf co_all (v := .ref (b + 8)) d_X8_tear_32 fk_8_35 (o8_o H3) rfl ?_
  refine x_bipush (v := nI 20) (by decide) d_X8_tear_35 ?_
  refine x_iload_n rfl d_X8_tear_37 ?_
  refine x_imulN d_X8_tear_38 ?_
  refine x_iload_n rfl d_X8_tear_39 ?_
  refine x_iaddN d_X8_tear_40 ?_
  refine x_iconst (v := nI 1) (by decide) d_X8_tear_41 ?_
  refine x_bastore d_X8_tear_42 (o8_9 H3) (nIx_nI (j := (20 * p) + r) (by omega) (by decide)) rfl (Nat.le_trans (o8_B H3) (Nat.le_add_right _ _)) ?_
  have H3_8 := o8_ast9 ((20 * p) + r) (1) H3
  have f_4 := o8_f9 ((20 * p) + r) (1) H3 (F3) (by exact ⟨by omega, by omega⟩)
  refine x_iload_n rfl d_X8_tear_43 ?_
  refine x_if_neN (tgt := 73) d_X8_tear_44 (by decide) (by omega) (fun c_4 => ?_) (fun c_4 => ?_)
  · exact nG.sub (by exact (And.intro rfl (And.intro rfl (And.intro rfl True.intro)))) (lp_mt73 (by omega) hr h20 (fun h2 F2 H2 => ⟨rfl, F2, H2⟩) f_4 (by unfold mT2; rw [if_neg (by omega)]; exact H3_8))
  · refine x_iconst (v := nI 0) (by decide) d_X8_tear_47 ?_
    refine x_istore_n d_X8_tear_48 (Nat.le_of_ble_eq_true rfl) ?_
    exact nG.sub (by exact (And.intro rfl (And.intro rfl (And.intro rfl (And.intro rfl True.intro))))) (lp_mt1 (by omega) hr h20 (fun h2 F2 H2 => ⟨rfl, F2, H2⟩) (by omega) 24 0 (by omega) _ f_4 (o8_cg H3_8 (fun f i => if_neg (by omega))))
theorem sp_mtear0 {h : nPH} {b : Nat} {M : Nat → Nat → Nat} (H : o8 h b M) (hn : M 1 0 ≤ 12) {p r : Nat} (hp : p < M 1 0) (hr : r < M 2 p) (h20 : M 2 p ≤ 20) (h9 : M 9 (20 * p + r) = 1) : nRd YX8_tear [.ref (b), .int (nI (p)), .int (nI (r))] h (.int (nI 0)) := by
  refine nSp_of (by decide +kernel) rfl (Nat.le_of_ble_eq_true rfl) (ls := [some (.ref (b)), some (.int (nI (p))), some (.int (nI (r))), none, none]) (by exact (And.intro rfl (And.intro rfl (And.intro rfl True.intro)))) ?_
  refine x_aload_n rfl d_X8_tear_0 ?_
  refine x_iload_n rfl d_X8_tear_1 ?_
  refine x_iload_n rfl d_X8_tear_2 ?_
  refine x_rdV d_X8_tear_3 lk_8_95 mo_X8_isRow vi_X8_isRow (sp_isRow H hn hp hr h20) (o8_o H) ⟨_, rfl, rfl⟩ rfl ⟨Nat.le_of_ble_eq_true rfl, Nat.le_of_ble_eq_true rfl⟩ rfl rfl (Nat.zero_le _) (Nat.zero_le _) (Nat.le_of_ble_eq_true rfl) rfl ?_
  refine x_if_eqN (tgt := 23) d_X8_tear_6 (by decide) (by omega) (fun c_1 => by exfalso; omega) (fun c_1 => ?_)
  refine x_aload_n rfl d_X8_tear_9 ?_
  refine x_getf co_all (v := .ref (b + 8)) d_X8_tear_10 fk_8_35 (o8_o H) rfl ?_
  refine x_bipush (v := nI 20) (by decide) d_X8_tear_13 ?_
  refine x_iload_n rfl d_X8_tear_15 ?_
  refine x_imulN d_X8_tear_16 ?_
  refine x_iload_n rfl d_X8_tear_17 ?_
  refine x_iaddN d_X8_tear_18 ?_
  refine x_baload d_X8_tear_19 (o8_9 H) (nIx_nI (j := (20 * p) + r) (by omega) (by decide)) ?_
  refine x_if_eqN (tgt := 25) d_X8_tear_20 (by decide) (by omega) (fun c_2 => by exfalso; omega) (fun c_2 => ?_)
  refine x_iconst (v := nI 0) (by decide) d_X8_tear_23 ?_
  exact x_ireturn d_X8_tear_24 rfl (by first | rfl | exact nB_nar _ | exact nB_nar1 (by omega)) rfl rfl (Nat.zero_le _) (Nat.zero_le _) (⟨rfl, rfl⟩)
theorem md_tearP {h : nPH} {b : Nat} {M V : Nat → Nat → Nat} {P : Nat → Nat → Nat → Nat} {R : Nat → Nat → Nat → Nat → Nat} {E Y T S : Nat → Nat → Nat} (H : o8 h b M) (W : rW M V P R E Y T S) (O : kO V P R) {p : Int32} (hp : ¬ nIn p (V 1 0)) {r : Int32} : nRd YX8_tear [.ref (b), .int (p), .int (r)] h (.int (nI 0)) := by
  refine nSp_of (by decide +kernel) rfl (Nat.le_of_ble_eq_true rfl) (ls := [some (.ref (b)), some (.int (p)), some (.int (r)), none, none]) (by exact (And.intro rfl (And.intro rfl (And.intro rfl True.intro)))) ?_
  refine x_aload_n rfl d_X8_tear_0 ?_
  refine x_iload_n rfl d_X8_tear_1 ?_
  refine x_iload_n rfl d_X8_tear_2 ?_
  refine x_rdV d_X8_tear_3 lk_8_95 mo_X8_isRow vi_X8_isRow (sp_isRowP H (rW_n W O) (rW_x W hp)) (o8_o H) ⟨_, rfl, rfl⟩ rfl ⟨Nat.le_of_ble_eq_true rfl, Nat.le_of_ble_eq_true rfl⟩ rfl rfl (Nat.zero_le _) (Nat.zero_le _) (Nat.le_of_ble_eq_true rfl) rfl ?_
  refine x_if_eqN (tgt := 23) d_X8_tear_6 (by decide) (by omega) (fun c_1 => ?_) (fun c_1 => by exfalso; omega)
  refine x_iconst (v := nI 0) (by decide) d_X8_tear_23 ?_
  exact x_ireturn d_X8_tear_24 rfl (by first | rfl | exact nB_nar _ | exact nB_nar1 (by omega)) rfl rfl (Nat.zero_le _) (Nat.zero_le _) (⟨rfl, rfl⟩)
theorem md_tearR {h : nPH} {b : Nat} {M V : Nat → Nat → Nat} {P : Nat → Nat → Nat → Nat} {R : Nat → Nat → Nat → Nat → Nat} {E Y T S : Nat → Nat → Nat} (H : o8 h b M) (W : rW M V P R E Y T S) (O : kO V P R) {p : Nat} (hp : p < V 1 0) {r : Int32} (hr : ¬ nIn r (P p 5 0)) : nRd YX8_tear [.ref (b), .int (nI (p)), .int (r)] h (.int (nI 0)) := by
  obtain ⟨p1, p2, p3, p4, p5, p6, p7, p8⟩ := rW_p W O hp
  refine nSp_of (by decide +kernel) rfl (Nat.le_of_ble_eq_true rfl) (ls := [some (.ref (b)), some (.int (nI (p))), some (.int (r)), none, none]) (by exact (And.intro rfl (And.intro rfl (And.intro rfl True.intro)))) ?_
  refine x_aload_n rfl d_X8_tear_0 ?_
  refine x_iload_n rfl d_X8_tear_1 ?_
  refine x_iload_n rfl d_X8_tear_2 ?_
  refine x_rdV d_X8_tear_3 lk_8_95 mo_X8_isRow vi_X8_isRow (sp_isRowR H p2 p1 (by rw [p4]; exact hr) p5) (o8_o H) ⟨_, rfl, rfl⟩ rfl ⟨Nat.le_of_ble_eq_true rfl, Nat.le_of_ble_eq_true rfl⟩ rfl rfl (Nat.zero_le _) (Nat.zero_le _) (Nat.le_of_ble_eq_true rfl) rfl ?_
  refine x_if_eqN (tgt := 23) d_X8_tear_6 (by decide) (by omega) (fun c_1 => ?_) (fun c_1 => by exfalso; omega)
  refine x_iconst (v := nI 0) (by decide) d_X8_tear_23 ?_
  exact x_ireturn d_X8_tear_24 rfl (by first | rfl | exact nB_nar _ | exact nB_nar1 (by omega)) rfl rfl (Nat.zero_le _) (Nat.zero_le _) (⟨rfl, rfl⟩)
theorem md_tear0 {h : nPH} {b : Nat} {M V : Nat → Nat → Nat} {P : Nat → Nat → Nat → Nat} {R : Nat → Nat → Nat → Nat → Nat} {E Y T S : Nat → Nat → Nat} (H : o8 h b M) (W : rW M V P R E Y T S) (O : kO V P R) {p : Nat} (hp : p < V 1 0) {r : Nat} (hr : r < P p 5 0) (h0 : R p r 0 0 = 0) : nRd YX8_tear [.ref b, .int (nI p), .int (nI r)] h (.int (nI 0)) := by
  obtain ⟨p1, p2, p3, p4, p5, p6, p7, p8⟩ := rW_p W O hp
  exact sp_mtear0 H p2 p1 (by omega) p5 (by rw [((W.2.1 p hp).1.2.2.2.2.2.2 r hr).2.1, nB_T h0])
theorem md_tearL {h : nPH} {b : Nat} {M V : Nat → Nat → Nat} {P : Nat → Nat → Nat → Nat} {R : Nat → Nat → Nat → Nat → Nat} {E Y T S : Nat → Nat → Nat} (H : o8 h b M) (W : rW M V P R E Y T S) (O : kO V P R) {p : Nat} (hp : p < V 1 0) {r : Nat} (hr : r < P p 5 0) (h0 : ¬ R p r 0 0 = 0) (hr1 : ¬ r + 1 < P p 5 0) : nWv YX8_tear [.ref b, .int (nI p), .int (nI r)] h (some (.int (nI 1))) (fun h2 => nFr (nIv b 24) h h2 ∧ ∃ M2, o8 h2 b M2 ∧ rW M2 V P (uP R p (uR (R p) r (u2 (R p r) 0 0 0))) E Y T S) := by
  obtain ⟨p1, p2, p3, p4, p5, p6, p7, p8⟩ := rW_p W O hp
  refine nSp.mono (sp_mtear H p2 p1 (r := r) (by omega) p5 (by rw [((W.2.1 p hp).1.2.2.2.2.2.2 r hr).2.1, nB_F h0])) (fun v h2 y => ⟨y.1, y.2.1, _, y.2.2, ?_⟩)
  unfold mT3
  rw [if_pos (by omega)]
  exact rW_t2 W O hp hr
theorem md_tear {h : nPH} {b : Nat} {M V : Nat → Nat → Nat} {P : Nat → Nat → Nat → Nat} {R : Nat → Nat → Nat → Nat → Nat} {E Y T S : Nat → Nat → Nat} (H : o8 h b M) (W : rW M V P R E Y T S) (O : kO V P R) {p : Nat} (hp : p < V 1 0) {r : Nat} (hr : r < P p 5 0) (h0 : ¬ R p r 0 0 = 0) (hr1 : r + 1 < P p 5 0) : nWv YX8_tear [.ref b, .int (nI p), .int (nI r)] h (some (.int (nI 1))) (fun h2 => nFr (nIv b 24) h h2 ∧ ∃ M2, o8 h2 b M2 ∧ rW M2 V P (uP R p (uR (uR (R p) r (u2 (R p r) 0 0 0)) (r + 1) (rHN 24 (R p (r + 1))))) E Y T S) := by
  obtain ⟨p1, p2, p3, p4, p5, p6, p7, p8⟩ := rW_p W O hp
  refine nSp.mono (sp_mtear H p2 p1 (r := r) (by omega) p5 (by rw [((W.2.1 p hp).1.2.2.2.2.2.2 r hr).2.1, nB_F h0])) (fun v h2 y => ⟨y.1, y.2.1, _, y.2.2, ?_⟩)
  unfold mT3
  rw [if_neg (by omega)]
  have Z := rW_t3 (rW_t2 W O hp hr) hp hr1
  rwa [uuP, uP_eq, uR_ne (show r + 1 ≠ r by omega)] at Z
theorem kO_tear {V : Nat → Nat → Nat} {P : Nat → Nat → Nat → Nat} {R : Nat → Nat → Nat → Nat → Nat} (O : kO V P R) {p r : Nat} (hp : p < V 1 0) (hr : r < P p 5 0) {R2 : Nat → Nat → Nat → Nat} (h1 : ∀ s, s ≠ r → s ≠ r + 1 → R2 s = R p s) (h2 : R2 r = u2 (R p r) 0 0 0) (h3 : r + 1 < P p 5 0 → R2 (r + 1) = rHN 24 (R p (r + 1))) : kO V P (uP R p R2) := by
  refine kO_row O (fun _ => ?_)
  obtain ⟨a1, a2, a3, a4, a5, a6, a7⟩ := O.2.2.2 p hp
  have hok : ∀ s, s < P p 5 0 → rOK (R2 s) := fun s hs => by
    by_cases e : s = r
    · subst e; rw [h2]; exact rOK_no (a3 s hs)
    · by_cases e2 : s = r + 1
      · subst e2; rw [h3 hs]; exact rOK_HN (a3 (r + 1) hs)
      · rw [h1 s e e2]; exact a3 s hs
  have hz : ∀ s k, s = r → ¬ k < R2 s 0 0 := fun s k e => by
    rw [e, h2, u2_eq]
    omega
  have h5 : ∀ s, s < P p 5 0 → s = r + 1 → ∀ k, k < R2 s 0 0 → R2 s 5 k = 0 := fun s hs e k hk => by
    subst e
    have := (hok (r + 1) hs).1
    rw [h3 hs] at hk this ⊢
    exact rHN_z (Or.inl rfl) (by omega)
  refine ⟨a1, a2, hok, ⟨fun k hk => ?_, fun s hs k hk => ?_⟩, a5, a6, fun s hs => ?_⟩
  · by_cases e : (0 : Nat) = r
    · exact absurd hk (hz 0 k e)
    · rw [h1 0 e (by omega)] at hk ⊢
      exact a4.1 k hk
  · by_cases e : s + 1 = r
    · exact absurd hk (hz (s + 1) k e)
    · by_cases e2 : s + 1 = r + 1
      · exact Or.inl (h5 (s + 1) hs e2 k hk)
      · rw [h1 (s + 1) e e2] at hk ⊢
        have q := a4.2 s hs k hk
        by_cases e3 : s = r + 1
        · subst e3
          rw [h3 (by omega), rHN_f (by decide)]
          exact q
        · rw [h1 s (by omega) e3]
          exact q
  · by_cases e : s + 1 = r
    · have e0 : R2 (s + 1) 0 0 = 0 := by rw [e, h2, u2_eq]
      rw [e0]
      exact ⟨fun q => Nat.zero_le _, Nat.zero_le _⟩
    · by_cases e2 : s + 1 = r + 1
      · have q5 := h5 (s + 1) hs e2
        refine ⟨fun q => ?_, ?_⟩
        · rw [show fb_sm (fun j => nb (hgb (R2 (s + 1)) j q)) (R2 (s + 1) 0 0) = fb_sm (fun _ => 0) (R2 (s + 1) 0 0) from fb_sm_cong (fun j hj => nb_F (hgb_F.mpr (by rw [q5 j hj]; omega)))]
          have := fb_sm_bound (f := fun _ => 0) (c := 0) (n := R2 (s + 1) 0 0) (fun _ _ => Nat.le_refl _)
          omega
        · rw [show fb_sm (fun j => R2 (s + 1) 5 j) (R2 (s + 1) 0 0) = fb_sm (fun _ => 0) (R2 (s + 1) 0 0) from fb_sm_cong (fun j hj => q5 j hj)]
          have := fb_sm_bound (f := fun _ => 0) (c := 0) (n := R2 (s + 1) 0 0) (fun _ _ => Nat.le_refl _)
          omega
      · rw [h1 (s + 1) e e2]
        exact a7 s hs
