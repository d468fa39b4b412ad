/-! one twine, the model: goesOn -/
theorem kO_ti {V : Nat → Nat → Nat} {P : Nat → Nat → Nat → Nat} {R : Nat → Nat → Nat → Nat → Nat} (O : kO V P R) (p j i q : Nat) : kO V P (uP R p (tiR (R p) j i q)) :=
  kO_row O (fun hp => kP_row (O.2.2.2 p hp) (fun hr => rOK_sto ((O.2.2.2 p hp).2.2.1 j hr) 1 i q) (sto_f (by decide)) (fun k => sto_f (by decide)) (fun k => sto_f (by decide)))
theorem sp_tie1 {h : nPH} {b : Nat} {M V : Nat → Nat → Nat} {P : Nat → Nat → Nat → Nat} {R : Nat → Nat → Nat → Nat → Nat} {E Y T S : Nat → Nat → Nat} (H : o8 h b M) (W : rW M V P R E Y T S) (O : kO V P R) {p : Nat} (hp : p < V 1 0) {x y j i q : Nat} (D : sdE (R p) x y j i q) (hj : j < P p 5 0) (hi : i < R p j 0 0) : nWv YX8_ties [.ref b, .int (nI p), .int (nI x), .int (nI y), .int (nI 1)] h none (fun h2 => nFr (nIv b 24) h h2 ∧ ∃ M2, o8 h2 b M2 ∧ rW M2 V P (uP R p (tiR (R p) j i q)) E Y T S) := by
  obtain ⟨h1, h2, h3, h4, h5⟩ := D
  have hh := hgb_T.mpr (igo_hg h5)
  have e : uR (R p) j (u2 (R p j) 6 i (sclr (R p j 6 i) (q - R p j 4 i))) = tiR (R p) j i q := by
    unfold tiR sto
    rw [if_pos hh]
    rfl
  rw [← e]
  rcases h1 with ⟨rfl, rfl⟩ | ⟨rfl, rfl⟩
  · exact sp_mtieA1 H W O hp hj h2 hi h4 hh
  · exact sp_mtieB1 H W O hp hj h2 hi h4 hh
theorem sp_tie0 {h : nPH} {b : Nat} {M V : Nat → Nat → Nat} {P : Nat → Nat → Nat → Nat} {R : Nat → Nat → Nat → Nat → Nat} {E Y T S : Nat → Nat → Nat} (H : o8 h b M) (W : rW M V P R E Y T S) (O : kO V P R) {p : Nat} (hp : p < V 1 0) {x y j i q : Nat} {Rc : Nat → Nat → Nat → Nat} (hR : R p = tiR Rc j i q) (D : sdE Rc x y j i q) (hj : j < P p 5 0) (hi : i < Rc j 0 0) : nWv YX8_ties [.ref b, .int (nI p), .int (nI x), .int (nI y), .int (nI 0)] h none (fun h2 => nFr (nIv b 24) h h2 ∧ ∃ M2, o8 h2 b M2 ∧ rW M2 V P (uP R p Rc) E Y T S) := by
  obtain ⟨h1, h2, h3, h4, h5⟩ := D
  have e5 : hgb (R p j) i q = true := by
    rw [hR]
    unfold tiR
    rw [uR_eq]
    unfold hgb
    rw [sto_f (by decide), sto_f (by decide)]
    exact hgb_T.mpr (igo_hg h5)
  have e0 : i < R p j 0 0 := by
    rw [hR]
    unfold tiR
    rw [uR_eq, sto_f (by decide)]
    exact hi
  have e6 : uR (R p) j (u2 (R p j) 6 i (sset (R p j 6 i) (q - R p j 4 i))) = Rc := by
    rw [hR]
    exact ti_back h5
  rw [← e6]
  rcases h1 with ⟨rfl, rfl⟩ | ⟨rfl, rfl⟩
  · exact sp_mtieA0 H W O hp hj h2 e0 h4 e5
  · exact sp_mtieB0 H W O hp hj h2 e0 h4 e5
theorem lp_gi {h0 : nPH} {Post : Option Value → nPH → Prop} {b : Nat} {V : Nat → Nat → Nat} {P : Nat → Nat → Nat → Nat} {R : Nat → Nat → Nat → Nat → Nat} {E Y T S : Nat → Nat → Nat} (O : kO V P R) {p : Nat} (hp : p < V 1 0) {j i s sg left : Nat} {T0 : Nat → Bool} {R0 : Nat → Nat → Nat → Nat} {l : List Nat} (HH : mdH (P p) R0 T0) (I : mdI (P p) R0 (R p) T0 ((24 * j + i) :: s :: l)) (hi : i < 24) (hl : left = l.length + 1) (hl3 : l.length < 2000) (hsg : sg ≤ 1) (hsg1 : sg = 1 → gsx (P p) (R p) (24 * j + i) = 1) (hP : ∀ (h2 : nPH) (M2 : Nat → Nat → Nat) (jj ii qq : Nat), sdE (R p) (24 * j + i) s jj ii qq → jj < P p 5 0 → nFr (nIv b 24) h0 h2 → o8 h2 b M2 → rW M2 V P (uP R p (tiR (R p) jj ii qq)) E Y T S → Post (some (.int (nI s))) h2) {r : Nat} (hr : r < P p 5 0) (hrj : r + 1 = j ∨ r = j + 1) (kk : ¬ s / 24 = r → ∀ (h : nPH) (M : Nat → Nat → Nat), nFr (nIv b 24) h0 h → o8 h b M → rW M V P R E Y T S → nG YX8_goesOn (nKy YX8_goesOn h0.1 h0.2.1 Post) 0 0 151 [some (.ref (b)), some (.int (nI (p))), some (.int (nI (24 * j + i))), some (.int (nI (left))), some (.int (nI (j))), some (.int (nI (sg))), some (.int (nI (r))), none, none] [] h) : ∀ d k : Nat, k + d = R p r 0 0 → 24 * r + k ≤ s → ∀ (h : nPH) (M : Nat → Nat → Nat), nFr (nIv b 24) h0 h → o8 h b M → rW M V P R E Y T S → nG YX8_goesOn (nKy YX8_goesOn h0.1 h0.2.1 Post) 0 0 65 [some (.ref (b)), some (.int (nI (p))), some (.int (nI (24 * j + i))), some (.int (nI (left))), some (.int (nI (j))), some (.int (nI (sg))), some (.int (nI (r))), some (.int (nI (k))), none] [] h := by
  obtain ⟨t1, t2, t3, t4⟩ := mdI_T I
  obtain ⟨x1, x2⟩ := (md_T HH I.1 t1).1
  obtain ⟨s1, s2⟩ := (md_T HH I.1 t2).1
  rw [show (24 * j + i) / 24 = j by omega] at x1 x2
  rw [show (24 * j + i) % 24 = i by omega] at x2
  have sx := t3
  unfold gE at sx
  rw [show (24 * j + i) / 24 = j by omega] at sx
  have srow : s / 24 + 1 = j ∨ s / 24 = j + 1 := by rcases sx with z | z <;> omega
  have k20 := HH.1.2.1
  intro d
  induction d with
  | zero =>
    intro k hk hks h M F H W
    obtain ⟨p1, p2, p3, p4, p5, p6, p7, p8⟩ := rW_p W O hp
    obtain ⟨r1, r2, r3, r4, r5, r6⟩ := rW_r W O hp hr
    refine x_iload rfl d_X8_goesOn_65 ?_
    refine x_aload_n rfl d_X8_goesOn_67 ?_
    refine x_getf co_all (v := .ref (b + 7)) d_X8_goesOn_68 fk_8_32 (o8_o H) rfl ?_
    refine x_bipush (v := nI 20) (by decide) d_X8_goesOn_71 ?_
    refine x_iload_n rfl d_X8_goesOn_73 ?_
    refine x_imulN d_X8_goesOn_74 ?_
    refine x_iload rfl d_X8_goesOn_75 ?_
    refine x_iaddN d_X8_goesOn_77 ?_
    refine x_iaload d_X8_goesOn_78 (o8_8 H) (nIx_nI (j := (20 * p) + r) (by omega) (by decide)) ?_
    refine x_icmp_geN (tgt := 151) d_X8_goesOn_79 (by decide) (by omega) (by omega) (fun c_1 => ?_) (fun c_1 => by exfalso; omega)
    exact nG.sub (by exact (And.intro rfl (And.intro rfl (And.intro rfl (And.intro rfl (And.intro rfl (And.intro rfl (And.intro rfl True.intro)))))))) (kk (fun e => by rw [e] at s2; omega) h M F H W)
  | succ d ih =>
    intro k hk hks h M F H W
    obtain ⟨p1, p2, p3, p4, p5, p6, p7, p8⟩ := rW_p W O hp
    obtain ⟨r1, r2, r3, r4, r5, r6⟩ := rW_r W O hp hr
    have r3b : M 8 (20 * p + r) = R p r 0 0 := r3
    refine x_iload rfl d_X8_goesOn_65 ?_
    refine x_aload_n rfl d_X8_goesOn_67 ?_
    refine x_getf co_all (v := .ref (b + 7)) d_X8_goesOn_68 fk_8_32 (o8_o H) rfl ?_
    refine x_bipush (v := nI 20) (by decide) d_X8_goesOn_71 ?_
    refine x_iload_n rfl d_X8_goesOn_73 ?_
    refine x_imulN d_X8_goesOn_74 ?_
    refine x_iload rfl d_X8_goesOn_75 ?_
    refine x_iaddN d_X8_goesOn_77 ?_
    refine x_iaload d_X8_goesOn_78 (o8_8 H) (nIx_nI (j := (20 * p) + r) (by omega) (by decide)) ?_
    refine x_icmp_geN (tgt := 151) d_X8_goesOn_79 (by decide) (by omega) (by omega) (fun c_1 => by exfalso; omega) (fun c_1 => ?_)
    refine x_bipush (v := nI 24) (by decide) d_X8_goesOn_82 ?_
    refine x_iload rfl d_X8_goesOn_84 ?_
    refine x_imulN d_X8_goesOn_86 ?_
    refine x_iload rfl d_X8_goesOn_87 ?_
    refine x_iaddN d_X8_goesOn_89 ?_
    refine x_istore d_X8_goesOn_90 (Nat.le_of_ble_eq_true rfl) ?_
    refine x_aload_n rfl d_X8_goesOn_92 ?_
    refine x_iload_n rfl d_X8_goesOn_93 ?_
    refine x_iload_n rfl d_X8_goesOn_94 ?_
    refine x_iload rfl d_X8_goesOn_95 ?_
    refine x_rdV d_X8_goesOn_97 lk_8_187 mo_X8_isGone vi_X8_isGone (sp_misg H W O hp x1 x2 hr (by omega) t1) (o8_o H) ⟨_, rfl, rfl⟩ rfl ⟨Nat.le_of_ble_eq_true rfl, Nat.le_of_ble_eq_true rfl⟩ rfl rfl (Nat.zero_le _) (Nat.zero_le _) (Nat.le_of_ble_eq_true rfl) rfl ?_
    have hnb := nb_le (gb (P p 5 0) (R p) T0 (24 * j + i) (24 * r + k))
    refine x_if_neN (tgt := 106) d_X8_goesOn_100 (by decide) (by omega) (fun c_g => ?_) (fun c_g => ?_)
    · have hg : gb (P p 5 0) (R p) T0 (24 * j + i) (24 * r + k) = true := nb_n0.mp c_g
      have hcE := (I.2.2.2.1 _ _).mp hg
      obtain ⟨jj, ii, qq, D, hjj, hii⟩ := sdE_ex k20 I.1.2.1 (md_T HH I.1 t1).1 (gb_T.mp hg).2
      have O3 := kO_ti O p jj ii qq
      refine x_aload_n rfl d_X8_goesOn_106 ?_
      refine x_iload_n rfl d_X8_goesOn_107 ?_
      refine x_iload_n rfl d_X8_goesOn_108 ?_
      refine x_iload rfl d_X8_goesOn_109 ?_
      refine x_iconst (v := nI 1) (by decide) d_X8_goesOn_111 ?_
      refine x_wvV d_X8_goesOn_112 lk_8_190 mo_X8_ties vi_X8_ties (sp_tie1 H W O hp D hjj hii) (o8_o H) ⟨_, rfl, rfl⟩ rfl ⟨Nat.le_of_ble_eq_true rfl, Nat.le_of_ble_eq_true rfl⟩ (Nat.zero_le _) (Nat.zero_le _) (Nat.le_of_ble_eq_true rfl) rfl (fun h3 hq_ e3a e3b => ?_)
      obtain ⟨G3, M3, H3, W3⟩ := hq_
      have F3 := (F).tr G3
      have W3b : rW M3 V P (uP R p (tiR (R p) jj ii qq)) E Y T S := W3
      refine x_iload rfl d_X8_goesOn_115 ?_
      refine x_if_neN (tgt := 133) d_X8_goesOn_117 (by decide) (by omega) (fun c_s => ?_) (fun c_s => ?_)
      · refine x_iload rfl d_X8_goesOn_133 ?_
        exact x_ireturn d_X8_goesOn_135 rfl rfl (F3).1 (F3).2.1 (Nat.zero_le _) (Nat.zero_le _) ((by have es : 24 * r + k = s := Decidable.byContradiction (fun z => ti_two HH I (by omega) hcE (hsg1 (by omega))); rw [es] at D ⊢; exact hP _ _ jj ii qq D hjj F3 H3 W3))
      · refine x_aload_n rfl d_X8_goesOn_120 ?_
        refine x_iload_n rfl d_X8_goesOn_121 ?_
        refine x_iload rfl d_X8_goesOn_122 ?_
        refine x_iload_n rfl d_X8_goesOn_124 ?_
        refine x_iconst (v := nI 1) (by decide) d_X8_goesOn_125 ?_
        refine x_isubN d_X8_goesOn_126 (by omega) ?_
        obtain ⟨T1, hT1⟩ := hTr_ex (P p) (tiR (R p) jj ii qq) (24 * r + k)
        have k3 : k < (uP R p (tiR (R p) jj ii qq)) p r 0 0 := by
          rw [uP_eq]
          unfold tiR
          by_cases e : r = jj
          · subst e; rw [uR_eq, sto_f (by decide)]; omega
          · rw [uR_ne e]; omega
        refine x_wvV d_X8_goesOn_127 lk_8_194 mo_X8_reaches vi_X8_reaches (sp_mrch H3 W3 O3 hp hr k3 (T1 := T1) (by rw [uP_eq]; exact hT1) (left := left - 1) (by omega)) (o8_o H3) ⟨_, rfl, rfl⟩ rfl ⟨Nat.le_of_ble_eq_true rfl, Nat.le_of_ble_eq_true rfl⟩ (Nat.zero_le _) (Nat.zero_le _) (Nat.le_of_ble_eq_true rfl) rfl (fun h4 hq_ e4a e4b => ?_)
        obtain ⟨G4, M4, H4, W4⟩ := hq_
        have F4 := (F3).tr G4
        rw [uP_eq]
        have hnb2 := nB_le (lsT (tiR (R p) jj ii qq) T1 = left - 1)
        refine x_if_eqN (tgt := 136) d_X8_goesOn_130 (by decide) (by omega) (fun c_r => ?_) (fun c_r => ?_)
        · refine x_aload_n rfl d_X8_goesOn_136 ?_
          refine x_iload_n rfl d_X8_goesOn_137 ?_
          refine x_iload_n rfl d_X8_goesOn_138 ?_
          refine x_iload rfl d_X8_goesOn_139 ?_
          refine x_iconst (v := nI 0) (by decide) d_X8_goesOn_141 ?_
          refine x_wvV d_X8_goesOn_142 lk_8_190 mo_X8_ties vi_X8_ties (sp_tie0 H4 W4 O3 hp (Rc := R p) (uP_eq _ _ _) D hjj hii) (o8_o H4) ⟨_, rfl, rfl⟩ rfl ⟨Nat.le_of_ble_eq_true rfl, Nat.le_of_ble_eq_true rfl⟩ (Nat.zero_le _) (Nat.zero_le _) (Nat.le_of_ble_eq_true rfl) rfl (fun h5 hq_ e5a e5b => ?_)
          obtain ⟨G5, M5, H5, W5⟩ := hq_
          have F5 := (F4).tr G5
          rw [uuP, uPs] at W5
          refine x_iincN (m := 1) d_X8_goesOn_145 rfl (by decide) (Nat.le_of_ble_eq_true rfl) ?_
          refine x_goto (tgt := 65) d_X8_goesOn_148 (by decide) ?_
          refine nG.eq (ls2 := [some (.ref (b)), some (.int (nI (p))), some (.int (nI (24 * j + i))), some (.int (nI (left))), some (.int (nI (j))), some (.int (nI (sg))), some (.int (nI (r))), some (.int (nI (k + 1))), some (.int (nI ((24 * r) + k)))]) rfl rfl rfl rfl rfl ?_
          have hns : ¬ 24 * r + k = s := fun e => by
            rw [e] at D hT1
            have z := ti_all HH (ti_yes HH I D hjj) t2 hT1
            rw [nB_T (by omega)] at c_r
            omega
          exact nG.sub (by exact (And.intro rfl (And.intro rfl (And.intro rfl (And.intro rfl (And.intro rfl (And.intro rfl (And.intro rfl (And.intro rfl True.intro))))))))) (ih (k + 1) (by omega) (by omega) h5 M5 F5 H5 W5)
        · refine x_iload rfl d_X8_goesOn_133 ?_
          exact x_ireturn d_X8_goesOn_135 rfl rfl (F4).1 (F4).2.1 (Nat.zero_le _) (Nat.zero_le _) ((by have es : 24 * r + k = s := Decidable.byContradiction (fun z => ti_no HH I D hjj (by omega) hcE hT1 (by have := nB_1.mp (show nB (lsT (tiR (R p) jj ii qq) T1 = left - 1) = 1 by omega); omega)); rw [es] at D ⊢; exact hP _ _ jj ii qq D hjj F4 H4 W4))
    · refine x_goto (tgt := 145) d_X8_goesOn_103 (by decide) ?_
      refine x_iincN (m := 1) d_X8_goesOn_145 rfl (by decide) (Nat.le_of_ble_eq_true rfl) ?_
      refine x_goto (tgt := 65) d_X8_goesOn_148 (by decide) ?_
      refine nG.eq (ls2 := [some (.ref (b)), some (.int (nI (p))), some (.int (nI (24 * j + i))), some (.int (nI (left))), some (.int (nI (j))), some (.int (nI (sg))), some (.int (nI (r))), some (.int (nI (k + 1))), some (.int (nI ((24 * r) + k)))]) rfl rfl rfl rfl rfl ?_
      have hns : ¬ 24 * r + k = s := fun e => by have z := (I.2.2.2.1 (24 * j + i) s).mpr (Or.inl (Or.inl ⟨rfl, rfl⟩)); rw [← e] at z; rw [nb_T z] at c_g; omega
      exact nG.sub (by exact (And.intro rfl (And.intro rfl (And.intro rfl (And.intro rfl (And.intro rfl (And.intro rfl (And.intro rfl (And.intro rfl True.intro))))))))) (ih (k + 1) (by omega) (by omega) h M F H W)
theorem lp_go2 {h0 : nPH} {Post : Option Value → nPH → Prop} {b : Nat} {V : Nat → Nat → Nat} {P : Nat → Nat → Nat → Nat} {R : Nat → Nat → Nat → Nat → Nat} {E Y T S : Nat → Nat → Nat} (O : kO V P R) {p : Nat} (hp : p < V 1 0) {j i s sg left : Nat} {T0 : Nat → Bool} {R0 : Nat → Nat → Nat → Nat} {l : List Nat} (HH : mdH (P p) R0 T0) (I : mdI (P p) R0 (R p) T0 ((24 * j + i) :: s :: l)) (hi : i < 24) (hl : left = l.length + 1) (hl3 : l.length < 2000) (hsg : sg ≤ 1) (hsg1 : sg = 1 → gsx (P p) (R p) (24 * j + i) = 1) (hP : ∀ (h2 : nPH) (M2 : Nat → Nat → Nat) (jj ii qq : Nat), sdE (R p) (24 * j + i) s jj ii qq → jj < P p 5 0 → nFr (nIv b 24) h0 h2 → o8 h2 b M2 → rW M2 V P (uP R p (tiR (R p) jj ii qq)) E Y T S → Post (some (.int (nI s))) h2) (hs : s / 24 = j + 1) (h : nPH) (M : Nat → Nat → Nat) (F : nFr (nIv b 24) h0 h) (H : o8 h b M) (W : rW M V P R E Y T S) : nG YX8_goesOn (nKy YX8_goesOn h0.1 h0.2.1 Post) 0 0 34 [some (.ref (b)), some (.int (nI (p))), some (.int (nI (24 * j + i))), some (.int (nI (left))), some (.int (nI (j))), some (.int (nI (sg))), some (.int (nI (j + 1))), none, none] [] h := by
  obtain ⟨t1, t2, t3, t4⟩ := mdI_T I
  obtain ⟨x1, x2⟩ := (md_T HH I.1 t1).1
  obtain ⟨s1, s2⟩ := (md_T HH I.1 t2).1
  rw [show (24 * j + i) / 24 = j by omega] at x1 x2
  rw [show (24 * j + i) % 24 = i by omega] at x2
  have sx := t3
  unfold gE at sx
  rw [show (24 * j + i) / 24 = j by omega] at sx
  have srow : s / 24 + 1 = j ∨ s / 24 = j + 1 := by rcases sx with z | z <;> omega
  have k20 := HH.1.2.1
  rw [hs] at s1 s2
  obtain ⟨p1, p2, p3, p4, p5, p6, p7, p8⟩ := rW_p W O hp
  refine x_iload rfl d_X8_goesOn_34 ?_
  refine x_iload rfl d_X8_goesOn_36 ?_
  refine x_iconst (v := nI 1) (by decide) d_X8_goesOn_38 ?_
  refine x_iaddN d_X8_goesOn_39 ?_
  refine x_icmp_gtN (tgt := 157) d_X8_goesOn_40 (by decide) (by omega) (by omega) (fun c_1 => by exfalso; omega) (fun c_1 => ?_)
  refine x_iload rfl d_X8_goesOn_43 ?_
  refine x_if_ltN (tgt := 151) d_X8_goesOn_45 (by decide) (by omega) (fun c_2 => by exfalso; omega) (fun c_2 => ?_)
  refine x_iload rfl d_X8_goesOn_48 ?_
  refine x_aload_n rfl d_X8_goesOn_50 ?_
  refine x_getf co_all (v := .ref (b + 1)) d_X8_goesOn_51 fk_8_13 (o8_o H) rfl ?_
  refine x_iload_n rfl d_X8_goesOn_54 ?_
  refine x_iaload d_X8_goesOn_55 (o8_2 H) (nIx_nI (j := p) (by omega) (by decide)) ?_
  refine x_icmp_ltN (tgt := 62) d_X8_goesOn_56 (by decide) (by omega) (by omega) (fun c_3 => ?_) (fun c_3 => by exfalso; omega)
  refine x_iconst (v := nI 0) (by decide) d_X8_goesOn_62 ?_
  refine x_istore d_X8_goesOn_63 (Nat.le_of_ble_eq_true rfl) ?_
  refine nG.eq (ls2 := [some (.ref (b)), some (.int (nI (p))), some (.int (nI (24 * j + i))), some (.int (nI (left))), some (.int (nI (j))), some (.int (nI (sg))), some (.int (nI (j + 1))), some (.int (nI (0))), none]) rfl rfl rfl rfl rfl ?_
  exact lp_gi O hp HH I hi hl hl3 hsg hsg1 hP s1 (Or.inr rfl) (fun z => absurd hs z) (R p (j + 1) 0 0) 0 (Nat.zero_add _) (by omega) h M F H W
theorem lp_go3 {h0 : nPH} {Post : Option Value → nPH → Prop} {b : Nat} {V : Nat → Nat → Nat} {P : Nat → Nat → Nat → Nat} {R : Nat → Nat → Nat → Nat → Nat} {E Y T S : Nat → Nat → Nat} (O : kO V P R) {p : Nat} (hp : p < V 1 0) {j i s sg left : Nat} {T0 : Nat → Bool} {R0 : Nat → Nat → Nat → Nat} {l : List Nat} (HH : mdH (P p) R0 T0) (I : mdI (P p) R0 (R p) T0 ((24 * j + i) :: s :: l)) (hi : i < 24) (hl : left = l.length + 1) (hl3 : l.length < 2000) (hsg : sg ≤ 1) (hsg1 : sg = 1 → gsx (P p) (R p) (24 * j + i) = 1) (hP : ∀ (h2 : nPH) (M2 : Nat → Nat → Nat) (jj ii qq : Nat), sdE (R p) (24 * j + i) s jj ii qq → jj < P p 5 0 → nFr (nIv b 24) h0 h2 → o8 h2 b M2 → rW M2 V P (uP R p (tiR (R p) jj ii qq)) E Y T S → Post (some (.int (nI s))) h2) (hj1 : 1 ≤ j) (hs : s / 24 = j + 1) (h : nPH) (M : Nat → Nat → Nat) (F : nFr (nIv b 24) h0 h) (H : o8 h b M) (W : rW M V P R E Y T S) : nG YX8_goesOn (nKy YX8_goesOn h0.1 h0.2.1 Post) 0 0 151 [some (.ref (b)), some (.int (nI (p))), some (.int (nI (24 * j + i))), some (.int (nI (left))), some (.int (nI (j))), some (.int (nI (sg))), some (.int (nI (j - 1))), none, none] [] h := by
  obtain ⟨t1, t2, t3, t4⟩ := mdI_T I
  have k20 := HH.1.2.1
  have x1 := (md_T HH I.1 t1).1.1
  refine x_iincN (m := 2) d_X8_goesOn_151 rfl (by decide) (Nat.le_of_ble_eq_true rfl) ?_
  rw [show j - 1 + 2 = j + 1 by omega]
  refine x_goto (tgt := 34) d_X8_goesOn_154 (by decide) ?_
  exact lp_go2 O hp HH I hi hl hl3 hsg hsg1 hP hs h M F H W
theorem lp_go1 {h0 : nPH} {Post : Option Value → nPH → Prop} {b : Nat} {V : Nat → Nat → Nat} {P : Nat → Nat → Nat → Nat} {R : Nat → Nat → Nat → Nat → Nat} {E Y T S : Nat → Nat → Nat} (O : kO V P R) {p : Nat} (hp : p < V 1 0) {j i s sg left : Nat} {T0 : Nat → Bool} {R0 : Nat → Nat → Nat → Nat} {l : List Nat} (HH : mdH (P p) R0 T0) (I : mdI (P p) R0 (R p) T0 ((24 * j + i) :: s :: l)) (hi : i < 24) (hl : left = l.length + 1) (hl3 : l.length < 2000) (hsg : sg ≤ 1) (hsg1 : sg = 1 → gsx (P p) (R p) (24 * j + i) = 1) (hP : ∀ (h2 : nPH) (M2 : Nat → Nat → Nat) (jj ii qq : Nat), sdE (R p) (24 * j + i) s jj ii qq → jj < P p 5 0 → nFr (nIv b 24) h0 h2 → o8 h2 b M2 → rW M2 V P (uP R p (tiR (R p) jj ii qq)) E Y T S → Post (some (.int (nI s))) h2) (h : nPH) (M : Nat → Nat → Nat) (F : nFr (nIv b 24) h0 h) (H : o8 h b M) (W : rW M V P R E Y T S) : nG YX8_goesOn (nKy YX8_goesOn h0.1 h0.2.1 Post) 0 0 28 [some (.ref (b)), some (.int (nI (p))), some (.int (nI (24 * j + i))), some (.int (nI (left))), some (.int (nI (j))), some (.int (nI (sg))), none, none, none] [] h := by
  obtain ⟨t1, t2, t3, t4⟩ := mdI_T I
  obtain ⟨x1, x2⟩ := (md_T HH I.1 t1).1
  obtain ⟨s1, s2⟩ := (md_T HH I.1 t2).1
  rw [show (24 * j + i) / 24 = j by omega] at x1 x2
  rw [show (24 * j + i) % 24 = i by omega] at x2
  have sx := t3
  unfold gE at sx
  rw [show (24 * j + i) / 24 = j by omega] at sx
  have srow : s / 24 + 1 = j ∨ s / 24 = j + 1 := by rcases sx with z | z <;> omega
  have k20 := HH.1.2.1
  obtain ⟨p1, p2, p3, p4, p5, p6, p7, p8⟩ := rW_p W O hp
  rcases Nat.eq_zero_or_pos j with hj0 | hj0
  · subst hj0
    refine x_iload rfl d_X8_goesOn_28 ?_
    refine x_iconst (v := nI 1) (by decide) d_X8_goesOn_30 ?_
    refine x_isub d_X8_goesOn_31 ?_
    refine x_istore d_X8_goesOn_32 (Nat.le_of_ble_eq_true rfl) ?_
    refine x_iload rfl d_X8_goesOn_34 ?_
    refine x_iload rfl d_X8_goesOn_36 ?_
    refine x_iconst (v := nI 1) (by decide) d_X8_goesOn_38 ?_
    refine x_iaddN d_X8_goesOn_39 ?_
    refine x_icmp_gt (tgt := 157) d_X8_goesOn_40 (by decide) (fun c_gt => by exfalso; exact absurd c_gt (by decide)) (fun c_gt => ?_)
    refine x_iload rfl d_X8_goesOn_43 ?_
    refine x_if_lt (tgt := 151) d_X8_goesOn_45 (by decide) (fun c_lt => ?_) (fun c_lt => by exfalso; exact absurd (by decide) c_lt)
    refine x_iinc d_X8_goesOn_151 rfl (Nat.le_of_ble_eq_true rfl) ?_
    rw [show nI (0) - nI (1) + Int32.ofInt 2 = nI (0 + 1) by decide]
    refine x_goto (tgt := 34) d_X8_goesOn_154 (by decide) ?_
    exact lp_go2 O hp HH I hi hl hl3 hsg hsg1 hP (by omega) h M F H W
  · refine x_iload rfl d_X8_goesOn_28 ?_
    refine x_iconst (v := nI 1) (by decide) d_X8_goesOn_30 ?_
    refine x_isubN d_X8_goesOn_31 (by omega) ?_
    refine x_istore d_X8_goesOn_32 (Nat.le_of_ble_eq_true rfl) ?_
    refine x_iload rfl d_X8_goesOn_34 ?_
    refine x_iload rfl d_X8_goesOn_36 ?_
    refine x_iconst (v := nI 1) (by decide) d_X8_goesOn_38 ?_
    refine x_iaddN d_X8_goesOn_39 ?_
    refine x_icmp_gtN (tgt := 157) d_X8_goesOn_40 (by decide) (by omega) (by omega) (fun c_1 => by exfalso; omega) (fun c_1 => ?_)
    refine x_iload rfl d_X8_goesOn_43 ?_
    refine x_if_ltN (tgt := 151) d_X8_goesOn_45 (by decide) (by omega) (fun c_2 => by exfalso; omega) (fun c_2 => ?_)
    refine x_iload rfl d_X8_goesOn_48 ?_
    refine x_aload_n rfl d_X8_goesOn_50 ?_
    refine x_getf co_all (v := .ref (b + 1)) d_X8_goesOn_51 fk_8_13 (o8_o H) rfl ?_
    refine x_iload_n rfl d_X8_goesOn_54 ?_
    refine x_iaload d_X8_goesOn_55 (o8_2 H) (nIx_nI (j := p) (by omega) (by decide)) ?_
    refine x_icmp_ltN (tgt := 62) d_X8_goesOn_56 (by decide) (by omega) (by omega) (fun c_3 => ?_) (fun c_3 => by exfalso; omega)
    refine x_iconst (v := nI 0) (by decide) d_X8_goesOn_62 ?_
    refine x_istore d_X8_goesOn_63 (Nat.le_of_ble_eq_true rfl) ?_
    refine nG.eq (ls2 := [some (.ref (b)), some (.int (nI (p))), some (.int (nI (24 * j + i))), some (.int (nI (left))), some (.int (nI (j))), some (.int (nI (sg))), some (.int (nI (j - 1))), some (.int (nI (0))), none]) rfl rfl rfl rfl rfl ?_
    exact lp_gi O hp HH I hi hl hl3 hsg hsg1 hP (r := j - 1) (by omega) (Or.inl (by omega)) (fun z h M F H W => lp_go3 O hp HH I hi hl hl3 hsg hsg1 hP hj0 (by omega) h M F H W) (R p (j - 1) 0 0) 0 (Nat.zero_add _) (by omega) h M F H W
theorem sp_mgon {h : nPH} {b : Nat} {M V : Nat → Nat → Nat} {P : Nat → Nat → Nat → Nat} {R : Nat → Nat → Nat → Nat → Nat} {E Y T S : Nat → Nat → Nat} (H : o8 h b M) (W : rW M V P R E Y T S) (O : kO V P R) {p : Nat} (hp : p < V 1 0) {j i s left : Nat} {T0 : Nat → Bool} {R0 : Nat → Nat → Nat → Nat} {l : List Nat} (HH : mdH (P p) R0 T0) (I : mdI (P p) R0 (R p) T0 ((24 * j + i) :: s :: l)) (hi : i < 24) (hl : left = l.length + 1) (hl3 : l.length < 2000) : nWv YX8_goesOn [.ref b, .int (nI p), .int (nI (24 * j + i)), .int (nI left)] h (some (.int (nI s))) (fun h2 => nFr (nIv b 24) h h2 ∧ ∃ (jj ii qq : Nat) (M2 : Nat → Nat → Nat), sdE (R p) (24 * j + i) s jj ii qq ∧ jj < P p 5 0 ∧ o8 h2 b M2 ∧ rW M2 V P (uP R p (tiR (R p) jj ii qq)) E Y T S) := by
  obtain ⟨t1, t2, t3, t4⟩ := mdI_T I
  obtain ⟨x1, x2⟩ := (md_T HH I.1 t1).1
  obtain ⟨s1, s2⟩ := (md_T HH I.1 t2).1
  rw [show (24 * j + i) / 24 = j by omega] at x1 x2
  rw [show (24 * j + i) % 24 = i by omega] at x2
  have sx := t3
  unfold gE at sx
  rw [show (24 * j + i) / 24 = j by omega] at sx
  have srow : s / 24 + 1 = j ∨ s / 24 = j + 1 := by rcases sx with z | z <;> omega
  have k20 := HH.1.2.1
  have x1b := x1
  obtain ⟨p1, p2, p3, p4, p5, p6, p7, p8⟩ := rW_p W O hp
  rw [← p4] at x1b
  have egs := rW_gs W O hp x1 x2
  have eg2 : mgs M p j i = gsx (P p) (R p) (24 * j + i) := by
    rw [egs]
    unfold gsx
    rw [show (24 * j + i) / 24 = j by omega, show (24 * j + i) % 24 = i by omega]
  have hg48 := gsd_le (P := P p) (R := R p) (j := j) (i := i) (fun h => (p7.2.2.1 (j + 1) h).1)
  rw [← egs, eg2] at hg48
  refine nSp_of (by decide +kernel) rfl (Nat.le_of_ble_eq_true rfl) (ls := [some (.ref (b)), some (.int (nI (p))), some (.int (nI (24 * j + i))), some (.int (nI (left))), none, none, none, none, none]) (by exact (And.intro rfl (And.intro rfl (And.intro rfl (And.intro rfl True.intro))))) ?_
  refine x_iload_n rfl d_X8_goesOn_0 ?_
  refine x_bipush (v := nI 24) (by decide) d_X8_goesOn_1 ?_
  refine x_idivN d_X8_goesOn_3 (by omega) (by omega) (by omega) ?_
  rw [show (24 * j + i) / 24 = j by omega]
  refine x_istore d_X8_goesOn_4 (Nat.le_of_ble_eq_true rfl) ?_
  refine x_aload_n rfl d_X8_goesOn_6 ?_
  refine x_iload_n rfl d_X8_goesOn_7 ?_
  refine x_iload rfl d_X8_goesOn_8 ?_
  refine x_iload_n rfl d_X8_goesOn_10 ?_
  refine x_bipush (v := nI 24) (by decide) d_X8_goesOn_11 ?_
  refine x_iremN d_X8_goesOn_13 (by omega) (by omega) (by omega) ?_
  rw [show (24 * j + i) % 24 = i by omega]
  refine x_rdV d_X8_goesOn_14 lk_8_149 mo_X8_goneAt vi_X8_goneAt (sp_mgs H p3 (r := j) x1b (k := i) (by omega) p8) (o8_o H) ⟨_, rfl, rfl⟩ rfl ⟨Nat.le_of_ble_eq_true rfl, Nat.le_of_ble_eq_true rfl⟩ rfl rfl (Nat.zero_le _) (Nat.zero_le _) (Nat.le_of_ble_eq_true rfl) rfl ?_
  rw [eg2]
  refine x_iconst (v := nI 1) (by decide) d_X8_goesOn_17 ?_
  refine x_icmp_neN (tgt := 25) d_X8_goesOn_18 (by decide) (by omega) (by omega) (fun c_1g => ?_) (fun c_1g => ?_)
  · refine x_iconst (v := nI 0) (by decide) d_X8_goesOn_25 ?_
    refine x_istore d_X8_goesOn_26 (Nat.le_of_ble_eq_true rfl) ?_
    refine lp_go1 O hp HH I hi hl hl3 (sg := 0) (by decide) (fun z => absurd z (by decide)) (fun h2 M2 jj ii qq D hjj F H W => ⟨rfl, F, jj, ii, qq, M2, D, hjj, H, W⟩) h M nFr.rf H W
  · refine x_iconst (v := nI 1) (by decide) d_X8_goesOn_21 ?_
    refine x_goto (tgt := 26) d_X8_goesOn_22 (by decide) ?_
    refine x_istore d_X8_goesOn_26 (Nat.le_of_ble_eq_true rfl) ?_
    refine lp_go1 O hp HH I hi hl hl3 (sg := 1) (by decide) (fun z => c_1g) (fun h2 M2 jj ii qq D hjj F H W => ⟨rfl, F, jj, ii, qq, M2, D, hjj, H, W⟩) h M nFr.rf H W
