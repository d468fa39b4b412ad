/-! the model: sew, all of it -/
theorem lp_sw6 {h0 h : nPH} {Post : Option Value → nPH → Prop} {b : Nat} {N V : Nat → Nat → Nat} {P : Nat → Nat → Nat → Nat} {R : Nat → Nat → Nat → Nat → Nat} {E Y T S : Nat → Nat → Nat} (W : rW N V P R E Y T S) (O : kO V P R) (hn12 : V 1 0 < 12) {p q a c pl ql l m : Nat} (hp : p < V 1 0) (hq : q < V 1 0) (ha : P p 5 0 = a + 1) (hc : P q 5 0 = c) (hac : a + 1 + c ≤ 20) (hpl : R p a 0 0 = pl) (hql : R q 0 0 0 = ql) (h1 : 1 ≤ pl) (h2 : 1 ≤ ql) (h3 : ql ≤ 2 * pl) (hcase : (pl ≤ ql ∧ l = pl ∧ m = ql) ∨ (ql < pl ∧ l = ql ∧ m = pl)) (h35N : ∀ i, i < l → N 35 i = tkn l m i) (kk : ∀ h2, nFr (nIv b 24) h0 h2 → o8 h2 b (mSw N (V 1 0) p q a c (P p 0 0) (P p 1 0) (P p 2 0) (P p 3 0) pl ql (rJn ql (rCp 6 (R p a)) 2)) → Post (some (.int (nI (V 1 0)))) h2) (F : nFr (nIv b 24) h0 h) (H : o8 h b N) : nG YX8_sew (nKy YX8_sew h0.1 h0.2.1 Post) 0 0 183 [some (.ref (b)), some (.int (nI (p))), some (.int (nI (q))), some (.int (nI (pl))), some (.int (nI (ql))), some (.int (nI (l))), some (.int (nI (m))), none, none, none, none, none, none] [] h := by
  have hnn := W.1.1
  obtain ⟨p1, p2, p3, p4, p5, p6, p7, p8⟩ := rW_p W O hp
  obtain ⟨q1, q2, q3, q4, q5, q6, q7, q8⟩ := rW_p W O hq
  obtain ⟨-, b3, b4, b5, b6, -⟩ := (W.2.1 p hp).1
  have rk := p7.2.2.1 a (by omega)
  have rq := q7.2.2.1 0 (by omega)
  have hpl24 : pl ≤ 24 := by rw [← hpl]; exact rk.1
  have hql24 : ql ≤ 24 := by rw [← hql]; exact rq.1
  have hl24 : l ≤ 24 := by omega
  have hE := rOK_Jn (q := ql) (rOK_cp rk) (by rw [rCp_00, hpl]; omega) (by rw [rCp_00, hpl]; exact h3)
  have hE0 : rJn ql (rCp 6 (R p a)) 0 0 = pl := by rw [rJn_0, rCp_00, hpl]
  have wp := rW_1 W hp (r := a) (by omega)
  have n5 : ∀ f, 2 ≤ f → f ≤ 6 → mNp N (P p 0 0) (P p 1 0) f p = N f p := fun f f1 f2 => mNp_o (by omega) (by omega) (by omega)
  have m5p : mNp N (P p 0 0) (P p 1 0) 5 p = P p 2 0 := (n5 5 (by decide) (by decide)).trans b5
  have m6p : mNp N (P p 0 0) (P p 1 0) 6 p = P p 3 0 := (n5 6 (by decide) (by decide)).trans b6
  have d2 : ∀ f i, f ≠ 1 → (2 ≤ f → f ≤ 6 → i ≠ V 1 0) → (f = 7 → i < 24 * V 1 0 ∨ 24 * V 1 0 + 24 ≤ i) → (u2 (u2 (mNp N (P p 0 0) (P p 1 0)) 5 (V 1 0) (P p 2 0)) 6 (V 1 0) (P p 3 0)) f i = N f i := fun f i g1 g2 g7 => by
    rw [u2_ne (by omega), u2_ne (by omega), mNp_o g1 (by rw [hnn]; exact g2) (by rw [hnn]; exact g7)]
  have x2p : (u2 (u2 (mNp N (P p 0 0) (P p 1 0)) 5 (V 1 0) (P p 2 0)) 6 (V 1 0) (P p 3 0)) 2 p = a + 1 := (d2 2 p (by omega) (by omega) (by omega)).trans (by omega)
  have x2q : (u2 (u2 (mNp N (P p 0 0) (P p 1 0)) 5 (V 1 0) (P p 2 0)) 6 (V 1 0) (P p 3 0)) 2 q = c := (d2 2 q (by omega) (by omega) (by omega)).trans (by omega)
  have y2p : (mBk (u2 (u2 (mNp N (P p 0 0) (P p 1 0)) 5 (V 1 0) (P p 2 0)) 6 (V 1 0) (P p 3 0)) (20 * p) (20 * V 1 0) (a + 1)) 2 p = a + 1 := (mBk_o (by omega) (by omega)).trans x2p
  have y2q : (mBk (u2 (u2 (mNp N (P p 0 0) (P p 1 0)) 5 (V 1 0) (P p 2 0)) 6 (V 1 0) (P p 3 0)) (20 * p) (20 * V 1 0) (a + 1)) 2 q = c := (mBk_o (by omega) (by omega)).trans x2q
  have z2p : (mBk (mBk (u2 (u2 (mNp N (P p 0 0) (P p 1 0)) 5 (V 1 0) (P p 2 0)) 6 (V 1 0) (P p 3 0)) (20 * p) (20 * V 1 0) (a + 1)) (20 * q) (20 * V 1 0 + (a + 1)) c) 2 p = a + 1 := (mBk_o (by omega) (by omega)).trans y2p
  have z2q : (mBk (mBk (u2 (u2 (mNp N (P p 0 0) (P p 1 0)) 5 (V 1 0) (P p 2 0)) 6 (V 1 0) (P p 3 0)) (20 * p) (20 * V 1 0) (a + 1)) (20 * q) (20 * V 1 0 + (a + 1)) c) 2 q = c := (mBk_o (by omega) (by omega)).trans y2q
  have s8 : (mS6 N (V 1 0) p q a c (P p 0 0) (P p 1 0) (P p 2 0) (P p 3 0) pl (rJn ql (rCp 6 (R p a)) 2)) 8 (20 * V 1 0 + a) = pl := by
    rw [mS6_o (by decide) (by decide), mS5_8p (Or.inl rfl) (by omega), ← hpl]
    exact wp.1.1.1.symm
  have s11 : ∀ k, k < 24 → (mS6 N (V 1 0) p q a c (P p 0 0) (P p 1 0) (P p 2 0) (P p 3 0) pl (rJn ql (rCp 6 (R p a)) 2)) 11 (24 * (20 * V 1 0 + a) + k) ≤ 2 := fun k hk => by
    by_cases e : k < pl
    · rw [mS6_11 e]
      exact (hE.2 k hk).2.1
    · rw [mS6_p (by omega), mS5_gp (by decide) (by decide) (by omega) hk]
      exact wp.1.2.2.2 k hk
  have eoff : off (mR (mS6 N (V 1 0) p q a c (P p 0 0) (P p 1 0) (P p 2 0) (P p 3 0) pl (rJn ql (rCp 6 (R p a)) 2)) (V 1 0) a) ((mS6 N (V 1 0) p q a c (P p 0 0) (P p 1 0) (P p 2 0) (P p 3 0) pl (rJn ql (rCp 6 (R p a)) 2)) 8 (20 * V 1 0 + a)) = ql := by
    rw [s8]
    have z := off_Jn (q := ql) (D := rCp 6 (R p a)) (by rw [rCp_00, hpl]; omega) (by omega)
    rw [rCp_00, hpl] at z
    rw [← z]
    exact off_cg (fun k hk => by rw [mR_2, mS6_11 hk, z])
  have h35 : ∀ i, i < l → (mS5 N (V 1 0) p q a c (P p 0 0) (P p 1 0) (P p 2 0) (P p 3 0)) 35 i = tkn l m i := fun i hi => (mS5_o hnn (by omega) (by omega) (by omega) (by omega) (by omega)).trans (h35N i hi)
  have hnd : ∀ x, x < V 1 0 → ∀ r k, r < P x 5 0 → k < 24 → N 15 (24 * (20 * x + r) + k) ≤ 1 := fun x hx r k hr hk => ((rW_1 W hx hr).2.2 k hk).2.2.2.2
  have h9 : ∀ x, x < V 1 0 → ∀ r, r < P x 5 0 → N 9 (20 * x + r) ≤ 1 := fun x hx r hr => by rw [(rW_1 W hx hr).1.2.1]; exact nB_le _
  have k438 : ∀ h : nPH, nFr (nIv b 24) h0 h → o8 h b (mS6 N (V 1 0) p q a c (P p 0 0) (P p 1 0) (P p 2 0) (P p 3 0) pl (rJn ql (rCp 6 (R p a)) 2)) → nG YX8_sew (nKy YX8_sew h0.1 h0.2.1 Post) 0 0 438 [some (.ref (b)), some (.int (nI (p))), some (.int (nI (q))), some (.int (nI (pl))), some (.int (nI (ql))), some (.int (nI (l))), some (.int (nI (m))), some (.int (nI (V 1 0))), some (.int (nI (a))), none, none, none, none] [] h := by
    intro h F H
    refine x_aload_n rfl d_X8_sew_438 ?_
    refine x_iload rfl d_X8_sew_439 ?_
    refine x_iload rfl d_X8_sew_441 ?_
    refine x_iconst (v := nI 1) (by decide) d_X8_sew_443 ?_
    refine x_iaddN d_X8_sew_444 ?_
    refine x_wvV d_X8_sew_445 lk_8_115 mo_X8_hangs vi_X8_hangs (sp_mhangs (M := (mS6 N (V 1 0) p q a c (P p 0 0) (P p 1 0) (P p 2 0) (P p 3 0) pl (rJn ql (rCp 6 (R p a)) 2))) (p := V 1 0) (r := a) (by omega) (by omega) (by rw [s8]; exact hpl24) s11 (by rw [eoff]; exact hql24) H) (o8_o H) ⟨_, rfl, rfl⟩ rfl ⟨Nat.le_of_ble_eq_true rfl, Nat.le_of_ble_eq_true rfl⟩ (Nat.zero_le _) (Nat.zero_le _) (Nat.le_of_ble_eq_true rfl) rfl (fun h5 hq_ e5a e5b => ?_)
    obtain ⟨G5, H5⟩ := hq_
    have F5 := (F).tr G5
    rw [eoff] at H5
    refine x_iload rfl d_X8_sew_448 ?_
    exact x_ireturn d_X8_sew_450 rfl rfl (F5).1 (F5).2.1 (Nat.zero_le _) (Nat.zero_le _) (kk _ F5 H5)
  refine x_aload_n rfl d_X8_sew_183 ?_
  refine x_aload_n rfl d_X8_sew_184 ?_
  refine x_getf co_all (v := .ref (b + 2)) d_X8_sew_185 fk_8_17 (o8_o H) rfl ?_
  refine x_iload_n rfl d_X8_sew_188 ?_
  refine x_iaload d_X8_sew_189 (o8_3 H) (nIx_nI (j := p) (by omega) (by decide)) ?_
  rw [b3]
  refine x_aload_n rfl d_X8_sew_190 ?_
  refine x_getf co_all (v := .ref (b + 3)) d_X8_sew_191 fk_8_20 (o8_o H) rfl ?_
  refine x_iload_n rfl d_X8_sew_194 ?_
  refine x_iaload d_X8_sew_195 (o8_4 H) (nIx_nI (j := p) (by omega) (by decide)) ?_
  rw [b4]
  refine x_wvV d_X8_sew_196 lk_8_104 mo_X8_newPanel vi_X8_newPanel (sp_mnp (M := N) (by omega) (g := P p 0 0) (s := P p 1 0) H) (o8_o H) ⟨_, rfl, rfl⟩ rfl ⟨Nat.le_of_ble_eq_true rfl, Nat.le_of_ble_eq_true rfl⟩ (Nat.zero_le _) (Nat.zero_le _) (Nat.le_of_ble_eq_true rfl) rfl (fun h3 hq_ e3a e3b => ?_)
  obtain ⟨G3, H3⟩ := hq_
  have F3 := (F).tr G3
  rw [hnn]
  refine x_istore d_X8_sew_199 (Nat.le_of_ble_eq_true rfl) ?_
  refine x_aload_n rfl d_X8_sew_201 ?_
  refine x_getf co_all (v := .ref (b + 4)) d_X8_sew_202 fk_8_23 (o8_o H3) rfl ?_
  refine x_iload rfl d_X8_sew_205 ?_
  refine x_aload_n rfl d_X8_sew_207 ?_
  refine x_getf co_all (v := .ref (b + 4)) d_X8_sew_208 fk_8_23 (o8_o H3) rfl ?_
  refine x_iload_n rfl d_X8_sew_211 ?_
  refine x_iaload d_X8_sew_212 (o8_5 H3) (nIx_nI (j := p) (by omega) (by decide)) ?_
  rw [m5p]
  refine x_iastore d_X8_sew_213 (o8_5 H3) (nIx_nI (j := V 1 0) (by omega) (by decide)) (Nat.le_trans (o8_B H3) (Nat.le_add_right _ _)) ?_
  have H1_8 := o8_ast5 (V 1 0) (P p 2 0) H3
  have f_2 := o8_f5 (V 1 0) (P p 2 0) H3 (F3) (by exact ⟨by omega, by omega⟩)
  refine x_aload_n rfl d_X8_sew_214 ?_
  refine x_getf co_all (v := .ref (b + 5)) d_X8_sew_215 fk_8_26 (o8_o H1_8) rfl ?_
  refine x_iload rfl d_X8_sew_218 ?_
  refine x_aload_n rfl d_X8_sew_220 ?_
  refine x_getf co_all (v := .ref (b + 5)) d_X8_sew_221 fk_8_26 (o8_o H1_8) rfl ?_
  refine x_iload_n rfl d_X8_sew_224 ?_
  refine x_iaload d_X8_sew_225 (o8_6 H1_8) (nIx_nI (j := p) (by omega) (by decide)) ?_
  show nG _ _ _ _ _ _ (.int (nI ((mNp N (P p 0 0) (P p 1 0)) 6 p)) :: _) _
  rw [m6p]
  refine x_iastore d_X8_sew_226 (o8_6 H1_8) (nIx_nI (j := V 1 0) (by omega) (by decide)) (Nat.le_trans (o8_B H1_8) (Nat.le_add_right _ _)) ?_
  have H3_8 := o8_ast6 (V 1 0) (P p 3 0) H1_8
  have f_4 := o8_f6 (V 1 0) (P p 3 0) H1_8 (f_2) (by exact ⟨by omega, by omega⟩)
  refine x_iconst (v := nI 0) (by decide) d_X8_sew_227 ?_
  refine x_istore d_X8_sew_228 (Nat.le_of_ble_eq_true rfl) ?_
  refine lp_sw2 (N := (u2 (u2 (mNp N (P p 0 0) (P p 1 0)) 5 (V 1 0) (P p 2 0)) 6 (V 1 0) (P p 3 0))) hp hn12 (by omega) x2p (fun r k hr hk => by rw [d2 _ _ (by omega) (by omega) (by omega)]; exact hnd p hp r k (by omega) hk) (fun r hr => by rw [d2 _ _ (by omega) (by omega) (by omega)]; exact h9 p hp r (by omega)) ?_ (a + 1) 0 (Nat.zero_add _) _ f_4 (o8_cg H3_8 (mBk_0 _ _ _))
  intro h F H
  refine x_iconst (v := nI 0) (by decide) d_X8_sew_258 ?_
  refine x_istore d_X8_sew_259 (Nat.le_of_ble_eq_true rfl) ?_
  refine lp_sw3 (N := (mBk (u2 (u2 (mNp N (P p 0 0) (P p 1 0)) 5 (V 1 0) (P p 2 0)) 6 (V 1 0) (P p 3 0)) (20 * p) (20 * V 1 0) (a + 1))) hp hq hn12 hac y2p y2q (fun r k hr hk => by rw [mBk_o (by omega) (by omega), d2 _ _ (by omega) (by omega) (by omega)]; exact hnd q hq r k (by omega) hk) (fun r hr => by rw [mBk_o (by omega) (by omega), d2 _ _ (by omega) (by omega) (by omega)]; exact h9 q hq r (by omega)) ?_ c 0 (Nat.zero_add _) _ F (o8_cg H (mBk_0 _ _ _))
  intro h F H
  refine x_aload_n rfl d_X8_sew_296 ?_
  refine x_getf co_all (v := .ref (b + 1)) d_X8_sew_297 fk_8_13 (o8_o H) rfl ?_
  refine x_iload rfl d_X8_sew_300 ?_
  refine x_aload_n rfl d_X8_sew_302 ?_
  refine x_getf co_all (v := .ref (b + 1)) d_X8_sew_303 fk_8_13 (o8_o H) rfl ?_
  refine x_iload_n rfl d_X8_sew_306 ?_
  refine x_iaload d_X8_sew_307 (o8_2 H) (nIx_nI (j := p) (by omega) (by decide)) ?_
  rw [z2p]
  refine x_aload_n rfl d_X8_sew_308 ?_
  refine x_getf co_all (v := .ref (b + 1)) d_X8_sew_309 fk_8_13 (o8_o H) rfl ?_
  refine x_iload_n rfl d_X8_sew_312 ?_
  refine x_iaload d_X8_sew_313 (o8_2 H) (nIx_nI (j := q) (by omega) (by decide)) ?_
  rw [z2q]
  refine x_iaddN d_X8_sew_314 ?_
  refine x_iastore d_X8_sew_315 (o8_2 H) (nIx_nI (j := V 1 0) (by omega) (by decide)) (Nat.le_trans (o8_B H) (Nat.le_add_right _ _)) ?_
  have H25_8 := o8_ast2 (V 1 0) ((a + 1) + c) H
  have f_26 := o8_f2 (V 1 0) ((a + 1) + c) H (F) (by exact ⟨by omega, by omega⟩)
  refine x_aload_n rfl d_X8_sew_316 ?_
  refine x_getf co_all (v := .ref (b + 1)) d_X8_sew_317 fk_8_13 (o8_o H25_8) rfl ?_
  refine x_iload_n rfl d_X8_sew_320 ?_
  refine x_iaload d_X8_sew_321 (o8_2 H25_8) (nIx_nI (j := p) (by omega) (by decide)) ?_
  rw [show u2 (mBk (mBk (u2 (u2 (mNp N (P p 0 0) (P p 1 0)) 5 (V 1 0) (P p 2 0)) 6 (V 1 0) (P p 3 0)) (20 * p) (20 * V 1 0) (a + 1)) (20 * q) (20 * V 1 0 + (a + 1)) c) 2 (V 1 0) (a + 1 + c) 2 p = a + 1 from (u2_ne (by omega)).trans z2p]
  refine x_iconst (v := nI 1) (by decide) d_X8_sew_322 ?_
  refine x_isubN d_X8_sew_323 (by omega) ?_
  rw [Nat.add_sub_cancel]
  refine x_istore d_X8_sew_324 (Nat.le_of_ble_eq_true rfl) ?_
  refine x_iconst (v := nI 0) (by decide) d_X8_sew_326 ?_
  refine x_istore d_X8_sew_327 (Nat.le_of_ble_eq_true rfl) ?_
  refine x_iconst (v := nI 0) (by decide) d_X8_sew_329 ?_
  refine x_istore d_X8_sew_330 (Nat.le_of_ble_eq_true rfl) ?_
  have H9 : o8 _ b (mS5 N (V 1 0) p q a c (P p 0 0) (P p 1 0) (P p 2 0) (P p 3 0)) := H25_8
  rcases hcase with ⟨c1, c2, c3⟩ | ⟨c1, c2, c3⟩
  · exact nG.sub (by exact (And.intro rfl (And.intro rfl (And.intro rfl (And.intro rfl (And.intro rfl (And.intro rfl (And.intro rfl (And.intro rfl (And.intro rfl (And.intro rfl (And.intro rfl True.intro)))))))))))) (lp_sw4A (N := (mS5 N (V 1 0) p q a c (P p 0 0) (P p 1 0) (P p 2 0) (P p 3 0))) (G := (rJn ql (rCp 6 (R p a)) 2)) hn12 (by omega) hpl24 hql24 hl24 h35 c2 c3 c1 (fun k hk => by rw [c2, c3]; exact gA (by rw [rCp_00, hpl]) c1 hk) k438 pl 0 (Nat.zero_add _) _ f_26 (o8_cg H9 (mSm_0 _ _ _)))
  · have Z := lp_sw4B (N := (mS5 N (V 1 0) p q a c (P p 0 0) (P p 1 0) (P p 2 0) (P p 3 0))) (G := (rJn ql (rCp 6 (R p a)) 2)) hn12 (by omega) hpl24 hql24 hl24 h35 c2 c3 c1 (by omega) (fun i j hi hj => by
      rw [c2, c3] at hj ⊢
      have hx : i * pl / ql + j < pl := by
        have h5 : (i + 1) * pl / ql ≤ ql * pl / ql := dv_mono (by omega)
        rw [Nat.mul_div_cancel_left pl (by omega)] at h5
        have h6 := dv_mono (n := ql) (g := pl) (show i ≤ i + 1 by omega)
        unfold tkn at hj
        omega
      rw [gB (by rw [rCp_00, hpl]) c1 hx]
      by_cases e : j = 0
      · rw [if_pos ((g1_j hi hj).mpr e), nB_T e]
      · rw [if_neg (fun z => e ((g1_j hi hj).mp z)), nB_F e]) k438 l 0 (Nat.zero_add _)
    rw [Nat.zero_mul, Nat.zero_div] at Z
    exact nG.sub (by exact (And.intro rfl (And.intro rfl (And.intro rfl (And.intro rfl (And.intro rfl (And.intro rfl (And.intro rfl (And.intro rfl (And.intro rfl (And.intro rfl (And.intro rfl True.intro)))))))))))) (Z _ f_26 (o8_cg H9 (mSm_0 _ _ _)))
theorem md_sew {h : nPH} {b : Nat} {M V : Nat → Nat → Nat} {P : Nat → Nat → Nat → Nat} {R : Nat → Nat → Nat → Nat → Nat} {E Y T S : Nat → Nat → Nat} (H : o8 h b M) (W : rW M V P R E Y T S) (O : kO V P R) (z z2 : Nat) {p : Nat} (hp : p < V 1 0) {q : Nat} (hq : q < V 1 0)  (hne : p ≠ q) (hn : V 1 0 < 12) (h20 : P p 5 0 + P q 5 0 ≤ 20) (hu : fit (R p (P p 5 0 - 1) 0 0) (R q 0 0 0)) : nWv YX8_sew [.ref b, .int (nI p), .int (nI q)] h (some (.int (nI (V 1 0)))) (fun h2 => nFr (nIv b 24) h h2 ∧ ∃ M2, o8 h2 b M2 ∧ rW M2 (vAp V z) (uP P (V 1 0) (sQ (P p) (P q) z2)) (uP R (V 1 0) (sR (R p) (R q) (P p 5 0) (P q 5 0))) E Y T (sJn (R p (P p 5 0 - 1) 0 0) (R q 0 0 0) S)) := by
  obtain ⟨p1, p2, p3, p4, p5, p6, p7, p8⟩ := rW_p W O hp
  obtain ⟨q1, q2, q3, q4, q5, q6, q7, q8⟩ := rW_p W O hq
  have e1 := W.1.1
  obtain ⟨a, ha⟩ : ∃ a, P p 5 0 = a + 1 := ⟨P p 5 0 - 1, by omega⟩
  have e9 : P p 5 0 - 1 = a := by omega
  obtain ⟨r1, r2, r3, r4, r5, r6⟩ := rW_r W O hp (r := a) (by omega)
  obtain ⟨t1, t2, t3, t4, t5, t6⟩ := rW_r W O hq (r := 0) q6
  obtain ⟨pl, hpl⟩ : ∃ pl, R p a 0 0 = pl := ⟨_, rfl⟩
  obtain ⟨ql, hql⟩ : ∃ ql, R q 0 0 0 = ql := ⟨_, rfl⟩
  rw [hpl] at r3 r4
  rw [hql] at t3 t4
  rw [e9, hpl, hql] at hu ⊢
  obtain ⟨u1, u2_, u3, u4⟩ := hu
  by_cases hle : pl ≤ ql
  · refine nSp_of (by decide +kernel) rfl (Nat.le_of_ble_eq_true rfl) (ls := [some (.ref (b)), some (.int (nI (p))), some (.int (nI (q))), none, none, none, none, none, none, none, none, none, none]) (by exact (And.intro rfl (And.intro rfl (And.intro rfl True.intro)))) ?_
    refine x_aload_n rfl d_X8_sew_0 ?_
    refine x_iload_n rfl d_X8_sew_1 ?_
    refine x_rdV d_X8_sew_2 lk_8_91 mo_X8_isPanel vi_X8_isPanel (sp_isPanel H p2 p1) (o8_o H) ⟨_, rfl, rfl⟩ rfl ⟨Nat.le_of_ble_eq_true rfl, Nat.le_of_ble_eq_true rfl⟩ rfl rfl (Nat.zero_le _) (Nat.zero_le _) (Nat.le_of_ble_eq_true rfl) rfl ?_
    refine x_if_eqN (tgt := 48) d_X8_sew_5 (by decide) (by omega) (fun c_1 => by exfalso; omega) (fun c_1 => ?_)
    refine x_aload_n rfl d_X8_sew_8 ?_
    refine x_iload_n rfl d_X8_sew_9 ?_
    refine x_rdV d_X8_sew_10 lk_8_91 mo_X8_isPanel vi_X8_isPanel (sp_isPanel H p2 q1) (o8_o H) ⟨_, rfl, rfl⟩ rfl ⟨Nat.le_of_ble_eq_true rfl, Nat.le_of_ble_eq_true rfl⟩ rfl rfl (Nat.zero_le _) (Nat.zero_le _) (Nat.le_of_ble_eq_true rfl) rfl ?_
    refine x_if_eqN (tgt := 48) d_X8_sew_13 (by decide) (by omega) (fun c_2 => by exfalso; omega) (fun c_2 => ?_)
    refine x_iload_n rfl d_X8_sew_16 ?_
    refine x_iload_n rfl d_X8_sew_17 ?_
    refine x_icmp_eqN (tgt := 48) d_X8_sew_18 (by decide) (by omega) (by omega) (fun c_3 => by exfalso; omega) (fun c_3 => ?_)
    refine x_aload_n rfl d_X8_sew_21 ?_
    refine x_getf co_all (v := .int (nI (M 1 0))) d_X8_sew_22 fk_8_88 (o8_o H) rfl ?_
    refine x_bipush (v := nI 12) (by decide) d_X8_sew_25 ?_
    refine x_icmp_eqN (tgt := 48) d_X8_sew_27 (by decide) (by omega) (by omega) (fun c_4 => by exfalso; omega) (fun c_4 => ?_)
    refine x_aload_n rfl d_X8_sew_30 ?_
    refine x_getf co_all (v := .ref (b + 1)) d_X8_sew_31 fk_8_13 (o8_o H) rfl ?_
    refine x_iload_n rfl d_X8_sew_34 ?_
    refine x_iaload d_X8_sew_35 (o8_2 H) (nIx_nI (j := p) (by omega) (by decide)) ?_
    refine x_aload_n rfl d_X8_sew_36 ?_
    refine x_getf co_all (v := .ref (b + 1)) d_X8_sew_37 fk_8_13 (o8_o H) rfl ?_
    refine x_iload_n rfl d_X8_sew_40 ?_
    refine x_iaload d_X8_sew_41 (o8_2 H) (nIx_nI (j := q) (by omega) (by decide)) ?_
    refine x_iaddN d_X8_sew_42 ?_
    refine x_bipush (v := nI 20) (by decide) d_X8_sew_43 ?_
    refine x_icmp_leN (tgt := 50) d_X8_sew_45 (by decide) (by omega) (by omega) (fun c_5 => ?_) (fun c_5 => by exfalso; omega)
    refine x_aload_n rfl d_X8_sew_50 ?_
    refine x_getf co_all (v := .ref (b + 7)) d_X8_sew_51 fk_8_32 (o8_o H) rfl ?_
    refine x_bipush (v := nI 20) (by decide) d_X8_sew_54 ?_
    refine x_iload_n rfl d_X8_sew_56 ?_
    refine x_imulN d_X8_sew_57 ?_
    refine x_aload_n rfl d_X8_sew_58 ?_
    refine x_getf co_all (v := .ref (b + 1)) d_X8_sew_59 fk_8_13 (o8_o H) rfl ?_
    refine x_iload_n rfl d_X8_sew_62 ?_
    refine x_iaload d_X8_sew_63 (o8_2 H) (nIx_nI (j := p) (by omega) (by decide)) ?_
    refine x_iaddN d_X8_sew_64 ?_
    refine x_iconst (v := nI 1) (by decide) d_X8_sew_65 ?_
    refine x_isubN d_X8_sew_66 (by omega) ?_
    rw [show 20 * p + M 2 p - 1 = 20 * p + a by omega]
    refine x_iaload d_X8_sew_67 (o8_8 H) (nIx_nI (j := 20 * p + a) (by omega) (by decide)) ?_
    rw [r3]
    refine x_istore_n d_X8_sew_68 (Nat.le_of_ble_eq_true rfl) ?_
    refine x_aload_n rfl d_X8_sew_69 ?_
    refine x_getf co_all (v := .ref (b + 7)) d_X8_sew_70 fk_8_32 (o8_o H) rfl ?_
    refine x_bipush (v := nI 20) (by decide) d_X8_sew_73 ?_
    refine x_iload_n rfl d_X8_sew_75 ?_
    refine x_imulN d_X8_sew_76 ?_
    refine x_iaload d_X8_sew_77 (o8_8 H) (nIx_nI (j := 20 * q) (by omega) (by decide)) ?_
    rw [show 20 * q = 20 * q + 0 from rfl, t3]
    refine x_istore d_X8_sew_78 (Nat.le_of_ble_eq_true rfl) ?_
    refine x_iload_n rfl d_X8_sew_80 ?_
    refine x_if_eqN (tgt := 105) d_X8_sew_81 (by decide) (by omega) (fun c_6 => by exfalso; omega) (fun c_6 => ?_)
    refine x_iload rfl d_X8_sew_84 ?_
    refine x_if_eqN (tgt := 105) d_X8_sew_86 (by decide) (by omega) (fun c_7 => by exfalso; omega) (fun c_7 => ?_)
    refine x_iload_n rfl d_X8_sew_89 ?_
    refine x_iconst (v := nI 2) (by decide) d_X8_sew_90 ?_
    refine x_iload rfl d_X8_sew_91 ?_
    refine x_imulN d_X8_sew_93 ?_
    refine x_icmp_gtN (tgt := 105) d_X8_sew_94 (by decide) (by omega) (by omega) (fun c_8 => by exfalso; omega) (fun c_8 => ?_)
    refine x_iload rfl d_X8_sew_97 ?_
    refine x_iconst (v := nI 2) (by decide) d_X8_sew_99 ?_
    refine x_iload_n rfl d_X8_sew_100 ?_
    refine x_imulN d_X8_sew_101 ?_
    refine x_icmp_leN (tgt := 107) d_X8_sew_102 (by decide) (by omega) (by omega) (fun c_9 => ?_) (fun c_9 => by exfalso; omega)
    refine x_iload_n rfl d_X8_sew_107 ?_
    refine x_iload rfl d_X8_sew_108 ?_
    refine x_icmp_gtN (tgt := 117) d_X8_sew_110 (by decide) (by omega) (by omega) (fun c_10 => by exfalso; omega) (fun c_10 => ?_)
    refine x_iload_n rfl d_X8_sew_113 ?_
    refine x_goto (tgt := 119) d_X8_sew_114 (by decide) ?_
    refine x_istore d_X8_sew_119 (Nat.le_of_ble_eq_true rfl) ?_
    refine x_iload_n rfl d_X8_sew_121 ?_
    refine x_iload rfl d_X8_sew_122 ?_
    refine x_icmp_gtN (tgt := 132) d_X8_sew_124 (by decide) (by omega) (by omega) (fun c_11 => by exfalso; omega) (fun c_11 => ?_)
    refine x_iload rfl d_X8_sew_127 ?_
    refine x_goto (tgt := 133) d_X8_sew_129 (by decide) ?_
    refine x_istore d_X8_sew_133 (Nat.le_of_ble_eq_true rfl) ?_
    refine x_aload_n rfl d_X8_sew_135 ?_
    refine x_iload rfl d_X8_sew_136 ?_
    refine x_putf co_all d_X8_sew_138 fk_8_206 ft_8_34 (o8_o H) (Nat.le_of_ble_eq_true rfl) rfl rfl (o8_B H) ?_
    have H12_8 := o8_put34 (pl) H
    have f_13 := o8_g34 (pl) H ((nFr.rf (S := nIv b 24) (h := h))) (by exact ⟨by omega, by omega⟩)
    refine x_iconst (v := nI 0) (by decide) d_X8_sew_141 ?_
    refine x_istore d_X8_sew_142 (Nat.le_of_ble_eq_true rfl) ?_
    rw [show sJn pl ql S = sSk pl ql pl S from if_pos hle]
    have W0 := rW_sk W pl ql
    refine nG.sub (by exact (And.intro rfl (And.intro rfl (And.intro rfl (And.intro rfl (And.intro rfl (And.intro rfl (And.intro rfl (And.intro rfl True.intro))))))))) (lp_sw1 (M := M) (l := pl) (m := ql) (by omega) (by omega) (by omega) (fun h3 F3 H3 => lp_sw6 W0 O hn hp hq ha rfl (by omega) hpl hql (by omega) (by omega) (by omega) (Or.inl ⟨hle, rfl, rfl⟩) (fun i hi => by unfold mSk; rw [if_neg (by omega), if_pos ⟨rfl, hi⟩]) (fun h2 F2 H2 => ⟨rfl, F2, _, H2, rW_sw W0 O hn hp hq ha rfl (by omega) hpl hql (by omega) (by omega) (by omega) z z2⟩) F3 H3) pl 0 (Nat.zero_add _) _ f_13 (o8_cg H12_8 (mSk_0 M pl ql)))
  · refine nSp_of (by decide +kernel) rfl (Nat.le_of_ble_eq_true rfl) (ls := [some (.ref (b)), some (.int (nI (p))), some (.int (nI (q))), none, none, none, none, none, none, none, none, none, none]) (by exact (And.intro rfl (And.intro rfl (And.intro rfl True.intro)))) ?_
    refine x_aload_n rfl d_X8_sew_0 ?_
    refine x_iload_n rfl d_X8_sew_1 ?_
    refine x_rdV d_X8_sew_2 lk_8_91 mo_X8_isPanel vi_X8_isPanel (sp_isPanel H p2 p1) (o8_o H) ⟨_, rfl, rfl⟩ rfl ⟨Nat.le_of_ble_eq_true rfl, Nat.le_of_ble_eq_true rfl⟩ rfl rfl (Nat.zero_le _) (Nat.zero_le _) (Nat.le_of_ble_eq_true rfl) rfl ?_
    refine x_if_eqN (tgt := 48) d_X8_sew_5 (by decide) (by omega) (fun c_1 => by exfalso; omega) (fun c_1 => ?_)
    refine x_aload_n rfl d_X8_sew_8 ?_
    refine x_iload_n rfl d_X8_sew_9 ?_
    refine x_rdV d_X8_sew_10 lk_8_91 mo_X8_isPanel vi_X8_isPanel (sp_isPanel H p2 q1) (o8_o H) ⟨_, rfl, rfl⟩ rfl ⟨Nat.le_of_ble_eq_true rfl, Nat.le_of_ble_eq_true rfl⟩ rfl rfl (Nat.zero_le _) (Nat.zero_le _) (Nat.le_of_ble_eq_true rfl) rfl ?_
    refine x_if_eqN (tgt := 48) d_X8_sew_13 (by decide) (by omega) (fun c_2 => by exfalso; omega) (fun c_2 => ?_)
    refine x_iload_n rfl d_X8_sew_16 ?_
    refine x_iload_n rfl d_X8_sew_17 ?_
    refine x_icmp_eqN (tgt := 48) d_X8_sew_18 (by decide) (by omega) (by omega) (fun c_3 => by exfalso; omega) (fun c_3 => ?_)
    refine x_aload_n rfl d_X8_sew_21 ?_
    refine x_getf co_all (v := .int (nI (M 1 0))) d_X8_sew_22 fk_8_88 (o8_o H) rfl ?_
    refine x_bipush (v := nI 12) (by decide) d_X8_sew_25 ?_
    refine x_icmp_eqN (tgt := 48) d_X8_sew_27 (by decide) (by omega) (by omega) (fun c_4 => by exfalso; omega) (fun c_4 => ?_)
    refine x_aload_n rfl d_X8_sew_30 ?_
    refine x_getf co_all (v := .ref (b + 1)) d_X8_sew_31 fk_8_13 (o8_o H) rfl ?_
    refine x_iload_n rfl d_X8_sew_34 ?_
    refine x_iaload d_X8_sew_35 (o8_2 H) (nIx_nI (j := p) (by omega) (by decide)) ?_
    refine x_aload_n rfl d_X8_sew_36 ?_
    refine x_getf co_all (v := .ref (b + 1)) d_X8_sew_37 fk_8_13 (o8_o H) rfl ?_
    refine x_iload_n rfl d_X8_sew_40 ?_
    refine x_iaload d_X8_sew_41 (o8_2 H) (nIx_nI (j := q) (by omega) (by decide)) ?_
    refine x_iaddN d_X8_sew_42 ?_
    refine x_bipush (v := nI 20) (by decide) d_X8_sew_43 ?_
    refine x_icmp_leN (tgt := 50) d_X8_sew_45 (by decide) (by omega) (by omega) (fun c_5 => ?_) (fun c_5 => by exfalso; omega)
    refine x_aload_n rfl d_X8_sew_50 ?_
    refine x_getf co_all (v := .ref (b + 7)) d_X8_sew_51 fk_8_32 (o8_o H) rfl ?_
    refine x_bipush (v := nI 20) (by decide) d_X8_sew_54 ?_
    refine x_iload_n rfl d_X8_sew_56 ?_
    refine x_imulN d_X8_sew_57 ?_
    refine x_aload_n rfl d_X8_sew_58 ?_
    refine x_getf co_all (v := .ref (b + 1)) d_X8_sew_59 fk_8_13 (o8_o H) rfl ?_
    refine x_iload_n rfl d_X8_sew_62 ?_
    refine x_iaload d_X8_sew_63 (o8_2 H) (nIx_nI (j := p) (by omega) (by decide)) ?_
    refine x_iaddN d_X8_sew_64 ?_
    refine x_iconst (v := nI 1) (by decide) d_X8_sew_65 ?_
    refine x_isubN d_X8_sew_66 (by omega) ?_
    rw [show 20 * p + M 2 p - 1 = 20 * p + a by omega]
    refine x_iaload d_X8_sew_67 (o8_8 H) (nIx_nI (j := 20 * p + a) (by omega) (by decide)) ?_
    rw [r3]
    refine x_istore_n d_X8_sew_68 (Nat.le_of_ble_eq_true rfl) ?_
    refine x_aload_n rfl d_X8_sew_69 ?_
    refine x_getf co_all (v := .ref (b + 7)) d_X8_sew_70 fk_8_32 (o8_o H) rfl ?_
    refine x_bipush (v := nI 20) (by decide) d_X8_sew_73 ?_
    refine x_iload_n rfl d_X8_sew_75 ?_
    refine x_imulN d_X8_sew_76 ?_
    refine x_iaload d_X8_sew_77 (o8_8 H) (nIx_nI (j := 20 * q) (by omega) (by decide)) ?_
    rw [show 20 * q = 20 * q + 0 from rfl, t3]
    refine x_istore d_X8_sew_78 (Nat.le_of_ble_eq_true rfl) ?_
    refine x_iload_n rfl d_X8_sew_80 ?_
    refine x_if_eqN (tgt := 105) d_X8_sew_81 (by decide) (by omega) (fun c_6 => by exfalso; omega) (fun c_6 => ?_)
    refine x_iload rfl d_X8_sew_84 ?_
    refine x_if_eqN (tgt := 105) d_X8_sew_86 (by decide) (by omega) (fun c_7 => by exfalso; omega) (fun c_7 => ?_)
    refine x_iload_n rfl d_X8_sew_89 ?_
    refine x_iconst (v := nI 2) (by decide) d_X8_sew_90 ?_
    refine x_iload rfl d_X8_sew_91 ?_
    refine x_imulN d_X8_sew_93 ?_
    refine x_icmp_gtN (tgt := 105) d_X8_sew_94 (by decide) (by omega) (by omega) (fun c_8 => by exfalso; omega) (fun c_8 => ?_)
    refine x_iload rfl d_X8_sew_97 ?_
    refine x_iconst (v := nI 2) (by decide) d_X8_sew_99 ?_
    refine x_iload_n rfl d_X8_sew_100 ?_
    refine x_imulN d_X8_sew_101 ?_
    refine x_icmp_leN (tgt := 107) d_X8_sew_102 (by decide) (by omega) (by omega) (fun c_9 => ?_) (fun c_9 => by exfalso; omega)
    refine x_iload_n rfl d_X8_sew_107 ?_
    refine x_iload rfl d_X8_sew_108 ?_
    refine x_icmp_gtN (tgt := 117) d_X8_sew_110 (by decide) (by omega) (by omega) (fun c_10 => ?_) (fun c_10 => by exfalso; omega)
    refine x_iload rfl d_X8_sew_117 ?_
    refine x_istore d_X8_sew_119 (Nat.le_of_ble_eq_true rfl) ?_
    refine x_iload_n rfl d_X8_sew_121 ?_
    refine x_iload rfl d_X8_sew_122 ?_
    refine x_icmp_gtN (tgt := 132) d_X8_sew_124 (by decide) (by omega) (by omega) (fun c_11 => ?_) (fun c_11 => by exfalso; omega)
    refine x_iload_n rfl d_X8_sew_132 ?_
    refine x_istore d_X8_sew_133 (Nat.le_of_ble_eq_true rfl) ?_
    refine x_aload_n rfl d_X8_sew_135 ?_
    refine x_iload rfl d_X8_sew_136 ?_
    refine x_putf co_all d_X8_sew_138 fk_8_206 ft_8_34 (o8_o H) (Nat.le_of_ble_eq_true rfl) rfl rfl (o8_B H) ?_
    have H12_8 := o8_put34 (ql) H
    have f_13 := o8_g34 (ql) H ((nFr.rf (S := nIv b 24) (h := h))) (by exact ⟨by omega, by omega⟩)
    refine x_iconst (v := nI 0) (by decide) d_X8_sew_141 ?_
    refine x_istore d_X8_sew_142 (Nat.le_of_ble_eq_true rfl) ?_
    rw [show sJn pl ql S = sSk ql pl ql S from if_neg hle]
    have W0 := rW_sk W ql pl
    refine nG.sub (by exact (And.intro rfl (And.intro rfl (And.intro rfl (And.intro rfl (And.intro rfl (And.intro rfl (And.intro rfl (And.intro rfl True.intro))))))))) (lp_sw1 (M := M) (l := ql) (m := pl) (by omega) (by omega) (by omega) (fun h3 F3 H3 => lp_sw6 W0 O hn hp hq ha rfl (by omega) hpl hql (by omega) (by omega) (by omega) (Or.inr ⟨by omega, rfl, rfl⟩) (fun i hi => by unfold mSk; rw [if_neg (by omega), if_pos ⟨rfl, hi⟩]) (fun h2 F2 H2 => ⟨rfl, F2, _, H2, rW_sw W0 O hn hp hq ha rfl (by omega) hpl hql (by omega) (by omega) (by omega) z z2⟩) F3 H3) ql 0 (Nat.zero_add _) _ f_13 (o8_cg H12_8 (mSk_0 M ql pl)))
