/-! the model: spreads -/
theorem spI_w0 {M0 M : Nat → Nat → Nat} {n : Nat} {R : Nat → Nat → Nat → Nat} {s w : Nat} {X : Nat → Prop} (I : spI M0 M n R s w X) (h : w = 0) : spI M0 M n R s 0 X := by subst h; exact I
theorem lp_sp2 {h0 : nPH} {Post : Option Value → nPH → Prop} {b : Nat} {M0 V : Nat → Nat → Nat} {P : Nat → Nat → Nat → Nat} {R : Nat → Nat → Nat → Nat → Nat} {E Y T S : Nat → Nat → Nat} (W : rW M0 V P R E Y T S) (O : kO V P R) {p s a2 a3 : Nat} (hp : p < V 1 0) {r k t : Nat} (hr : r < P p 5 0) (hk : k < R p r 0 0) (hx : gRe (P p 5 0) (R p) s (24 * r + k)) (hr1 : r + 1 < P p 5 0) {K : Nat → Prop} (kk : ∀ (h : nPH) (M : Nat → Nat → Nat) (w : Nat), nFr (nIv b 24) h0 h → o8 h b M → spI M0 M (P p 5 0) (R p) s w (fun y => y = 24 * r + k) → M 20 0 = t → (∀ y, K y → M 18 y = 1) → (∀ j2, j2 < R p (r + 1) 0 0 → igo (R p (r + 1)) j2 k = true → M 18 (24 * (r + 1) + j2) = 1) → nG YX8_spreads (nKy YX8_spreads h0.1 h0.2.1 Post) 0 0 73 [some (.ref (b)), some (.int (nI (p))), some (.int (nI (a2))), some (.int (nI (a3))), some (.int (nI (w))), none, none, none, none, none, none] [] h) : ∀ d j : Nat, j + d = R p (r + 1) 0 0 → ∀ (h : nPH) (M : Nat → Nat → Nat) (w : Nat), nFr (nIv b 24) h0 h → o8 h b M → spI M0 M (P p 5 0) (R p) s w (fun y => y = 24 * r + k) → M 20 0 = t → (∀ y, K y → M 18 y = 1) → (∀ j2, j2 < j → igo (R p (r + 1)) j2 k = true → M 18 (24 * (r + 1) + j2) = 1) → nG YX8_spreads (nKy YX8_spreads h0.1 h0.2.1 Post) 0 0 251 [some (.ref (b)), some (.int (nI (p))), some (.int (nI (a2))), some (.int (nI (a3))), some (.int (nI (w))), some (.int (nI (24 * r + k))), some (.int (nI (r))), some (.int (nI (k))), some (.int (nI (24 * (20 * p + r) + k))), some (.int (nI (j))), none] [] h := by
  intro d
  have hk24 : k < 24 := by have := (O.2.2.2 p hp).2.2.1 r hr; have := this.1; omega
  induction d with
  | zero =>
    intro j hj h M w F H I hT Kc C
    have W2 := rW_sp W I.1
    obtain ⟨p1, p2, p3, p4, p5, p6, p7, p8⟩ := rW_p W2 O hp
    have i18 := I.2.1
    have ic := spI_c I
    obtain ⟨r1, r2, r3, r4, r5, r6⟩ := rW_r W2 O hp hr1
    have r9 : M 8 (20 * p + r + 1) = M 8 (20 * p + (r + 1)) := rfl
    refine x_iload rfl d_X8_spreads_251 ?_
    refine x_aload_n rfl d_X8_spreads_253 ?_
    refine x_getf co_all (v := .ref (b + 7)) d_X8_spreads_254 fk_8_32 (o8_o H) rfl ?_
    refine x_bipush (v := nI 20) (by decide) d_X8_spreads_257 ?_
    refine x_iload_n rfl d_X8_spreads_259 ?_
    refine x_imulN d_X8_spreads_260 ?_
    refine x_iload rfl d_X8_spreads_261 ?_
    refine x_iaddN d_X8_spreads_263 ?_
    refine x_iconst (v := nI 1) (by decide) d_X8_spreads_264 ?_
    refine x_iaddN d_X8_spreads_265 ?_
    refine x_iaload d_X8_spreads_266 (o8_8 H) (nIx_nI (j := ((20 * p) + r) + 1) (by omega) (by decide)) ?_
    refine x_icmp_geN (tgt := 341) d_X8_spreads_267 (by decide) (by omega) (by omega) (fun c_1 => ?_) (fun c_1 => by exfalso; omega)
    refine x_goto (tgt := 73) d_X8_spreads_341 (by decide) ?_
    have e : j = R p (r + 1) 0 0 := by omega
    subst e
    exact nG.sub (by exact (And.intro rfl (And.intro rfl (And.intro rfl (And.intro rfl (And.intro rfl True.intro)))))) (kk h M w F H I hT Kc C)
  | succ d ih =>
    intro j hj h M w F H I hT Kc C
    have W2 := rW_sp W I.1
    obtain ⟨p1, p2, p3, p4, p5, p6, p7, p8⟩ := rW_p W2 O hp
    have i18 := I.2.1
    have ic := spI_c I
    obtain ⟨r1, r2, r3, r4, r5, r6⟩ := rW_r W2 O hp hr1
    have r9 : M 8 (20 * p + r + 1) = M 8 (20 * p + (r + 1)) := rfl
    have hwe : hw (mR M p (r + 1)) 1 j k = nb (igo (R p (r + 1)) j k) := by
      rw [← rRw_hw r6 (by omega)]
      rfl
    refine x_iload rfl d_X8_spreads_251 ?_
    refine x_aload_n rfl d_X8_spreads_253 ?_
    refine x_getf co_all (v := .ref (b + 7)) d_X8_spreads_254 fk_8_32 (o8_o H) rfl ?_
    refine x_bipush (v := nI 20) (by decide) d_X8_spreads_257 ?_
    refine x_iload_n rfl d_X8_spreads_259 ?_
    refine x_imulN d_X8_spreads_260 ?_
    refine x_iload rfl d_X8_spreads_261 ?_
    refine x_iaddN d_X8_spreads_263 ?_
    refine x_iconst (v := nI 1) (by decide) d_X8_spreads_264 ?_
    refine x_iaddN d_X8_spreads_265 ?_
    refine x_iaload d_X8_spreads_266 (o8_8 H) (nIx_nI (j := ((20 * p) + r) + 1) (by omega) (by decide)) ?_
    refine x_icmp_geN (tgt := 341) d_X8_spreads_267 (by decide) (by omega) (by omega) (fun c_1 => by exfalso; omega) (fun c_1 => ?_)
    refine x_bipush (v := nI 24) (by decide) d_X8_spreads_270 ?_
    refine x_iload rfl d_X8_spreads_272 ?_
    refine x_iconst (v := nI 1) (by decide) d_X8_spreads_274 ?_
    refine x_iaddN d_X8_spreads_275 ?_
    refine x_imulN d_X8_spreads_276 ?_
    refine x_iload rfl d_X8_spreads_277 ?_
    refine x_iaddN d_X8_spreads_279 ?_
    refine x_istore d_X8_spreads_280 (Nat.le_of_ble_eq_true rfl) ?_
    refine x_aload_n rfl d_X8_spreads_282 ?_
    refine x_getf co_all (v := .ref (b + 16)) d_X8_spreads_283 fk_8_60 (o8_o H) rfl ?_
    refine x_iload rfl d_X8_spreads_286 ?_
    refine x_baload d_X8_spreads_288 (o8_18 H) (nIx_nI (j := (24 * (r + 1)) + j) (by omega) (by decide)) ?_
    refine x_if_neN (tgt := 335) d_X8_spreads_289 (by decide) (by have := i18 (24 * (r + 1) + j) (by omega); omega) (fun c_in => ?_) (fun c_in => ?_)
    · refine x_iincN (m := 1) d_X8_spreads_335 rfl (by decide) (Nat.le_of_ble_eq_true rfl) ?_
      refine x_goto (tgt := 251) d_X8_spreads_338 (by decide) ?_
      refine nG.eq (ls2 := [some (.ref (b)), some (.int (nI (p))), some (.int (nI (a2))), some (.int (nI (a3))), some (.int (nI (w))), some (.int (nI (24 * r + k))), some (.int (nI (r))), some (.int (nI (k))), some (.int (nI (24 * (20 * p + r) + k))), some (.int (nI (j + 1))), some (.int (nI ((24 * (r + 1)) + j)))]) rfl rfl rfl rfl rfl ?_
      exact nG.sub (by exact (And.intro rfl (And.intro rfl (And.intro rfl (And.intro rfl (And.intro rfl (And.intro rfl (And.intro rfl (And.intro rfl (And.intro rfl (And.intro rfl True.intro))))))))))) (ih (j + 1) (by omega) _ _ _ F H I hT Kc (fun j2 hj2 g => by
        by_cases e : j2 = j
        · subst e
          first | (have := i18 (24 * (r + 1) + j2) (by omega); omega) | (rw [hwe, g] at c_hang; exact absurd c_hang (by decide))
        · exact C j2 (by omega) g))
    · refine x_aload_n rfl d_X8_spreads_292 ?_
      refine x_iload_n rfl d_X8_spreads_293 ?_
      refine x_iload rfl d_X8_spreads_294 ?_
      refine x_iconst (v := nI 1) (by decide) d_X8_spreads_296 ?_
      refine x_iaddN d_X8_spreads_297 ?_
      refine x_iload rfl d_X8_spreads_298 ?_
      refine x_rdS d_X8_spreads_300 lk_8_99 mo_X8_at sc_X8_at (sp_at) rfl ⟨Nat.le_of_ble_eq_true rfl, Nat.le_of_ble_eq_true rfl⟩ rfl rfl (Nat.zero_le _) (Nat.zero_le _) (Nat.le_of_ble_eq_true rfl) rfl ?_
      refine x_iload rfl d_X8_spreads_303 ?_
      refine x_iconst (v := nI 1) (by decide) d_X8_spreads_305 ?_
      refine x_rdV d_X8_spreads_306 lk_8_139 mo_X8_hangsIn vi_X8_hangsIn (sp_mhg H p3 (r := r + 1) r2 (j := j) (by omega) (k := k) (by omega) ((p8.2 (r + 1) r1).2 j (by omega)) (c := 1) (by decide)) (o8_o H) ⟨_, rfl, rfl⟩ rfl ⟨Nat.le_of_ble_eq_true rfl, Nat.le_of_ble_eq_true rfl⟩ rfl rfl (Nat.zero_le _) (Nat.zero_le _) (Nat.le_of_ble_eq_true rfl) rfl ?_
      have hle := hw_le (mR M p (r + 1)) 1 j k
      refine x_if_neN (tgt := 315) d_X8_spreads_309 (by decide) (by omega) (fun c_hang => ?_) (fun c_hang => ?_)
      · have hg : igo (R p (r + 1)) j k = true := nb_n0.mp (by rw [← hwe]; exact c_hang)
        have Z := spI_push I (z := 24 * (r + 1) + j) (by omega) (by omega) (gRe.st hx (gE_dn hk24 (by omega) hr1 (by omega) hg))
        have Z1 := Z.1
        refine x_aload_n rfl d_X8_spreads_315 ?_
        refine x_getf co_all (v := .ref (b + 16)) d_X8_spreads_316 fk_8_60 (o8_o H) rfl ?_
        refine x_iload rfl d_X8_spreads_319 ?_
        refine x_iconst (v := nI 1) (by decide) d_X8_spreads_321 ?_
        refine x_bastore d_X8_spreads_322 (o8_18 H) (nIx_nI (j := (24 * (r + 1)) + j) (by omega) (by decide)) rfl (Nat.le_trans (o8_B H) (Nat.le_add_right _ _)) ?_
        have H4_8 := o8_ast18 ((24 * (r + 1)) + j) (1) H
        have f_5 := o8_f18 ((24 * (r + 1)) + j) (1) H (F) (by exact ⟨by omega, by omega⟩)
        refine x_aload_n rfl d_X8_spreads_323 ?_
        refine x_getf co_all (v := .ref (b + 17)) d_X8_spreads_324 fk_8_63 (o8_o H4_8) rfl ?_
        refine x_iload rfl d_X8_spreads_327 ?_
        refine x_iload rfl d_X8_spreads_329 ?_
        refine x_iastore d_X8_spreads_331 (o8_19 H4_8) (nIx_nI (j := w) (by omega) (by decide)) (Nat.le_trans (o8_B H4_8) (Nat.le_add_right _ _)) ?_
        have H6_8 := o8_ast19 (w) ((24 * (r + 1)) + j) H4_8
        have f_7 := o8_f19 (w) ((24 * (r + 1)) + j) H4_8 (f_5) (by exact ⟨by omega, by omega⟩)
        refine x_iincN (m := 1) d_X8_spreads_332 rfl (by decide) (Nat.le_of_ble_eq_true rfl) ?_
        refine x_iincN (m := 1) d_X8_spreads_335 rfl (by decide) (Nat.le_of_ble_eq_true rfl) ?_
        refine x_goto (tgt := 251) d_X8_spreads_338 (by decide) ?_
        refine nG.eq (ls2 := [some (.ref (b)), some (.int (nI (p))), some (.int (nI (a2))), some (.int (nI (a3))), some (.int (nI (w + 1))), some (.int (nI (24 * r + k))), some (.int (nI (r))), some (.int (nI (k))), some (.int (nI (24 * (20 * p + r) + k))), some (.int (nI (j + 1))), some (.int (nI ((24 * (r + 1)) + j)))]) rfl rfl rfl rfl rfl ?_
        exact nG.sub (by exact (And.intro rfl (And.intro rfl (And.intro rfl (And.intro rfl (And.intro rfl (And.intro rfl (And.intro rfl (And.intro rfl (And.intro rfl (And.intro rfl True.intro))))))))))) (ih (j + 1) (by omega) _ _ _ f_7 H6_8 Z.2 (by rw [u2_ne (by omega), u2_ne (by omega)]; exact hT) (fun y hy => by rw [u2_ne (by omega)]; by_cases e : y = 24 * (r + 1) + j; { subst e; exact u2_eq _ _ _ _ }; { rw [u2_ne (by omega)]; exact Kc y hy }) (fun j2 hj2 g => by rw [u2_ne (by omega)]; by_cases e : j2 = j; { subst e; exact u2_eq _ _ _ _ }; { rw [u2_ne (by omega)]; exact C j2 (by omega) g }))
      · refine x_goto (tgt := 335) d_X8_spreads_312 (by decide) ?_
        refine x_iincN (m := 1) d_X8_spreads_335 rfl (by decide) (Nat.le_of_ble_eq_true rfl) ?_
        refine x_goto (tgt := 251) d_X8_spreads_338 (by decide) ?_
        refine nG.eq (ls2 := [some (.ref (b)), some (.int (nI (p))), some (.int (nI (a2))), some (.int (nI (a3))), some (.int (nI (w))), some (.int (nI (24 * r + k))), some (.int (nI (r))), some (.int (nI (k))), some (.int (nI (24 * (20 * p + r) + k))), some (.int (nI (j + 1))), some (.int (nI ((24 * (r + 1)) + j)))]) rfl rfl rfl rfl rfl ?_
        exact nG.sub (by exact (And.intro rfl (And.intro rfl (And.intro rfl (And.intro rfl (And.intro rfl (And.intro rfl (And.intro rfl (And.intro rfl (And.intro rfl (And.intro rfl True.intro))))))))))) (ih (j + 1) (by omega) _ _ _ F H I hT Kc (fun j2 hj2 g => by
          by_cases e : j2 = j
          · subst e
            first | (have := i18 (24 * (r + 1) + j2) (by omega); omega) | (rw [hwe, g] at c_hang; exact absurd c_hang (by decide))
          · exact C j2 (by omega) g))
theorem lp_sp1 {h0 : nPH} {Post : Option Value → nPH → Prop} {b : Nat} {M0 V : Nat → Nat → Nat} {P : Nat → Nat → Nat → Nat} {R : Nat → Nat → Nat → Nat → Nat} {E Y T S : Nat → Nat → Nat} (W : rW M0 V P R E Y T S) (O : kO V P R) {p s a2 a3 : Nat} (hp : p < V 1 0) {r k t : Nat} (hr : r < P p 5 0) (hk : k < R p r 0 0) (hx : gRe (P p 5 0) (R p) s (24 * r + k)) (kk : ∀ (h : nPH) (M : Nat → Nat → Nat) (w : Nat), nFr (nIv b 24) h0 h → o8 h b M → spI M0 M (P p 5 0) (R p) s w (fun y => y = 24 * r + k) → M 20 0 = t → (∀ c2, c2 < R p r 5 k → (R p r 6 k).testBit c2 = true → M 18 (24 * (r - 1) + R p r 4 k + c2) = 1) → nG YX8_spreads (nKy YX8_spreads h0.1 h0.2.1 Post) 0 0 232 [some (.ref (b)), some (.int (nI (p))), some (.int (nI (a2))), some (.int (nI (a3))), some (.int (nI (w))), some (.int (nI (24 * r + k))), some (.int (nI (r))), some (.int (nI (k))), some (.int (nI (24 * (20 * p + r) + k))), none, none] [] h) : ∀ d c : Nat, c + d = R p r 5 k → ∀ (h : nPH) (M : Nat → Nat → Nat) (w : Nat), nFr (nIv b 24) h0 h → o8 h b M → spI M0 M (P p 5 0) (R p) s w (fun y => y = 24 * r + k) → M 20 0 = t → (∀ c2, c2 < c → (R p r 6 k).testBit c2 = true → M 18 (24 * (r - 1) + R p r 4 k + c2) = 1) → nG YX8_spreads (nKy YX8_spreads h0.1 h0.2.1 Post) 0 0 146 [some (.ref (b)), some (.int (nI (p))), some (.int (nI (a2))), some (.int (nI (a3))), some (.int (nI (w))), some (.int (nI (24 * r + k))), some (.int (nI (r))), some (.int (nI (k))), some (.int (nI (24 * (20 * p + r) + k))), some (.int (nI (c))), none] [] h := by
  intro d
  have rk := (O.2.2.2 p hp).2.2.1 r hr
  have hk24 : k < 24 := by have := rk.1; omega
  have n20 := (O.2.2.2 p hp).2.1
  have hup : 0 < R p r 5 k → 1 ≤ r ∧ R p r 4 k + R p r 5 k ≤ 24 := fun h => by
    have G := (O.2.2.2 p hp).2.2.2.1
    rcases Nat.eq_zero_or_pos r with z | z
    · subst z
      have := G.1 k hk
      omega
    · obtain ⟨q, rfl⟩ : ∃ q, r = q + 1 := ⟨r - 1, by omega⟩
      have := G.2 q hr k hk
      have := ((O.2.2.2 p hp).2.2.1 q (by omega)).1
      omega
  induction d with
  | zero =>
    intro c hc h M w F H I hT C
    have W2 := rW_sp W I.1
    obtain ⟨p1, p2, p3, p4, p5, p6, p7, p8⟩ := rW_p W2 O hp
    have i18 := I.2.1
    have ic := spI_c I
    obtain ⟨k1, k2, k3, k4, k5, k6, k7, k8, k9⟩ := rW_k W2 O hp hr hk
    have kb := ((p8.2 r (by omega)).2 k k2).2.2.1
    have ks := rk.2 k k2
    refine x_iload rfl d_X8_spreads_146 ?_
    refine x_aload_n rfl d_X8_spreads_148 ?_
    refine x_getf co_all (v := .ref (b + 12)) d_X8_spreads_149 fk_8_48 (o8_o H) rfl ?_
    refine x_iload rfl d_X8_spreads_152 ?_
    refine x_iaload d_X8_spreads_154 (o8_13 H) (nIx_nI (j := 24 * (20 * p + r) + k) (by omega) (by decide)) ?_
    refine x_icmp_geN (tgt := 232) d_X8_spreads_155 (by decide) (by omega) (by omega) (fun c_1 => ?_) (fun c_1 => by exfalso; omega)
    have e : c = R p r 5 k := by omega
    subst e
    exact nG.sub (by exact (And.intro rfl (And.intro rfl (And.intro rfl (And.intro rfl (And.intro rfl (And.intro rfl (And.intro rfl (And.intro rfl (And.intro rfl True.intro)))))))))) (kk h M w F H I hT C)
  | succ d ih =>
    intro c hc h M w F H I hT C
    have W2 := rW_sp W I.1
    obtain ⟨p1, p2, p3, p4, p5, p6, p7, p8⟩ := rW_p W2 O hp
    have i18 := I.2.1
    have ic := spI_c I
    obtain ⟨k1, k2, k3, k4, k5, k6, k7, k8, k9⟩ := rW_k W2 O hp hr hk
    have kb := ((p8.2 r (by omega)).2 k k2).2.2.1
    have ks := rk.2 k k2
    obtain ⟨u1, u2_⟩ := hup (by omega)
    refine x_iload rfl d_X8_spreads_146 ?_
    refine x_aload_n rfl d_X8_spreads_148 ?_
    refine x_getf co_all (v := .ref (b + 12)) d_X8_spreads_149 fk_8_48 (o8_o H) rfl ?_
    refine x_iload rfl d_X8_spreads_152 ?_
    refine x_iaload d_X8_spreads_154 (o8_13 H) (nIx_nI (j := 24 * (20 * p + r) + k) (by omega) (by decide)) ?_
    refine x_icmp_geN (tgt := 232) d_X8_spreads_155 (by decide) (by omega) (by omega) (fun c_1 => by exfalso; omega) (fun c_1 => ?_)
    refine x_bipush (v := nI 24) (by decide) d_X8_spreads_158 ?_
    refine x_iload rfl d_X8_spreads_160 ?_
    refine x_iconst (v := nI 1) (by decide) d_X8_spreads_162 ?_
    refine x_isubN d_X8_spreads_163 (by omega) ?_
    refine x_imulN d_X8_spreads_164 ?_
    refine x_aload_n rfl d_X8_spreads_165 ?_
    refine x_getf co_all (v := .ref (b + 11)) d_X8_spreads_166 fk_8_45 (o8_o H) rfl ?_
    refine x_iload rfl d_X8_spreads_169 ?_
    refine x_iaload d_X8_spreads_171 (o8_12 H) (nIx_nI (j := 24 * (20 * p + r) + k) (by omega) (by decide)) ?_
    rw [k8 (by omega), nV_s]
    refine x_iaddN d_X8_spreads_172 ?_
    refine x_iload rfl d_X8_spreads_173 ?_
    refine x_iaddN d_X8_spreads_175 ?_
    refine x_istore d_X8_spreads_176 (Nat.le_of_ble_eq_true rfl) ?_
    refine x_aload_n rfl d_X8_spreads_178 ?_
    refine x_getf co_all (v := .ref (b + 13)) d_X8_spreads_179 fk_8_51 (o8_o H) rfl ?_
    refine x_iload rfl d_X8_spreads_182 ?_
    refine x_iaload d_X8_spreads_184 (o8_14 H) (nIx_nI (j := 24 * (20 * p + r) + k) (by omega) (by decide)) ?_
    refine x_iload rfl d_X8_spreads_185 ?_
    refine x_ishr d_X8_spreads_187 ?_
    refine x_iconst (v := nI 1) (by decide) d_X8_spreads_188 ?_
    refine x_iand d_X8_spreads_189 ?_
    rw [nI_bit (by omega) (by omega)]
    refine x_if_eqN (tgt := 226) d_X8_spreads_190 (by decide) (by have := nB_le ((M 14 (24 * (20 * p + r) + k)).testBit c = true); omega) (fun c_bit => ?_) (fun c_bit => ?_)
    · refine x_iincN (m := 1) d_X8_spreads_226 rfl (by decide) (Nat.le_of_ble_eq_true rfl) ?_
      refine x_goto (tgt := 146) d_X8_spreads_229 (by decide) ?_
      refine nG.eq (ls2 := [some (.ref (b)), some (.int (nI (p))), some (.int (nI (a2))), some (.int (nI (a3))), some (.int (nI (w))), some (.int (nI (24 * r + k))), some (.int (nI (r))), some (.int (nI (k))), some (.int (nI (24 * (20 * p + r) + k))), some (.int (nI (c + 1))), some (.int (nI (((24 * (r - 1)) + (R p r 4 k)) + c)))]) rfl rfl rfl rfl rfl ?_
      exact nG.sub (by exact (And.intro rfl (And.intro rfl (And.intro rfl (And.intro rfl (And.intro rfl (And.intro rfl (And.intro rfl (And.intro rfl (And.intro rfl (And.intro rfl True.intro))))))))))) (ih (c + 1) (by omega) _ _ _ F H I hT (fun c2 hc2 g => by
        by_cases e : c2 = c
        · subst e
          first | (have := i18 (24 * (r - 1) + R p r 4 k + c2) (by omega); omega) | (rw [← k7, nB_T g] at c_bit; exact absurd c_bit (by decide))
        · exact C c2 (by omega) g))
    · refine x_aload_n rfl d_X8_spreads_193 ?_
      refine x_getf co_all (v := .ref (b + 16)) d_X8_spreads_194 fk_8_60 (o8_o H) rfl ?_
      refine x_iload rfl d_X8_spreads_197 ?_
      refine x_baload d_X8_spreads_199 (o8_18 H) (nIx_nI (j := ((24 * (r - 1)) + (R p r 4 k)) + c) (by omega) (by decide)) ?_
      refine x_if_eqN (tgt := 206) d_X8_spreads_200 (by decide) (by have := i18 (24 * (r - 1) + R p r 4 k + c) (by omega); omega) (fun c_in => ?_) (fun c_in => ?_)
      · have hb : (R p r 6 k).testBit c = true := by rw [k7]; exact nB_1.mp (by have := nB_le ((M 14 (24 * (20 * p + r) + k)).testBit c = true); omega)
        have hg : igo (R p r) k (R p r 4 k + c) = true := by unfold igo; rw [hgb_T.mpr (by omega), Nat.add_sub_cancel_left, hb]; rfl
        have Z := spI_push I (z := 24 * (r - 1) + R p r 4 k + c) (by omega) (by omega) (by rw [Nat.add_assoc]; exact gRe.st hx (gE_up hk24 (by omega) (by omega) hg))
        have Z1 := Z.1
        refine x_aload_n rfl d_X8_spreads_206 ?_
        refine x_getf co_all (v := .ref (b + 16)) d_X8_spreads_207 fk_8_60 (o8_o H) rfl ?_
        refine x_iload rfl d_X8_spreads_210 ?_
        refine x_iconst (v := nI 1) (by decide) d_X8_spreads_212 ?_
        refine x_bastore d_X8_spreads_213 (o8_18 H) (nIx_nI (j := ((24 * (r - 1)) + (R p r 4 k)) + c) (by omega) (by decide)) rfl (Nat.le_trans (o8_B H) (Nat.le_add_right _ _)) ?_
        have H4_8 := o8_ast18 (((24 * (r - 1)) + (R p r 4 k)) + c) (1) H
        have f_5 := o8_f18 (((24 * (r - 1)) + (R p r 4 k)) + c) (1) H (F) (by exact ⟨by omega, by omega⟩)
        refine x_aload_n rfl d_X8_spreads_214 ?_
        refine x_getf co_all (v := .ref (b + 17)) d_X8_spreads_215 fk_8_63 (o8_o H4_8) rfl ?_
        refine x_iload rfl d_X8_spreads_218 ?_
        refine x_iload rfl d_X8_spreads_220 ?_
        refine x_iastore d_X8_spreads_222 (o8_19 H4_8) (nIx_nI (j := w) (by omega) (by decide)) (Nat.le_trans (o8_B H4_8) (Nat.le_add_right _ _)) ?_
        have H6_8 := o8_ast19 (w) (((24 * (r - 1)) + (R p r 4 k)) + c) H4_8
        have f_7 := o8_f19 (w) (((24 * (r - 1)) + (R p r 4 k)) + c) H4_8 (f_5) (by exact ⟨by omega, by omega⟩)
        refine x_iincN (m := 1) d_X8_spreads_223 rfl (by decide) (Nat.le_of_ble_eq_true rfl) ?_
        refine x_iincN (m := 1) d_X8_spreads_226 rfl (by decide) (Nat.le_of_ble_eq_true rfl) ?_
        refine x_goto (tgt := 146) d_X8_spreads_229 (by decide) ?_
        refine nG.eq (ls2 := [some (.ref (b)), some (.int (nI (p))), some (.int (nI (a2))), some (.int (nI (a3))), some (.int (nI (w + 1))), some (.int (nI (24 * r + k))), some (.int (nI (r))), some (.int (nI (k))), some (.int (nI (24 * (20 * p + r) + k))), some (.int (nI (c + 1))), some (.int (nI (((24 * (r - 1)) + (R p r 4 k)) + c)))]) rfl rfl rfl rfl rfl ?_
        exact nG.sub (by exact (And.intro rfl (And.intro rfl (And.intro rfl (And.intro rfl (And.intro rfl (And.intro rfl (And.intro rfl (And.intro rfl (And.intro rfl (And.intro rfl True.intro))))))))))) (ih (c + 1) (by omega) _ _ _ f_7 H6_8 Z.2 (by rw [u2_ne (by omega), u2_ne (by omega)]; exact hT) (fun c2 hc2 g => by rw [u2_ne (by omega)]; by_cases e : c2 = c; { subst e; exact u2_eq _ _ _ _ }; { rw [u2_ne (by omega)]; exact C c2 (by omega) g }))
      · refine x_goto (tgt := 226) d_X8_spreads_203 (by decide) ?_
        refine x_iincN (m := 1) d_X8_spreads_226 rfl (by decide) (Nat.le_of_ble_eq_true rfl) ?_
        refine x_goto (tgt := 146) d_X8_spreads_229 (by decide) ?_
        refine nG.eq (ls2 := [some (.ref (b)), some (.int (nI (p))), some (.int (nI (a2))), some (.int (nI (a3))), some (.int (nI (w))), some (.int (nI (24 * r + k))), some (.int (nI (r))), some (.int (nI (k))), some (.int (nI (24 * (20 * p + r) + k))), some (.int (nI (c + 1))), some (.int (nI (((24 * (r - 1)) + (R p r 4 k)) + c)))]) rfl rfl rfl rfl rfl ?_
        exact nG.sub (by exact (And.intro rfl (And.intro rfl (And.intro rfl (And.intro rfl (And.intro rfl (And.intro rfl (And.intro rfl (And.intro rfl (And.intro rfl (And.intro rfl True.intro))))))))))) (ih (c + 1) (by omega) _ _ _ F H I hT (fun c2 hc2 g => by
          by_cases e : c2 = c
          · subst e
            first | (have := i18 (24 * (r - 1) + R p r 4 k + c2) (by omega); omega) | (rw [← k7, nB_T g] at c_bit; exact absurd c_bit (by decide))
          · exact C c2 (by omega) g))
theorem lp_sp0 {h0 : nPH} {Post : Option Value → nPH → Prop} {b : Nat} {M0 V : Nat → Nat → Nat} {P : Nat → Nat → Nat → Nat} {R : Nat → Nat → Nat → Nat → Nat} {E Y T S : Nat → Nat → Nat} (W : rW M0 V P R E Y T S) (O : kO V P R) {p s a2 a3 : Nat} (hp : p < V 1 0) (hs : gIn (P p 5 0) (R p) s) (hP : ∀ (h2 : nPH) (M2 : Nat → Nat → Nat), nFr (nIv b 24) h0 h2 → o8 h2 b M2 → spI M0 M2 (P p 5 0) (R p) s 0 (fun _ => False) → Post none h2) : ∀ d : Nat, ∀ (h : nPH) (M : Nat → Nat → Nat) (w : Nat), M 20 0 + d = 480 → nFr (nIv b 24) h0 h → o8 h b M → spI M0 M (P p 5 0) (R p) s w (fun _ => False) → nG YX8_spreads (nKy YX8_spreads h0.1 h0.2.1 Post) 0 0 73 [some (.ref (b)), some (.int (nI (p))), some (.int (nI (a2))), some (.int (nI (a3))), some (.int (nI (w))), none, none, none, none, none, none] [] h := by
  intro d
  have G := (O.2.2.2 p hp).2.2.2.1
  induction d with
  | zero =>
    intro h M w hd F H I
    have ic := spI_c I
    refine x_iload rfl d_X8_spreads_73 ?_
    refine x_if_leN (tgt := 344) d_X8_spreads_75 (by decide) (by omega) (fun c_1 => ?_) (fun c_1 => by exfalso; omega)
    exact x_return d_X8_spreads_344 rfl F.1 F.2.1 (Nat.zero_le _) (Nat.zero_le _) (hP _ M F H (spI_w0 I (by omega)))
  | succ d ih =>
    intro h M w hd F H I
    have ic := spI_c I
    rcases Nat.eq_zero_or_pos w with hw | hw
    · subst hw
      refine x_iload rfl d_X8_spreads_73 ?_
      refine x_if_leN (tgt := 344) d_X8_spreads_75 (by decide) (by omega) (fun c_1 => ?_) (fun c_1 => by exfalso; omega)
      exact x_return d_X8_spreads_344 rfl F.1 F.2.1 (Nat.zero_le _) (Nat.zero_le _) (hP _ M F H I)
    · obtain ⟨v, rfl⟩ : ∃ v, w = v + 1 := ⟨w - 1, by omega⟩
      obtain ⟨x1, x2⟩ := I.2.2.2.2.1 v (by omega)
      have hgx := I.2.2.1 _ x1 x2
      have hin := gRe_in G hs hgx
      obtain ⟨r, hr_⟩ : ∃ r, M 19 v / 24 = r := ⟨_, rfl⟩
      obtain ⟨k, hk_⟩ : ∃ k, M 19 v % 24 = k := ⟨_, rfl⟩
      have hx : M 19 v = 24 * r + k := by omega
      unfold gIn at hin
      rw [hr_, hk_] at hin
      rw [hx] at hgx
      obtain ⟨hr, hk⟩ := hin
      have W2 := rW_sp W I.1
      obtain ⟨p1, p2, p3, p4, p5, p6, p7, p8⟩ := rW_p W2 O hp
      have p4b := p4
      obtain ⟨k1, k2, k3, k4, k5, k6, k7, k8, k9⟩ := rW_k W2 O hp hr hk
      have kb := ((p8.2 r (by omega)).2 k k2).2.2.1
      have I2 := spI_pop I hx
      rw [show pcx (R p) (24 * r + k) = pcn (M 14 (24 * (20 * p + r) + k)) by unfold pcx; rw [show (24 * r + k) / 24 = r by omega, show (24 * r + k) % 24 = k by omega, k7]] at I2
      refine x_iload rfl d_X8_spreads_73 ?_
      refine x_if_leN (tgt := 344) d_X8_spreads_75 (by decide) (by omega) (fun c_1 => by exfalso; omega) (fun c_1 => ?_)
      refine x_iincD (m := 1) d_X8_spreads_78 rfl (by decide) (by omega) (Nat.le_of_ble_eq_true rfl) ?_
      rw [Nat.add_sub_cancel]
      refine x_aload_n rfl d_X8_spreads_81 ?_
      refine x_getf co_all (v := .ref (b + 17)) d_X8_spreads_82 fk_8_63 (o8_o H) rfl ?_
      refine x_iload rfl d_X8_spreads_85 ?_
      refine x_iaload d_X8_spreads_87 (o8_19 H) (nIx_nI (j := v) (by omega) (by decide)) ?_
      rw [hx]
      refine x_istore d_X8_spreads_88 (Nat.le_of_ble_eq_true rfl) ?_
      refine x_aload_n rfl d_X8_spreads_90 ?_
      refine x_dup rfl d_X8_spreads_91 ?_
      refine x_getf co_all (v := .int (nI (M 20 0))) d_X8_spreads_92 fk_8_152 (o8_o H) rfl ?_
      refine x_iconst (v := nI 1) (by decide) d_X8_spreads_95 ?_
      refine x_iaddN d_X8_spreads_96 ?_
      refine x_putf co_all d_X8_spreads_97 fk_8_152 ft_8_20 (o8_o H) (Nat.le_of_ble_eq_true rfl) rfl rfl (o8_B H) ?_
      have H2_8 := o8_put20 ((M 20 0) + 1) H
      have f_3 := o8_g20 ((M 20 0) + 1) H (F) (by exact ⟨by omega, by omega⟩)
      refine x_iload rfl d_X8_spreads_100 ?_
      refine x_bipush (v := nI 24) (by decide) d_X8_spreads_102 ?_
      refine x_idivN d_X8_spreads_104 (by omega) (by omega) (by omega) ?_
      rw [show (24 * r + k) / 24 = r by omega]
      refine x_istore d_X8_spreads_105 (Nat.le_of_ble_eq_true rfl) ?_
      refine x_iload rfl d_X8_spreads_107 ?_
      refine x_bipush (v := nI 24) (by decide) d_X8_spreads_109 ?_
      refine x_iremN d_X8_spreads_111 (by omega) (by omega) (by omega) ?_
      rw [show (24 * r + k) % 24 = k by omega]
      refine x_istore d_X8_spreads_112 (Nat.le_of_ble_eq_true rfl) ?_
      refine x_iload_n rfl d_X8_spreads_114 ?_
      refine x_iload rfl d_X8_spreads_115 ?_
      refine x_iload rfl d_X8_spreads_117 ?_
      refine x_rdS d_X8_spreads_119 lk_8_99 mo_X8_at sc_X8_at (sp_at) rfl ⟨Nat.le_of_ble_eq_true rfl, Nat.le_of_ble_eq_true rfl⟩ rfl rfl (Nat.zero_le _) (Nat.zero_le _) (Nat.le_of_ble_eq_true rfl) rfl ?_
      refine x_istore d_X8_spreads_122 (Nat.le_of_ble_eq_true rfl) ?_
      refine x_aload_n rfl d_X8_spreads_124 ?_
      refine x_dup rfl d_X8_spreads_125 ?_
      refine x_getf co_all (v := .int (nI (M 21 0))) d_X8_spreads_126 fk_8_155 (o8_o H2_8) rfl ?_
      refine x_aload_n rfl d_X8_spreads_129 ?_
      refine x_getf co_all (v := .ref (b + 13)) d_X8_spreads_130 fk_8_51 (o8_o H2_8) rfl ?_
      refine x_iload rfl d_X8_spreads_133 ?_
      refine x_iaload d_X8_spreads_135 (o8_14 H2_8) (nIx_nI (j := 24 * (20 * p + r) + k) (by omega) (by decide)) ?_
      show nG _ _ _ _ _ _ (.int (nI (M 14 (24 * (20 * p + r) + k))) :: _) _
      refine x_rdS d_X8_spreads_136 lk_8_142 mo_X8_bits sc_X8_bits (sp_mbits (g := M 14 (24 * (20 * p + r) + k)) (by omega)) rfl ⟨Nat.le_of_ble_eq_true rfl, Nat.le_of_ble_eq_true rfl⟩ rfl rfl (Nat.zero_le _) (Nat.zero_le _) (Nat.le_of_ble_eq_true rfl) rfl ?_
      refine x_iaddN d_X8_spreads_139 ?_
      refine x_putf co_all d_X8_spreads_140 fk_8_155 ft_8_21 (o8_o H2_8) (Nat.le_of_ble_eq_true rfl) rfl rfl (o8_B H2_8) ?_
      have H4_8 := o8_put21 ((M 21 0) + (pcn (M 14 (24 * (20 * p + r) + k)))) H2_8
      have f_5 := o8_g21 ((M 21 0) + (pcn (M 14 (24 * (20 * p + r) + k)))) H2_8 (f_3) (by exact ⟨by omega, by omega⟩)
      refine x_iconst (v := nI 0) (by decide) d_X8_spreads_143 ?_
      refine x_istore d_X8_spreads_144 (Nat.le_of_ble_eq_true rfl) ?_
      have cl : ∀ (M2 : Nat → Nat → Nat), (∀ c2, c2 < R p r 5 k → (R p r 6 k).testBit c2 = true → M2 18 (24 * (r - 1) + R p r 4 k + c2) = 1) → (r + 1 < P p 5 0 → (∀ j2, j2 < R p (r + 1) 0 0 → igo (R p (r + 1)) j2 k = true → M2 18 (24 * (r + 1) + j2) = 1)) → ∀ y, gE (P p 5 0) (R p) (24 * r + k) y → M2 18 y = 1 := fun M2 c1 c2 y hy => by
        unfold gE at hy
        rw [show (24 * r + k) / 24 = r by omega, show (24 * r + k) % 24 = k by omega] at hy
        rcases hy with ⟨g1, g2⟩ | ⟨g1, g2, g3, g4⟩
        · have h1 := igo_hg g2
          have := c1 (y % 24 - R p r 4 k) (by omega) (by unfold igo at g2; rw [Bool.and_eq_true] at g2; exact g2.2)
          rwa [show 24 * (r - 1) + R p r 4 k + (y % 24 - R p r 4 k) = y by omega] at this
        · rw [g1] at g2 g3 g4
          have := c2 g2 (y % 24) g3 g4
          rwa [show 24 * (r + 1) + y % 24 = y by omega] at this
      refine lp_sp1 W O hp hr hk hgx ?_ (R p r 5 k) 0 (Nat.zero_add _) _ _ _ f_5 H4_8 I2 (show _ = M 20 0 + 1 by rw [u2_ne (by omega), u2_eq]) (fun c2 hc2 => absurd hc2 (by omega))
      clear I I2 W2 H H2_8 H4_8 f_3 f_5 F p1 p2 p4 p4b p5 p6 p7 p8 k1 k3 k4 k5 k6 k7 k8 k9 kb
      intro h M3 w F H I hT C
      have W2 := rW_sp W I.1
      obtain ⟨p1, p2, p3, p4, p5, p6, p7, p8⟩ := rW_p W2 O hp
      refine x_iload rfl d_X8_spreads_232 ?_
      refine x_iconst (v := nI 1) (by decide) d_X8_spreads_234 ?_
      refine x_iaddN d_X8_spreads_235 ?_
      refine x_aload_n rfl d_X8_spreads_236 ?_
      refine x_getf co_all (v := .ref (b + 1)) d_X8_spreads_237 fk_8_13 (o8_o H) rfl ?_
      refine x_iload_n rfl d_X8_spreads_240 ?_
      refine x_iaload d_X8_spreads_241 (o8_2 H) (nIx_nI (j := p) (by omega) (by decide)) ?_
      refine x_icmp_ltN (tgt := 248) d_X8_spreads_242 (by decide) (by omega) (by omega) (fun c_1 => ?_) (fun c_1 => ?_)
      · refine x_iconst (v := nI 0) (by decide) d_X8_spreads_248 ?_
        refine x_istore d_X8_spreads_249 (Nat.le_of_ble_eq_true rfl) ?_
        have hr1 : r + 1 < P p 5 0 := by omega
        refine nG.sub (by exact (And.intro rfl (And.intro rfl (And.intro rfl (And.intro rfl (And.intro rfl (And.intro rfl (And.intro rfl (And.intro rfl (And.intro rfl (And.intro rfl True.intro))))))))))) (lp_sp2 W O hp hr hk hgx hr1 (K := fun y => ∃ c2, c2 < R p r 5 k ∧ (R p r 6 k).testBit c2 = true ∧ y = 24 * (r - 1) + R p r 4 k + c2) ?_ (R p (r + 1) 0 0) 0 (Nat.zero_add _) h M3 w F H I hT (fun y ⟨c2, y1, y2, y3⟩ => by rw [y3]; exact C c2 y1 y2) (fun j2 hj2 => absurd hj2 (by omega)))
        intro h4 M4 w4 F4 H4 I4 hT4 K4 C4
        exact ih h4 M4 w4 (by omega) F4 H4 (spI_done I4 (cl M4 (fun c2 y1 y2 => K4 _ ⟨c2, y1, y2, rfl⟩) (fun _ => C4)))
      · refine x_goto (tgt := 73) d_X8_spreads_245 (by decide) ?_
        exact nG.sub (by exact (And.intro rfl (And.intro rfl (And.intro rfl (And.intro rfl (And.intro rfl True.intro)))))) (ih h M3 w (by omega) F H (spI_done I (cl M3 C (fun z => absurd z (by omega)))))
def mCl (M : Nat → Nat → Nat) (i : Nat) : Nat → Nat → Nat := fun f x => if f = 18 ∧ x < i then 0 else M f x
theorem mCl_0 (M : Nat → Nat → Nat) (f x : Nat) : mCl M 0 f x = M f x := if_neg (by omega)
theorem mCl_s (M : Nat → Nat → Nat) (i f x : Nat) : mCl M (i + 1) f x = u2 (mCl M i) 18 i 0 f x := by
  by_cases e : f = 18 ∧ x = i
  · obtain ⟨rfl, rfl⟩ := e
    rw [u2_eq]
    exact if_pos (by omega)
  · rw [u2_ne e]
    unfold mCl
    by_cases e2 : f = 18 ∧ x < i
    · rw [if_pos e2, if_pos (by omega)]
    · rw [if_neg e2, if_neg (by omega)]
def mC0 (M : Nat → Nat → Nat) : Nat → Nat → Nat := u2 (u2 (mCl M 480) 20 0 0) 21 0 0
theorem mC0_o {M : Nat → Nat → Nat} {f i : Nat} (h : f < 18 ∨ 21 < f) : mC0 M f i = M f i := by
  unfold mC0 mCl
  rw [u2_ne (by omega), u2_ne (by omega), if_neg (by omega)]
theorem mC0_18 {M : Nat → Nat → Nat} {x : Nat} (h : x < 480) : mC0 M 18 x = 0 := by
  unfold mC0 mCl
  rw [u2_ne (by omega), u2_ne (by omega), if_pos ⟨rfl, h⟩]
theorem spT_0 (M : Nat → Nat → Nat) (R : Nat → Nat → Nat → Nat) {T : Nat → Bool} (h : ∀ x, T x = false) : spT M (mC0 M) R T := by
  refine ⟨fun f i hf => mC0_o hf, fun x hx => by rw [mC0_18 hx, h]; rfl, ?_, ?_⟩
  · rw [← ct_sm, show fb_sm (fun x => nb (T x)) 480 = fb_sm (fun _ => 0) 480 from fb_sm_cong (fun k _ => by rw [h]; rfl), fb_sm_const]
    rfl
  · unfold lsT
    rw [show fb_sm (fun i => nb (T i) * pcx R i) 480 = fb_sm (fun _ => 0) 480 from fb_sm_cong (fun k _ => by rw [h]; exact Nat.zero_mul _), fb_sm_const]
    rfl
theorem spI_0 (M : Nat → Nat → Nat) (n : Nat) (R : Nat → Nat → Nat → Nat) {s : Nat} (hs : s < 480) : spI M (u2 (u2 (mC0 M) 19 0 s) 18 s 1) n R s 1 (fun _ => False) := by
  have e18 : ∀ x, x < 480 → u2 (u2 (mC0 M) 19 0 s) 18 s 1 18 x = if x = s then 1 else 0 := fun x hx => by
    by_cases e : x = s
    · subst e; rw [u2_eq, if_pos rfl]
    · rw [u2_ne (by omega), u2_ne (by omega), mC0_18 hx, if_neg e]
  have e19 : u2 (u2 (mC0 M) 19 0 s) 18 s 1 19 0 = s := by rw [u2_ne (by omega), u2_eq]
  have c1 : fb_sm (u2 (u2 (mC0 M) 19 0 s) 18 s 1 18) 480 = 1 := by
    rw [show fb_sm (u2 (u2 (mC0 M) 19 0 s) 18 s 1 18) 480 = fb_sm (fun x => if x = s then 1 else 0) 480 from fb_sm_cong e18]
    have := fb_sm_upd (fun _ => 0) 1 hs
    rw [fb_sm_const] at this
    omega
  have c2 : fb_sm (fun i => u2 (u2 (mC0 M) 19 0 s) 18 s 1 18 i * pcx R i) 480 = pcx R s := by
    rw [show fb_sm (fun i => u2 (u2 (mC0 M) 19 0 s) 18 s 1 18 i * pcx R i) 480 = fb_sm (fun x => if x = s then pcx R s else 0) 480 from fb_sm_cong (fun k hk => by
      rw [e18 k hk]
      by_cases e : k = s
      · subst e; rw [if_pos rfl, if_pos rfl, Nat.one_mul]
      · rw [if_neg e, if_neg e, Nat.zero_mul])]
    have := fb_sm_upd (fun _ => 0) (pcx R s) hs
    rw [fb_sm_const] at this
    omega
  refine ⟨fun f i hf => by rw [u2_ne (by omega), u2_ne (by omega)]; exact mC0_o hf, fun x hx => by rw [e18 x hx]; split <;> omega, fun x hx h => ?_, u2_eq _ _ _ _, fun j hj => ?_, ?_, ?_, fun x hx h => ?_⟩
  · rw [e18 x hx] at h
    by_cases e : x = s
    · subst e; exact gRe.z _ _ _
    · rw [if_neg e] at h; omega
  · rw [show j = 0 by omega, e19]
    exact ⟨hs, u2_eq _ _ _ _⟩
  · rw [c1, u2_ne (by omega), u2_ne (by omega)]
    rfl
  · rw [c2, u2_ne (by omega), u2_ne (by omega)]
    show (0 : Nat) + (0 + pcx R (u2 (u2 (mC0 M) 19 0 s) 18 s 1 19 0)) = _
    rw [e19]
    omega
  · rw [e18 x hx] at h
    by_cases e : x = s
    · exact Or.inl ⟨0, by omega, by rw [e19]; exact e.symm⟩
    · rw [if_neg e] at h; omega
theorem lp_spc {h0 : nPH} {Post : Option Value → nPH → Prop} {b p a2 a3 : Nat} {M : Nat → Nat → Nat} (kk : ∀ h : nPH, nFr (nIv b 24) h0 h → o8 h b (mCl M 480) → nG YX8_spreads (nKy YX8_spreads h0.1 h0.2.1 Post) 0 0 25 [some (.ref (b)), some (.int (nI (p))), some (.int (nI (a2))), some (.int (nI (a3))), none, none, none, none, none, none, none] [] h) : ∀ d i : Nat, i + d = 480 → ∀ h : nPH, nFr (nIv b 24) h0 h → o8 h b (mCl M i) → nG YX8_spreads (nKy YX8_spreads h0.1 h0.2.1 Post) 0 0 3 [some (.ref (b)), some (.int (nI (p))), some (.int (nI (a2))), some (.int (nI (a3))), some (.int (nI (i))), none, none, none, none, none, none] [] h := by
  intro d
  induction d with
  | zero =>
    intro i hi h F H
    refine x_iload rfl d_X8_spreads_3 ?_
    refine x_sipush (v := nI 480) (by decide) d_X8_spreads_5 ?_
    refine x_icmp_geN (tgt := 25) d_X8_spreads_8 (by decide) (by omega) (by omega) (fun c_1 => ?_) (fun c_1 => by exfalso; omega)
    have e : i = 480 := by omega
    rw [e] at H
    exact nG.sub (by exact (And.intro rfl (And.intro rfl (And.intro rfl (And.intro rfl True.intro))))) (kk h F H)
  | succ d ih =>
    intro i hi h F H
    refine x_iload rfl d_X8_spreads_3 ?_
    refine x_sipush (v := nI 480) (by decide) d_X8_spreads_5 ?_
    refine x_icmp_geN (tgt := 25) d_X8_spreads_8 (by decide) (by omega) (by omega) (fun c_1 => by exfalso; omega) (fun c_1 => ?_)
    refine x_aload_n rfl d_X8_spreads_11 ?_
    refine x_getf co_all (v := .ref (b + 16)) d_X8_spreads_12 fk_8_60 (o8_o H) rfl ?_
    refine x_iload rfl d_X8_spreads_15 ?_
    refine x_iconst (v := nI 0) (by decide) d_X8_spreads_17 ?_
    refine x_bastore d_X8_spreads_18 (o8_18 H) (nIx_nI (j := i) (by omega) (by decide)) rfl (Nat.le_trans (o8_B H) (Nat.le_add_right _ _)) ?_
    have H2_8 := o8_ast18 (i) (0) H
    have f_3 := o8_f18 (i) (0) H (F) (by exact ⟨by omega, by omega⟩)
    refine x_iincN (m := 1) d_X8_spreads_19 rfl (by decide) (Nat.le_of_ble_eq_true rfl) ?_
    refine x_goto (tgt := 3) d_X8_spreads_22 (by decide) ?_
    exact nG.sub (by exact (And.intro rfl (And.intro rfl (And.intro rfl (And.intro rfl (And.intro rfl True.intro)))))) (ih (i + 1) (by omega) _ f_3 (o8_cg H2_8 (mCl_s M i)))
theorem sp_mspr {h : nPH} {b : Nat} {M V : Nat → Nat → Nat} {P : Nat → Nat → Nat → Nat} {R : Nat → Nat → Nat → Nat → Nat} {E Y T S : Nat → Nat → Nat} (H : o8 h b M) (W : rW M V P R E Y T S) (O : kO V P R) {p : Nat} (hp : p < V 1 0) {r : Nat} (hr : r < P p 5 0) {k : Nat} (hk : k < R p r 0 0) {T0 : Nat → Bool} (hT : hTr (P p) (R p) (24 * r + k) T0) : nWv YX8_spreads [.ref b, .int (nI p), .int (nI r), .int (nI k)] h none (fun h2 => nFr (nIv b 24) h h2 ∧ ∃ M2, o8 h2 b M2 ∧ spT M M2 (R p) T0) := by
  obtain ⟨p1, p2, p3, p4, p5, p6, p7, p8⟩ := rW_p W O hp
  obtain ⟨r1, r2, r3, r4, r5, r6⟩ := rW_r W O hp hr
  obtain ⟨k1, k2, k3, k4, k5, k6, k7, k8, k9⟩ := rW_k W O hp hr hk
  refine nSp_of (by decide +kernel) rfl (Nat.le_of_ble_eq_true rfl) (ls := [some (.ref (b)), some (.int (nI (p))), some (.int (nI (r))), some (.int (nI (k))), none, none, none, none, none, none, none]) (by exact (And.intro rfl (And.intro rfl (And.intro rfl (And.intro rfl True.intro))))) ?_
  refine x_iconst (v := nI 0) (by decide) d_X8_spreads_0 ?_
  refine x_istore d_X8_spreads_1 (Nat.le_of_ble_eq_true rfl) ?_
  refine nG.sub (by exact (And.intro rfl (And.intro rfl (And.intro rfl (And.intro rfl (And.intro rfl True.intro)))))) (lp_spc (M := M) ?_ 480 0 (Nat.zero_add _) h nFr.rf (o8_cg H (mCl_0 M)))
  clear H
  intro h3 F H
  have hMs : ∀ f i, f < 18 ∨ 21 < f → mC0 M f i = M f i := fun f i hf => mC0_o hf
  have W2 := rW_sp W hMs
  obtain ⟨g1, g2, g3, g4, g5, g6, g7, g8⟩ := rW_p W2 O hp
  have egs := rW_gs W2 O hp hr hk
  have hin : gIn (P p 5 0) (R p) (24 * r + k) := by unfold gIn; rw [show (24 * r + k) / 24 = r by omega, show (24 * r + k) % 24 = k by omega]; exact ⟨hr, hk⟩
  have egx : gsx (P p) (R p) (24 * r + k) = gsd (P p) (R p) r k := by unfold gsx; rw [show (24 * r + k) / 24 = r by omega, show (24 * r + k) % 24 = k by omega]
  refine x_aload_n rfl d_X8_spreads_25 ?_
  refine x_iconst (v := nI 0) (by decide) d_X8_spreads_26 ?_
  refine x_putf co_all d_X8_spreads_27 fk_8_152 ft_8_20 (o8_o H) (Nat.le_of_ble_eq_true rfl) rfl rfl (o8_B H) ?_
  have H41_8 := o8_put20 (0) H
  have f_42 := o8_g20 (0) H (F) (by exact ⟨by omega, by omega⟩)
  refine x_aload_n rfl d_X8_spreads_30 ?_
  refine x_iconst (v := nI 0) (by decide) d_X8_spreads_31 ?_
  refine x_putf co_all d_X8_spreads_32 fk_8_155 ft_8_21 (o8_o H41_8) (Nat.le_of_ble_eq_true rfl) rfl rfl (o8_B H41_8) ?_
  have H43_8 := o8_put21 (0) H41_8
  have f_44 := o8_g21 (0) H41_8 (f_42) (by exact ⟨by omega, by omega⟩)
  refine x_aload_n rfl d_X8_spreads_35 ?_
  refine x_iload_n rfl d_X8_spreads_36 ?_
  refine x_iload_n rfl d_X8_spreads_37 ?_
  refine x_iload_n rfl d_X8_spreads_38 ?_
  have H9 : o8 _ b (mC0 M) := H43_8
  refine x_rdV d_X8_spreads_39 lk_8_149 mo_X8_goneAt vi_X8_goneAt (sp_mgs H9 g3 (r := r) (by omega) (k := k) (by omega) g8) (o8_o H9) ⟨_, rfl, rfl⟩ rfl ⟨Nat.le_of_ble_eq_true rfl, Nat.le_of_ble_eq_true rfl⟩ rfl rfl (Nat.zero_le _) (Nat.zero_le _) (Nat.le_of_ble_eq_true rfl) rfl ?_
  rw [egs]
  refine x_if_neN (tgt := 46) d_X8_spreads_42 (by decide) (by have := gsd_le (P := P p) (R := R p) (j := r) (i := k) (fun h => ((p7.2.2.1 (r + 1) h)).1); omega) (fun c_0 => ?_) (fun c_0 => ?_)
  · refine x_iconst (v := nI 1) (by decide) d_X8_spreads_46 ?_
    refine x_istore d_X8_spreads_47 (Nat.le_of_ble_eq_true rfl) ?_
    refine x_aload_n rfl d_X8_spreads_49 ?_
    refine x_getf co_all (v := .ref (b + 17)) d_X8_spreads_50 fk_8_63 (o8_o H43_8) rfl ?_
    refine x_iconst (v := nI 0) (by decide) d_X8_spreads_53 ?_
    refine x_bipush (v := nI 24) (by decide) d_X8_spreads_54 ?_
    refine x_iload_n rfl d_X8_spreads_56 ?_
    refine x_imulN d_X8_spreads_57 ?_
    refine x_iload_n rfl d_X8_spreads_58 ?_
    refine x_iaddN d_X8_spreads_59 ?_
    refine x_iastore d_X8_spreads_60 (o8_19 H43_8) (nIx_nI (j := 0) (by omega) (by decide)) (Nat.le_trans (o8_B H43_8) (Nat.le_add_right _ _)) ?_
    have H46_8 := o8_ast19 (0) ((24 * r) + k) H43_8
    have f_47 := o8_f19 (0) ((24 * r) + k) H43_8 (f_44) (by exact ⟨by omega, by omega⟩)
    refine x_aload_n rfl d_X8_spreads_61 ?_
    refine x_getf co_all (v := .ref (b + 16)) d_X8_spreads_62 fk_8_60 (o8_o H46_8) rfl ?_
    refine x_bipush (v := nI 24) (by decide) d_X8_spreads_65 ?_
    refine x_iload_n rfl d_X8_spreads_67 ?_
    refine x_imulN d_X8_spreads_68 ?_
    refine x_iload_n rfl d_X8_spreads_69 ?_
    refine x_iaddN d_X8_spreads_70 ?_
    refine x_iconst (v := nI 1) (by decide) d_X8_spreads_71 ?_
    refine x_bastore d_X8_spreads_72 (o8_18 H46_8) (nIx_nI (j := (24 * r) + k) (by omega) (by decide)) rfl (Nat.le_trans (o8_B H46_8) (Nat.le_add_right _ _)) ?_
    have H48_8 := o8_ast18 ((24 * r) + k) (1) H46_8
    have f_49 := o8_f18 ((24 * r) + k) (1) H46_8 (f_47) (by exact ⟨by omega, by omega⟩)
    have HI : o8 _ b (u2 (u2 (mC0 M) 19 0 (24 * r + k)) 18 (24 * r + k) 1) := H48_8
    exact nG.sub (by exact (And.intro rfl (And.intro rfl (And.intro rfl (And.intro rfl (And.intro rfl True.intro)))))) (lp_sp0 W O hp hin (fun h2 M2 F2 H2 I2 => ⟨rfl, F2, M2, H2, spI_end I2 p7.2.2.2.1 (by omega) (fun r hr => (p7.2.2.1 r hr).1) hin (hT.2 (by rw [egx]; exact c_0))⟩) 480 _ _ 1 (show _ + 480 = 480 by rw [u2_ne (by omega), u2_ne (by omega)]; rfl) f_49 HI (spI_0 M _ _ (by omega)))
  · exact x_return d_X8_spreads_45 rfl (f_44).1 (f_44).2.1 (Nat.zero_le _) (Nat.zero_le _) (⟨rfl, f_44, mC0 M, H43_8, spT_0 M (R p) (hT.1 (by rw [egx]; exact c_0))⟩)
