/-! the model: leads -/
theorem rW_ld {M N V : Nat → Nat → Nat} {P : Nat → Nat → Nat → Nat} {R : Nat → Nat → Nat → Nat → Nat} {E Y T S : Nat → Nat → Nat} (W : rW M V P R E Y T S) (h : ∀ f i, f < 36 → N f i = M f i) : rW N V P R E Y T S := by
  refine rW_out W (fun f i h1 h2 => h f i (by omega)) (h 1 0 (by decide)) rfl ⟨(h 16 0 (by decide)).trans W.1.2.1, fun i hi => (h 17 i (by decide)).trans (W.1.2.2 i hi)⟩ ?_ ?_ ?_ ?_
  · rw [h 22 0 (by decide), h 23 0 (by decide), h 24 0 (by decide), h 25 0 (by decide)]
    exact ⟨W.2.2.1.1, fun z => ⟨(W.2.2.1.2 z).1, (W.2.2.1.2 z).2.1, (W.2.2.1.2 z).2.2.1, fun i hi => by rw [h 26 i (by decide), h 27 i (by decide)]; exact (W.2.2.1.2 z).2.2.2 i hi⟩⟩
  · exact ⟨(h 28 0 (by decide)).trans W.2.2.2.1.1, fun i hi => (h 29 i (by decide)).trans (W.2.2.2.1.2 i hi)⟩
  · rw [h 31 0 (by decide), h 32 0 (by decide), h 33 0 (by decide)]
    exact W.2.2.2.2.1
  · exact ⟨(h 34 0 (by decide)).trans W.2.2.2.2.2.1, fun i hi => (h 35 i (by decide)).trans (W.2.2.2.2.2.2 i hi)⟩
def ldI (M N : Nat → Nat → Nat) (p : Nat → Nat) (R : Nat → Nat → Nat → Nat) (r : Nat) : Prop := (∀ f i, f < 36 → N f i = M f i) ∧ ∀ r2 k, r2 ≤ r → k < R r2 0 0 → N 36 (24 * r2 + k) = mLd p R r2 k
def mpS (p : Nat → Nat) (R : Nat → Nat → Nat → Nat) (r k j : Nat) : Nat := if j < R (r + 1) 0 0 then fb_sm (fun q => nb (iwh (R (r + 1)) j q) * (mLd p R r q * (6 / wsd R r q))) k else 0
def uLq (p : Nat → Nat) (R : Nat → Nat → Nat → Nat) (r k : Nat) : Nat := fb_sm (fun q => if wsd R r q = 0 then uLd p R r q else 0) k
def ldF (M N : Nat → Nat → Nat) (p : Nat → Nat) (R : Nat → Nat → Nat → Nat) (r : Nat) : Prop := ldI M N p R r ∧ N 37 0 = uLs p R r ∧ N 38 0 = uLo p R r
theorem lp_ldlast {h0 : nPH} {Post : Option Value → nPH → Prop} {b : Nat} {M V : Nat → Nat → Nat} {P : Nat → Nat → Nat → Nat} {R : Nat → Nat → Nat → Nat → Nat} {E Y T S : Nat → Nat → Nat} (W : rW M V P R E Y T S) (O : kO V P R) {p : Nat} (hp : p < V 1 0) {r : Nat} (hr : r < P p 5 0) (hl : r + 1 = P p 5 0) (kk : ∀ (h : nPH) (N : Nat → Nat → Nat), nFr (nIv b 24) h0 h → o8 h b N → ldF M N (P p 6) (R p) r → nG YX8_leads (nKy YX8_leads h0.1 h0.2.1 Post) 0 0 262 [some (.ref (b)), some (.int (nI (p))), some (.int (nI (r))), none, none, none, none, none, none, none] [] h) : ∀ d k : Nat, k + d = R p r 0 0 → ∀ (h : nPH) (N : Nat → Nat → Nat), nFr (nIv b 24) h0 h → o8 h b N → ldI M N (P p 6) (R p) r → N 37 0 = fb_sm (uLd (P p 6) (R p) r) k → N 38 0 = uLo (P p 6) (R p) r → nG YX8_leads (nKy YX8_leads h0.1 h0.2.1 Post) 0 0 94 [some (.ref (b)), some (.int (nI (p))), some (.int (nI (r))), some (.long (lN (6 ^ (19 - r)))), none, some (.int (nI (k))), none, none, none, none] [] h := by
  intro d
  have O1 := O.2.2.2 p hp
  have ul := uLd_mm (p := P p 6) O1.2.1 O1.2.2.2.1 (fun r hr => (O1.2.2.2.2.2.2 r hr).1)
  induction d with
  | zero =>
    intro k hk h N F H I a1 a2
    have W2 := rW_ld W I.1
    obtain ⟨p1, p2, p3, p4, p5, p6, p7, p8⟩ := rW_p W2 O hp
    obtain ⟨r1, r2, r3, r4, r5, r6⟩ := rW_r W2 O hp hr
    refine x_iload rfl d_X8_leads_94 ?_
    refine x_aload_n rfl d_X8_leads_96 ?_
    refine x_getf co_all (v := .ref (b + 7)) d_X8_leads_97 fk_8_32 (o8_o H) rfl ?_
    refine x_bipush (v := nI 20) (by decide) d_X8_leads_100 ?_
    refine x_iload_n rfl d_X8_leads_102 ?_
    refine x_imulN d_X8_leads_103 ?_
    refine x_iload_n rfl d_X8_leads_104 ?_
    refine x_iaddN d_X8_leads_105 ?_
    refine x_iaload d_X8_leads_106 (o8_8 H) (nIx_nI (j := (20 * p) + r) (by omega) (by decide)) ?_
    refine x_icmp_geN (tgt := 262) d_X8_leads_107 (by decide) (by omega) (by omega) (fun c_1 => ?_) (fun c_1 => by exfalso; omega)
    have e : k = R p r 0 0 := by omega
    rw [e] at a1
    exact nG.sub (by exact (And.intro rfl (And.intro rfl (And.intro rfl True.intro)))) (kk h N F H ⟨I, a1, a2⟩)
  | succ d ih =>
    intro k hk h N F H I a1 a2
    have W2 := rW_ld W I.1
    obtain ⟨p1, p2, p3, p4, p5, p6, p7, p8⟩ := rW_p W2 O hp
    obtain ⟨r1, r2, r3, r4, r5, r6⟩ := rW_r W2 O hp hr
    refine x_iload rfl d_X8_leads_94 ?_
    refine x_aload_n rfl d_X8_leads_96 ?_
    refine x_getf co_all (v := .ref (b + 7)) d_X8_leads_97 fk_8_32 (o8_o H) rfl ?_
    refine x_bipush (v := nI 20) (by decide) d_X8_leads_100 ?_
    refine x_iload_n rfl d_X8_leads_102 ?_
    refine x_imulN d_X8_leads_103 ?_
    refine x_iload_n rfl d_X8_leads_104 ?_
    refine x_iaddN d_X8_leads_105 ?_
    refine x_iaload d_X8_leads_106 (o8_8 H) (nIx_nI (j := (20 * p) + r) (by omega) (by decide)) ?_
    refine x_icmp_geN (tgt := 262) d_X8_leads_107 (by decide) (by omega) (by omega) (fun c_1 => by exfalso; omega) (fun c_1 => ?_)
    refine x_aload_n rfl d_X8_leads_110 ?_
    refine x_getf co_all (v := .ref (b + 23)) d_X8_leads_111 fk_8_81 (o8_o H) rfl ?_
    refine x_bipush (v := nI 24) (by decide) d_X8_leads_114 ?_
    refine x_iload_n rfl d_X8_leads_116 ?_
    refine x_imulN d_X8_leads_117 ?_
    refine x_iload rfl d_X8_leads_118 ?_
    refine x_iaddN d_X8_leads_120 ?_
    refine x_laload d_X8_leads_121 (o8_36 H) (nIx_nI (j := (24 * r) + k) (by omega) (by decide)) ?_
    rw [I.2 r k (Nat.le_refl _) (by omega)]
    refine x_lstore d_X8_leads_122 (Nat.le_of_ble_eq_true rfl) ?_
    refine x_iload_n rfl d_X8_leads_124 ?_
    refine x_iconst (v := nI 1) (by decide) d_X8_leads_125 ?_
    refine x_iaddN d_X8_leads_126 ?_
    refine x_aload_n rfl d_X8_leads_127 ?_
    refine x_getf co_all (v := .ref (b + 1)) d_X8_leads_128 fk_8_13 (o8_o H) rfl ?_
    refine x_iload_n rfl d_X8_leads_131 ?_
    refine x_iaload d_X8_leads_132 (o8_2 H) (nIx_nI (j := p) (by omega) (by decide)) ?_
    refine x_icmp_neN (tgt := 152) d_X8_leads_133 (by decide) (by omega) (by omega) (fun c_2 => by exfalso; omega) (fun c_2 => ?_)
    refine x_aload_n rfl d_X8_leads_136 ?_
    refine x_dup rfl d_X8_leads_137 ?_
    refine x_getf co_all (v := .long (lN (N 37 0))) d_X8_leads_138 fk_8_218 (o8_o H) rfl ?_
    refine x_lload rfl d_X8_leads_141 ?_
    refine x_lload_n rfl d_X8_leads_143 ?_
    refine x_lmulN d_X8_leads_144 ?_
    refine x_laddN d_X8_leads_145 ?_
    refine x_putf co_all d_X8_leads_146 fk_8_218 ft_8_37 (o8_o H) (Nat.le_of_ble_eq_true rfl) rfl rfl (o8_B H) ?_
    have H3_8 := o8_put37 ((N 37 0) + ((mLd (P p 6) (R p) r k) * (6 ^ (19 - r)))) H
    have f_4 := o8_g37 ((N 37 0) + ((mLd (P p 6) (R p) r k) * (6 ^ (19 - r)))) H (F) (by exact ⟨by omega, by omega⟩)
    refine x_goto (tgt := 256) d_X8_leads_149 (by decide) ?_
    refine x_iincN (m := 1) d_X8_leads_256 rfl (by decide) (Nat.le_of_ble_eq_true rfl) ?_
    refine x_goto (tgt := 94) d_X8_leads_259 (by decide) ?_
    refine nG.eq (ls2 := [some (.ref (b)), some (.int (nI (p))), some (.int (nI (r))), some (.long (lN (6 ^ (19 - r)))), none, some (.int (nI (k + 1))), some (.long (lN (mLd (P p 6) (R p) r k))), none, none, none]) rfl rfl rfl rfl rfl ?_
    exact nG.sub (by exact (And.intro rfl (And.intro rfl (And.intro rfl (And.intro rfl (And.intro rfl True.intro)))))) (ih (k + 1) (by omega) _ _ f_4 H3_8 ⟨fun f i hf => by rw [u2_ne (by omega)]; exact I.1 f i hf, fun r2 k2 g1 g2 => by rw [u2_ne (by omega)]; exact I.2 r2 k2 g1 g2⟩ (by rw [u2_eq, a1, fb_sm_succ, ul r hr k (by omega)]) (by rw [u2_ne (by omega)]; exact a2))
theorem lp_ldj {h0 : nPH} {Post : Option Value → nPH → Prop} {b : Nat} {M V : Nat → Nat → Nat} {P : Nat → Nat → Nat → Nat} {R : Nat → Nat → Nat → Nat → Nat} {E Y T S : Nat → Nat → Nat} (W : rW M V P R E Y T S) (O : kO V P R) {p : Nat} (hp : p < V 1 0) {r k a38 : Nat} (hr1 : r + 1 < P p 5 0) (hk : k < R p r 0 0) (hc : 1 ≤ wsd (R p) r k) (hc24 : wsd (R p) r k ≤ 24) (kk : ∀ (h : nPH) (N : Nat → Nat → Nat), nFr (nIv b 24) h0 h → o8 h b N → ldI M N (P p 6) (R p) r → (∀ j2, j2 < 24 → N 36 (24 * (r + 1) + j2) = mpS (P p 6) (R p) r (k + 1) j2) → (∀ x, 24 * (r + 2) ≤ x → x < 480 → N 36 x = 0) → N 37 0 = 0 → N 38 0 = a38 → nG YX8_leads (nKy YX8_leads h0.1 h0.2.1 Post) 0 0 256 [some (.ref (b)), some (.int (nI (p))), some (.int (nI (r))), some (.long (lN (6 ^ (19 - r)))), none, some (.int (nI (k))), none, none, none, none] [] h) : ∀ d j : Nat, j + d = R p (r + 1) 0 0 → ∀ (h : nPH) (N : Nat → Nat → Nat), nFr (nIv b 24) h0 h → o8 h b N → ldI M N (P p 6) (R p) r → (∀ j2, j2 < 24 → N 36 (24 * (r + 1) + j2) = if j2 < j then mpS (P p 6) (R p) r (k + 1) j2 else mpS (P p 6) (R p) r k j2) → (∀ x, 24 * (r + 2) ≤ x → x < 480 → N 36 x = 0) → N 37 0 = 0 → N 38 0 = a38 → nG YX8_leads (nKy YX8_leads h0.1 h0.2.1 Post) 0 0 187 [some (.ref (b)), some (.int (nI (p))), some (.int (nI (r))), some (.long (lN (6 ^ (19 - r)))), none, some (.int (nI (k))), some (.long (lN (mLd (P p 6) (R p) r k))), none, some (.int (nI (wsd (R p) r k))), some (.int (nI (j)))] [] h := by
  intro d
  induction d with
  | zero =>
    intro j hj h N F H I row z1 a1 a2
    have W2 := rW_ld W I.1
    obtain ⟨p1, p2, p3, p4, p5, p6, p7, p8⟩ := rW_p W2 O hp
    obtain ⟨r1, r2, r3, r4, r5, r6⟩ := rW_r W2 O hp hr1
    have r9 : N 8 (20 * p + r + 1) = N 8 (20 * p + (r + 1)) := rfl
    refine x_iload rfl d_X8_leads_187 ?_
    refine x_aload_n rfl d_X8_leads_189 ?_
    refine x_getf co_all (v := .ref (b + 7)) d_X8_leads_190 fk_8_32 (o8_o H) rfl ?_
    refine x_bipush (v := nI 20) (by decide) d_X8_leads_193 ?_
    refine x_iload_n rfl d_X8_leads_195 ?_
    refine x_imulN d_X8_leads_196 ?_
    refine x_iload_n rfl d_X8_leads_197 ?_
    refine x_iaddN d_X8_leads_198 ?_
    refine x_iconst (v := nI 1) (by decide) d_X8_leads_199 ?_
    refine x_iaddN d_X8_leads_200 ?_
    refine x_iaload d_X8_leads_201 (o8_8 H) (nIx_nI (j := ((20 * p) + r) + 1) (by omega) (by decide)) ?_
    refine x_icmp_geN (tgt := 256) d_X8_leads_202 (by decide) (by omega) (by omega) (fun c_1 => ?_) (fun c_1 => by exfalso; omega)
    have e : j = R p (r + 1) 0 0 := by omega
    refine nG.sub (by exact (And.intro rfl (And.intro rfl (And.intro rfl (And.intro rfl (And.intro rfl True.intro)))))) (kk h N F H I (fun j2 hj2 => ?_) z1 a1 a2)
    rw [row j2 hj2]
    split
    · rfl
    · unfold mpS
      rw [if_neg (by omega), if_neg (by omega)]
  | succ d ih =>
    intro j hj h N F H I row z1 a1 a2
    have W2 := rW_ld W I.1
    obtain ⟨p1, p2, p3, p4, p5, p6, p7, p8⟩ := rW_p W2 O hp
    obtain ⟨r1, r2, r3, r4, r5, r6⟩ := rW_r W2 O hp hr1
    have r9 : N 8 (20 * p + r + 1) = N 8 (20 * p + (r + 1)) := rfl
    have hwe : hw (mR N p (r + 1)) 0 j k = nb (iwh (R p (r + 1)) j k) := by
      rw [← rRw_hw r6 (by omega)]
      rfl
    have ps : mpS (P p 6) (R p) r (k + 1) j = mpS (P p 6) (R p) r k j + nb (iwh (R p (r + 1)) j k) * (mLd (P p 6) (R p) r k * (6 / wsd (R p) r k)) := by
      unfold mpS
      rw [if_pos (by omega), if_pos (by omega), fb_sm_succ]
    refine x_iload rfl d_X8_leads_187 ?_
    refine x_aload_n rfl d_X8_leads_189 ?_
    refine x_getf co_all (v := .ref (b + 7)) d_X8_leads_190 fk_8_32 (o8_o H) rfl ?_
    refine x_bipush (v := nI 20) (by decide) d_X8_leads_193 ?_
    refine x_iload_n rfl d_X8_leads_195 ?_
    refine x_imulN d_X8_leads_196 ?_
    refine x_iload_n rfl d_X8_leads_197 ?_
    refine x_iaddN d_X8_leads_198 ?_
    refine x_iconst (v := nI 1) (by decide) d_X8_leads_199 ?_
    refine x_iaddN d_X8_leads_200 ?_
    refine x_iaload d_X8_leads_201 (o8_8 H) (nIx_nI (j := ((20 * p) + r) + 1) (by omega) (by decide)) ?_
    refine x_icmp_geN (tgt := 256) d_X8_leads_202 (by decide) (by omega) (by omega) (fun c_1 => by exfalso; omega) (fun c_1 => ?_)
    refine x_aload_n rfl d_X8_leads_205 ?_
    refine x_iload_n rfl d_X8_leads_206 ?_
    refine x_iload_n rfl d_X8_leads_207 ?_
    refine x_iconst (v := nI 1) (by decide) d_X8_leads_208 ?_
    refine x_iaddN d_X8_leads_209 ?_
    refine x_iload rfl d_X8_leads_210 ?_
    refine x_rdS d_X8_leads_212 lk_8_99 mo_X8_at sc_X8_at (sp_at) rfl ⟨Nat.le_of_ble_eq_true rfl, Nat.le_of_ble_eq_true rfl⟩ rfl rfl (Nat.zero_le _) (Nat.zero_le _) (Nat.le_of_ble_eq_true rfl) rfl ?_
    refine x_iload rfl d_X8_leads_215 ?_
    refine x_iconst (v := nI 0) (by decide) d_X8_leads_217 ?_
    refine x_rdV d_X8_leads_218 lk_8_139 mo_X8_hangsIn vi_X8_hangsIn (sp_mhg H p3 (r := r + 1) r2 (j := j) (by omega) (k := k) (by have := (O.2.2.2 p hp).2.2.1 r (by omega); have := this.1; omega) ((p8.2 (r + 1) r1).2 j (by omega)) (c := 0) (by decide)) (o8_o H) ⟨_, rfl, rfl⟩ rfl ⟨Nat.le_of_ble_eq_true rfl, Nat.le_of_ble_eq_true rfl⟩ rfl rfl (Nat.zero_le _) (Nat.zero_le _) (Nat.le_of_ble_eq_true rfl) rfl ?_
    rw [hwe]
    have hle := nb_le (iwh (R p (r + 1)) j k)
    refine x_if_eqN (tgt := 250) d_X8_leads_221 (by decide) (by omega) (fun c_h => ?_) (fun c_h => ?_)
    · refine x_iincN (m := 1) d_X8_leads_250 rfl (by decide) (Nat.le_of_ble_eq_true rfl) ?_
      refine x_goto (tgt := 187) d_X8_leads_253 (by decide) ?_
      refine nG.eq (ls2 := [some (.ref (b)), some (.int (nI (p))), some (.int (nI (r))), some (.long (lN (6 ^ (19 - r)))), none, some (.int (nI (k))), some (.long (lN (mLd (P p 6) (R p) r k))), none, some (.int (nI (wsd (R p) r k))), some (.int (nI (j + 1)))]) rfl rfl rfl rfl rfl ?_
      refine ih (j + 1) (by omega) _ _ F H I (fun j2 hj2 => ?_) z1 a1 a2
      rw [row j2 hj2]
      by_cases e : j2 = j
      · subst e
        rw [if_neg (by omega), if_pos (by omega), ps, show nb (iwh (R p (r + 1)) j2 k) = 0 by omega, Nat.zero_mul, Nat.add_zero]
      · by_cases e2 : j2 < j
        · rw [if_pos e2, if_pos (by omega)]
        · rw [if_neg e2, if_neg (by omega)]
    · refine x_aload_n rfl d_X8_leads_224 ?_
      refine x_getf co_all (v := .ref (b + 23)) d_X8_leads_225 fk_8_81 (o8_o H) rfl ?_
      refine x_bipush (v := nI 24) (by decide) d_X8_leads_228 ?_
      refine x_iload_n rfl d_X8_leads_230 ?_
      refine x_iconst (v := nI 1) (by decide) d_X8_leads_231 ?_
      refine x_iaddN d_X8_leads_232 ?_
      refine x_imulN d_X8_leads_233 ?_
      refine x_iload rfl d_X8_leads_234 ?_
      refine x_iaddN d_X8_leads_236 ?_
      refine x_dup2 rfl rfl d_X8_leads_237 ?_
      refine x_laload d_X8_leads_238 (o8_36 H) (nIx_nI (j := (24 * (r + 1)) + j) (by omega) (by decide)) ?_
      rw [row j (by omega), if_neg (by omega)]
      refine x_lload rfl d_X8_leads_239 ?_
      refine x_bipush (v := nI 6) (by decide) d_X8_leads_241 ?_
      refine x_iload rfl d_X8_leads_243 ?_
      refine x_idivN d_X8_leads_245 (by omega) (by omega) (by omega) ?_
      refine x_i2lN d_X8_leads_246 (by have := Nat.div_le_self 6 (wsd (R p) r k); omega) ?_
      refine x_lmulN d_X8_leads_247 ?_
      refine x_laddN d_X8_leads_248 ?_
      refine x_lastore d_X8_leads_249 (o8_36 H) (nIx_nI (j := (24 * (r + 1)) + j) (by omega) (by decide)) (Nat.le_trans (o8_B H) (Nat.le_add_right _ _)) ?_
      have H3_8 := o8_ast36 ((24 * (r + 1)) + j) ((mpS (P p 6) (R p) r k j) + ((mLd (P p 6) (R p) r k) * (6 / (wsd (R p) r k)))) H
      have f_4 := o8_f36 ((24 * (r + 1)) + j) ((mpS (P p 6) (R p) r k j) + ((mLd (P p 6) (R p) r k) * (6 / (wsd (R p) r k)))) H (F) (by exact ⟨by omega, by omega⟩)
      refine x_iincN (m := 1) d_X8_leads_250 rfl (by decide) (Nat.le_of_ble_eq_true rfl) ?_
      refine x_goto (tgt := 187) d_X8_leads_253 (by decide) ?_
      refine nG.eq (ls2 := [some (.ref (b)), some (.int (nI (p))), some (.int (nI (r))), some (.long (lN (6 ^ (19 - r)))), none, some (.int (nI (k))), some (.long (lN (mLd (P p 6) (R p) r k))), none, some (.int (nI (wsd (R p) r k))), some (.int (nI (j + 1)))]) rfl rfl rfl rfl rfl ?_
      refine ih (j + 1) (by omega) _ _ f_4 H3_8 ⟨fun f i hf => by rw [u2_ne (by omega)]; exact I.1 f i hf, fun r2 k2 g1 g2 => by rw [u2_ne (by have := ((O.2.2.2 p hp).2.2.1 r2 (by omega)).1; omega)]; exact I.2 r2 k2 g1 g2⟩ (fun j2 hj2 => ?_) (fun x x1 x2 => by rw [u2_ne (by omega)]; exact z1 x x1 x2) (by rw [u2_ne (by omega)]; exact a1) (by rw [u2_ne (by omega)]; exact a2)
      by_cases e : j2 = j
      · subst e
        rw [u2_eq, if_pos (by omega), ps, show nb (iwh (R p (r + 1)) j2 k) = 1 by omega, Nat.one_mul]
      · rw [u2_ne (by omega), row j2 hj2]
        by_cases e2 : j2 < j
        · rw [if_pos e2, if_pos (by omega)]
        · rw [if_neg e2, if_neg (by omega)]
theorem lp_ldk {h0 : nPH} {Post : Option Value → nPH → Prop} {b : Nat} {M V : Nat → Nat → Nat} {P : Nat → Nat → Nat → Nat} {R : Nat → Nat → Nat → Nat → Nat} {E Y T S : Nat → Nat → Nat} (W : rW M V P R E Y T S) (O : kO V P R) {p : Nat} (hp : p < V 1 0) {r : Nat} (hr1 : r + 1 < P p 5 0) (kk : ∀ (h : nPH) (N : Nat → Nat → Nat), nFr (nIv b 24) h0 h → o8 h b N → ldI M N (P p 6) (R p) (r + 1) → (∀ x, 24 * (r + 2) ≤ x → x < 480 → N 36 x = 0) → N 37 0 = 0 → N 38 0 = uLo (P p 6) (R p) (r + 1) → nG YX8_leads (nKy YX8_leads h0.1 h0.2.1 Post) 0 0 262 [some (.ref (b)), some (.int (nI (p))), some (.int (nI (r))), none, none, none, none, none, none, none] [] h) : ∀ d k : Nat, k + d = R p r 0 0 → ∀ (h : nPH) (N : Nat → Nat → Nat), nFr (nIv b 24) h0 h → o8 h b N → ldI M N (P p 6) (R p) r → (∀ j2, j2 < 24 → N 36 (24 * (r + 1) + j2) = mpS (P p 6) (R p) r k j2) → (∀ x, 24 * (r + 2) ≤ x → x < 480 → N 36 x = 0) → N 37 0 = 0 → N 38 0 = uLo (P p 6) (R p) r + uLq (P p 6) (R p) r k → nG YX8_leads (nKy YX8_leads h0.1 h0.2.1 Post) 0 0 94 [some (.ref (b)), some (.int (nI (p))), some (.int (nI (r))), some (.long (lN (6 ^ (19 - r)))), none, some (.int (nI (k))), none, none, none, none] [] h := by
  intro d
  have hr : r < P p 5 0 := by omega
  have O1 := O.2.2.2 p hp
  have ul := uLd_mm (p := P p 6) O1.2.1 O1.2.2.2.1 (fun r hr => (O1.2.2.2.2.2.2 r hr).1)
  induction d with
  | zero =>
    intro k hk h N F H I row z1 a1 a2
    have W2 := rW_ld W I.1
    obtain ⟨p1, p2, p3, p4, p5, p6, p7, p8⟩ := rW_p W2 O hp
    obtain ⟨r1, r2, r3, r4, r5, r6⟩ := rW_r W2 O hp hr
    refine x_iload rfl d_X8_leads_94 ?_
    refine x_aload_n rfl d_X8_leads_96 ?_
    refine x_getf co_all (v := .ref (b + 7)) d_X8_leads_97 fk_8_32 (o8_o H) rfl ?_
    refine x_bipush (v := nI 20) (by decide) d_X8_leads_100 ?_
    refine x_iload_n rfl d_X8_leads_102 ?_
    refine x_imulN d_X8_leads_103 ?_
    refine x_iload_n rfl d_X8_leads_104 ?_
    refine x_iaddN d_X8_leads_105 ?_
    refine x_iaload d_X8_leads_106 (o8_8 H) (nIx_nI (j := (20 * p) + r) (by omega) (by decide)) ?_
    refine x_icmp_geN (tgt := 262) d_X8_leads_107 (by decide) (by omega) (by omega) (fun c_1 => ?_) (fun c_1 => by exfalso; omega)
    have e : k = R p r 0 0 := by omega
    refine nG.sub (by exact (And.intro rfl (And.intro rfl (And.intro rfl True.intro)))) (kk h N F H ⟨I.1, fun r2 k2 g1 g2 => ?_⟩ z1 a1 (by rw [a2, e]; rfl))
    by_cases e2 : r2 = r + 1
    · subst e2
      have h24 := (O1.2.2.1 (r + 1) hr1).1
      rw [row k2 (by omega)]
      unfold mpS
      rw [if_pos g2, e]
      show _ = fb_sm _ 24
      exact (sm_z r4 (fun q q1 q2 => by
        rcases z : iwh (R p (r + 1)) k2 q with _ | _
        · exact Nat.zero_mul _
        · have := gOK_wh O1.2.2.2.1 hr1 g2 z
          omega)).symm
    · exact I.2 r2 k2 (by omega) g2
  | succ d ih =>
    intro k hk h N F H I row z1 a1 a2
    have W2 := rW_ld W I.1
    obtain ⟨p1, p2, p3, p4, p5, p6, p7, p8⟩ := rW_p W2 O hp
    obtain ⟨r1, r2, r3, r4, r5, r6⟩ := rW_r W2 O hp hr
    have hk24 : k < 24 := by omega
    have ebl : mbl N p r k 0 = wsd (R p) r k := by
      rw [rW_bl W2 O hp, if_pos hr1, hw0_wbl]
      rfl
    have hwl := wbl_le24 (D := R p (r + 1)) (k := k) (O1.2.2.1 (r + 1) hr1).1
    change wsd (R p) r k ≤ 24 at hwl
    have psz : ∀ j2, wsd (R p) r k = 0 → mpS (P p 6) (R p) r k j2 = mpS (P p 6) (R p) r (k + 1) j2 := fun j2 hz => by
      unfold mpS
      by_cases e : j2 < R p (r + 1) 0 0
      · rw [if_pos e, if_pos e, fb_sm_succ]
        have := nb_0.mp (fb_sm_zero (f := fun q2 => nb (iwh (R p (r + 1)) q2 k)) hz j2 e)
        have z0 : nb (iwh (R p (r + 1)) j2 k) * (mLd (P p 6) (R p) r k * (6 / wsd (R p) r k)) = 0 := by
          rw [this]
          exact Nat.zero_mul _
        omega
      · rw [if_neg e, if_neg e]
    refine x_iload rfl d_X8_leads_94 ?_
    refine x_aload_n rfl d_X8_leads_96 ?_
    refine x_getf co_all (v := .ref (b + 7)) d_X8_leads_97 fk_8_32 (o8_o H) rfl ?_
    refine x_bipush (v := nI 20) (by decide) d_X8_leads_100 ?_
    refine x_iload_n rfl d_X8_leads_102 ?_
    refine x_imulN d_X8_leads_103 ?_
    refine x_iload_n rfl d_X8_leads_104 ?_
    refine x_iaddN d_X8_leads_105 ?_
    refine x_iaload d_X8_leads_106 (o8_8 H) (nIx_nI (j := (20 * p) + r) (by omega) (by decide)) ?_
    refine x_icmp_geN (tgt := 262) d_X8_leads_107 (by decide) (by omega) (by omega) (fun c_1 => by exfalso; omega) (fun c_1 => ?_)
    refine x_aload_n rfl d_X8_leads_110 ?_
    refine x_getf co_all (v := .ref (b + 23)) d_X8_leads_111 fk_8_81 (o8_o H) rfl ?_
    refine x_bipush (v := nI 24) (by decide) d_X8_leads_114 ?_
    refine x_iload_n rfl d_X8_leads_116 ?_
    refine x_imulN d_X8_leads_117 ?_
    refine x_iload rfl d_X8_leads_118 ?_
    refine x_iaddN d_X8_leads_120 ?_
    refine x_laload d_X8_leads_121 (o8_36 H) (nIx_nI (j := (24 * r) + k) (by omega) (by decide)) ?_
    rw [I.2 r k (Nat.le_refl _) (by omega)]
    refine x_lstore d_X8_leads_122 (Nat.le_of_ble_eq_true rfl) ?_
    refine x_iload_n rfl d_X8_leads_124 ?_
    refine x_iconst (v := nI 1) (by decide) d_X8_leads_125 ?_
    refine x_iaddN d_X8_leads_126 ?_
    refine x_aload_n rfl d_X8_leads_127 ?_
    refine x_getf co_all (v := .ref (b + 1)) d_X8_leads_128 fk_8_13 (o8_o H) rfl ?_
    refine x_iload_n rfl d_X8_leads_131 ?_
    refine x_iaload d_X8_leads_132 (o8_2 H) (nIx_nI (j := p) (by omega) (by decide)) ?_
    refine x_icmp_neN (tgt := 152) d_X8_leads_133 (by decide) (by omega) (by omega) (fun c_2 => ?_) (fun c_2 => by exfalso; omega)
    refine x_aload_n rfl d_X8_leads_152 ?_
    refine x_iload_n rfl d_X8_leads_153 ?_
    refine x_iload_n rfl d_X8_leads_154 ?_
    refine x_iload rfl d_X8_leads_155 ?_
    refine x_iconst (v := nI 0) (by decide) d_X8_leads_157 ?_
    refine x_rdV d_X8_leads_158 lk_8_145 mo_X8_below vi_X8_below (sp_mbl H p3 r2 p8 (k := k) (by omega) (c := 0) (by decide)) (o8_o H) ⟨_, rfl, rfl⟩ rfl ⟨Nat.le_of_ble_eq_true rfl, Nat.le_of_ble_eq_true rfl⟩ rfl rfl (Nat.zero_le _) (Nat.zero_le _) (Nat.le_of_ble_eq_true rfl) rfl ?_
    rw [ebl]
    refine x_istore d_X8_leads_161 (Nat.le_of_ble_eq_true rfl) ?_
    refine x_iload rfl d_X8_leads_163 ?_
    refine x_if_neN (tgt := 184) d_X8_leads_165 (by decide) (by have := hwl; omega) (fun c_w => ?_) (fun c_w => ?_)
    · refine x_iconst (v := nI 0) (by decide) d_X8_leads_184 ?_
      refine x_istore d_X8_leads_185 (Nat.le_of_ble_eq_true rfl) ?_
      refine nG.eq (ls2 := [some (.ref (b)), some (.int (nI (p))), some (.int (nI (r))), some (.long (lN (6 ^ (19 - r)))), none, some (.int (nI (k))), some (.long (lN (mLd (P p 6) (R p) r k))), none, some (.int (nI (wsd (R p) r k))), some (.int (nI (0)))]) rfl rfl rfl rfl rfl ?_
      refine lp_ldj W O hp hr1 (a38 := N 38 0) (show k < R p r 0 0 by omega) (by omega) hwl ?_ (R p (r + 1) 0 0) 0 (Nat.zero_add _) h N F H I (fun j2 hj2 => by rw [if_neg (by omega)]; exact row j2 hj2) z1 a1 rfl
      intro h3 N3 F3 H3 I3 row3 z3 a3 a4
      refine x_iincN (m := 1) d_X8_leads_256 rfl (by decide) (Nat.le_of_ble_eq_true rfl) ?_
      refine x_goto (tgt := 94) d_X8_leads_259 (by decide) ?_
      exact ih (k + 1) (by omega) h3 N3 F3 H3 I3 row3 z3 a3 (by rw [a4, a2]; unfold uLq; rw [fb_sm_succ, if_neg (by omega), Nat.add_zero])
    · refine x_aload_n rfl d_X8_leads_168 ?_
      refine x_dup rfl d_X8_leads_169 ?_
      refine x_getf co_all (v := .long (lN (N 38 0))) d_X8_leads_170 fk_8_222 (o8_o H) rfl ?_
      refine x_lload rfl d_X8_leads_173 ?_
      refine x_lload_n rfl d_X8_leads_175 ?_
      refine x_lmulN d_X8_leads_176 ?_
      refine x_laddN d_X8_leads_177 ?_
      refine x_putf co_all d_X8_leads_178 fk_8_222 ft_8_38 (o8_o H) (Nat.le_of_ble_eq_true rfl) rfl rfl (o8_B H) ?_
      have H4_8 := o8_put38 ((N 38 0) + ((mLd (P p 6) (R p) r k) * (6 ^ (19 - r)))) H
      have f_5 := o8_g38 ((N 38 0) + ((mLd (P p 6) (R p) r k) * (6 ^ (19 - r)))) H (F) (by exact ⟨by omega, by omega⟩)
      refine x_goto (tgt := 256) d_X8_leads_181 (by decide) ?_
      refine x_iincN (m := 1) d_X8_leads_256 rfl (by decide) (Nat.le_of_ble_eq_true rfl) ?_
      refine x_goto (tgt := 94) d_X8_leads_259 (by decide) ?_
      refine nG.eq (ls2 := [some (.ref (b)), some (.int (nI (p))), some (.int (nI (r))), some (.long (lN (6 ^ (19 - r)))), none, some (.int (nI (k + 1))), some (.long (lN (mLd (P p 6) (R p) r k))), none, some (.int (nI (wsd (R p) r k))), none]) rfl rfl rfl rfl rfl ?_
      exact nG.sub (by exact (And.intro rfl (And.intro rfl (And.intro rfl (And.intro rfl (And.intro rfl True.intro)))))) (ih (k + 1) (by omega) _ _ f_5 H4_8 ⟨fun f i hf => by rw [u2_ne (by omega)]; exact I.1 f i hf, fun r2 k2 g1 g2 => by rw [u2_ne (by omega)]; exact I.2 r2 k2 g1 g2⟩ (fun j2 hj2 => by rw [u2_ne (by omega), row j2 hj2, psz j2 c_w]) (fun x x1 x2 => by rw [u2_ne (by omega)]; exact z1 x x1 x2) (by rw [u2_ne (by omega)]; exact a1) (by rw [u2_eq, a2]; unfold uLq; rw [fb_sm_succ, if_pos c_w, ul r hr k (by omega), Nat.add_assoc]))
theorem lp_ldr {h0 : nPH} {Post : Option Value → nPH → Prop} {b : Nat} {M V : Nat → Nat → Nat} {P : Nat → Nat → Nat → Nat} {R : Nat → Nat → Nat → Nat → Nat} {E Y T S : Nat → Nat → Nat} (W : rW M V P R E Y T S) (O : kO V P R) {p : Nat} (hp : p < V 1 0) (hP : ∀ (h2 : nPH) (N : Nat → Nat → Nat), nFr (nIv b 24) h0 h2 → o8 h2 b N → ldF M N (P p 6) (R p) (P p 5 0 - 1) → Post none h2) : ∀ d r : Nat, r + d + 1 = P p 5 0 → ∀ (h : nPH) (N : Nat → Nat → Nat), nFr (nIv b 24) h0 h → o8 h b N → ldI M N (P p 6) (R p) r → (∀ x, 24 * (r + 1) ≤ x → x < 480 → N 36 x = 0) → N 37 0 = 0 → N 38 0 = uLo (P p 6) (R p) r → nG YX8_leads (nKy YX8_leads h0.1 h0.2.1 Post) 0 0 73 [some (.ref (b)), some (.int (nI (p))), some (.int (nI (r))), none, none, none, none, none, none, none] [] h := by
  intro d
  induction d with
  | zero =>
    intro r hr0 h N F H I z1 a1 a2
    have hr : r < P p 5 0 := by omega
    have W2 := rW_ld W I.1
    obtain ⟨p1, p2, p3, p4, p5, p6, p7, p8⟩ := rW_p W2 O hp
    obtain ⟨r1, r2, r3, r4, r5, r6⟩ := rW_r W2 O hp hr
    refine x_iload_n rfl d_X8_leads_73 ?_
    refine x_aload_n rfl d_X8_leads_74 ?_
    refine x_getf co_all (v := .ref (b + 1)) d_X8_leads_75 fk_8_13 (o8_o H) rfl ?_
    refine x_iload_n rfl d_X8_leads_78 ?_
    refine x_iaload d_X8_leads_79 (o8_2 H) (nIx_nI (j := p) (by omega) (by decide)) ?_
    refine x_icmp_geN (tgt := 268) d_X8_leads_80 (by decide) (by omega) (by omega) (fun c_1 => by exfalso; omega) (fun c_1 => ?_)
    refine x_bipush (v := nI 19) (by decide) d_X8_leads_83 ?_
    refine x_iload_n rfl d_X8_leads_85 ?_
    refine x_isubN d_X8_leads_86 (by omega) ?_
    refine x_rdS d_X8_leads_87 lk_8_225 mo_X8_sixth sc_X8_sixth (sp_sixth (r := 19 - r) (by omega)) rfl ⟨Nat.le_of_ble_eq_true rfl, Nat.le_of_ble_eq_true rfl⟩ rfl rfl (Nat.zero_le _) (Nat.zero_le _) (Nat.le_of_ble_eq_true rfl) rfl ?_
    refine x_lstore_n d_X8_leads_90 (Nat.le_of_ble_eq_true rfl) ?_
    refine x_iconst (v := nI 0) (by decide) d_X8_leads_91 ?_
    refine x_istore d_X8_leads_92 (Nat.le_of_ble_eq_true rfl) ?_
    refine nG.sub (by exact (And.intro rfl (And.intro rfl (And.intro rfl (And.intro rfl (And.intro rfl True.intro)))))) (lp_ldlast W O hp (by omega) (by omega) ?_ (R p r 0 0) 0 (Nat.zero_add _) h N F H I a1 a2)
    intro h N F H J
    have W2 := rW_ld W J.1.1
    obtain ⟨p1, p2, p3, p4, p5, p6, p7, p8⟩ := rW_p W2 O hp
    refine x_iincN (m := 1) d_X8_leads_262 rfl (by decide) (Nat.le_of_ble_eq_true rfl) ?_
    refine x_goto (tgt := 73) d_X8_leads_265 (by decide) ?_
    refine x_iload_n rfl d_X8_leads_73 ?_
    refine x_aload_n rfl d_X8_leads_74 ?_
    refine x_getf co_all (v := .ref (b + 1)) d_X8_leads_75 fk_8_13 (o8_o H) rfl ?_
    refine x_iload_n rfl d_X8_leads_78 ?_
    refine x_iaload d_X8_leads_79 (o8_2 H) (nIx_nI (j := p) (by omega) (by decide)) ?_
    refine x_icmp_geN (tgt := 268) d_X8_leads_80 (by decide) (by omega) (by omega) (fun c_1 => ?_) (fun c_1 => by exfalso; omega)
    exact x_return d_X8_leads_268 rfl F.1 F.2.1 (Nat.zero_le _) (Nat.zero_le _) (hP _ N F H (by rw [show P p 5 0 - 1 = r by omega]; exact J))
  | succ d ih =>
    intro r hr0 h N F H I z1 a1 a2
    have hr : r < P p 5 0 := by omega
    have W2 := rW_ld W I.1
    obtain ⟨p1, p2, p3, p4, p5, p6, p7, p8⟩ := rW_p W2 O hp
    obtain ⟨r1, r2, r3, r4, r5, r6⟩ := rW_r W2 O hp hr
    refine x_iload_n rfl d_X8_leads_73 ?_
    refine x_aload_n rfl d_X8_leads_74 ?_
    refine x_getf co_all (v := .ref (b + 1)) d_X8_leads_75 fk_8_13 (o8_o H) rfl ?_
    refine x_iload_n rfl d_X8_leads_78 ?_
    refine x_iaload d_X8_leads_79 (o8_2 H) (nIx_nI (j := p) (by omega) (by decide)) ?_
    refine x_icmp_geN (tgt := 268) d_X8_leads_80 (by decide) (by omega) (by omega) (fun c_1 => by exfalso; omega) (fun c_1 => ?_)
    refine x_bipush (v := nI 19) (by decide) d_X8_leads_83 ?_
    refine x_iload_n rfl d_X8_leads_85 ?_
    refine x_isubN d_X8_leads_86 (by omega) ?_
    refine x_rdS d_X8_leads_87 lk_8_225 mo_X8_sixth sc_X8_sixth (sp_sixth (r := 19 - r) (by omega)) rfl ⟨Nat.le_of_ble_eq_true rfl, Nat.le_of_ble_eq_true rfl⟩ rfl rfl (Nat.zero_le _) (Nat.zero_le _) (Nat.le_of_ble_eq_true rfl) rfl ?_
    refine x_lstore_n d_X8_leads_90 (Nat.le_of_ble_eq_true rfl) ?_
    refine x_iconst (v := nI 0) (by decide) d_X8_leads_91 ?_
    refine x_istore d_X8_leads_92 (Nat.le_of_ble_eq_true rfl) ?_
    refine nG.sub (by exact (And.intro rfl (And.intro rfl (And.intro rfl (And.intro rfl (And.intro rfl True.intro)))))) (lp_ldk W O hp (r := r) (by omega) ?_ (R p r 0 0) 0 (Nat.zero_add _) h N F H I (fun j2 hj2 => ?_) (fun x x1 x2 => z1 x (by omega) x2) a1 (by rw [a2]; rfl))
    rotate_left
    · rw [z1 _ (by omega) (by omega)]
      unfold mpS
      split
      · rfl
      · rfl
    intro h3 N3 F3 H3 I3 z3 a3 a4
    refine x_iincN (m := 1) d_X8_leads_262 rfl (by decide) (Nat.le_of_ble_eq_true rfl) ?_
    refine x_goto (tgt := 73) d_X8_leads_265 (by decide) ?_
    exact ih (r + 1) (by omega) h3 N3 F3 H3 I3 z3 a3 a4
theorem lp_ldp {h0 : nPH} {Post : Option Value → nPH → Prop} {b : Nat} {M V : Nat → Nat → Nat} {P : Nat → Nat → Nat → Nat} {R : Nat → Nat → Nat → Nat → Nat} {E Y T S : Nat → Nat → Nat} (W : rW M V P R E Y T S) (O : kO V P R) {p : Nat} (hp : p < V 1 0) (hP : ∀ (h2 : nPH) (N : Nat → Nat → Nat), nFr (nIv b 24) h0 h2 → o8 h2 b N → ldF M N (P p 6) (R p) (P p 5 0 - 1) → Post none h2) : ∀ d k : Nat, k + d = R p 0 0 0 → ∀ (h : nPH) (N : Nat → Nat → Nat), nFr (nIv b 24) h0 h → o8 h b N → (∀ f i, f < 36 → N f i = M f i) → (∀ x, x < k → N 36 x = P p 6 x) → (∀ x, k ≤ x → x < 480 → N 36 x = 0) → N 37 0 = 0 → N 38 0 = 0 → nG YX8_leads (nKy YX8_leads h0.1 h0.2.1 Post) 0 0 34 [some (.ref (b)), some (.int (nI (p))), some (.int (nI (k))), none, none, none, none, none, none, none] [] h := by
  intro d
  induction d with
  | zero =>
    intro k hk h N F H I y1 y2 a1 a2
    have W2 := rW_ld W I
    obtain ⟨p1, p2, p3, p4, p5, p6, p7, p8⟩ := rW_p W2 O hp
    obtain ⟨r1, r2, r3, r4, r5, r6⟩ := rW_r W2 O hp p6
    have b7 := (W2.2.1 p hp).1.2.2.2.2.2.1
    have r9 : N 8 (20 * p) = N 8 (20 * p + 0) := rfl
    refine x_iload_n rfl d_X8_leads_34 ?_
    refine x_aload_n rfl d_X8_leads_35 ?_
    refine x_getf co_all (v := .ref (b + 7)) d_X8_leads_36 fk_8_32 (o8_o H) rfl ?_
    refine x_bipush (v := nI 20) (by decide) d_X8_leads_39 ?_
    refine x_iload_n rfl d_X8_leads_41 ?_
    refine x_imulN d_X8_leads_42 ?_
    refine x_iaload d_X8_leads_43 (o8_8 H) (nIx_nI (j := 20 * p) (by omega) (by decide)) ?_
    refine x_icmp_geN (tgt := 71) d_X8_leads_44 (by decide) (by omega) (by omega) (fun c_1 => ?_) (fun c_1 => by exfalso; omega)
    refine x_iconst (v := nI 0) (by decide) d_X8_leads_71 ?_
    refine x_istore_n d_X8_leads_72 (Nat.le_of_ble_eq_true rfl) ?_
    have e : k = R p 0 0 0 := by omega
    exact nG.sub (by exact (And.intro rfl (And.intro rfl (And.intro rfl True.intro)))) (lp_ldr W O hp hP (P p 5 0 - 1) 0 (by omega) h N F H ⟨I, fun r2 k2 g1 g2 => by (have e2 : r2 = 0 := (by omega)); subst e2; rw [Nat.mul_zero, Nat.zero_add, y1 k2 (by omega)]; rfl⟩ (fun x x1 x2 => y2 x (by omega) x2) a1 a2)
  | succ d ih =>
    intro k hk h N F H I y1 y2 a1 a2
    have W2 := rW_ld W I
    obtain ⟨p1, p2, p3, p4, p5, p6, p7, p8⟩ := rW_p W2 O hp
    obtain ⟨r1, r2, r3, r4, r5, r6⟩ := rW_r W2 O hp p6
    have b7 := (W2.2.1 p hp).1.2.2.2.2.2.1
    have r9 : N 8 (20 * p) = N 8 (20 * p + 0) := rfl
    refine x_iload_n rfl d_X8_leads_34 ?_
    refine x_aload_n rfl d_X8_leads_35 ?_
    refine x_getf co_all (v := .ref (b + 7)) d_X8_leads_36 fk_8_32 (o8_o H) rfl ?_
    refine x_bipush (v := nI 20) (by decide) d_X8_leads_39 ?_
    refine x_iload_n rfl d_X8_leads_41 ?_
    refine x_imulN d_X8_leads_42 ?_
    refine x_iaload d_X8_leads_43 (o8_8 H) (nIx_nI (j := 20 * p) (by omega) (by decide)) ?_
    refine x_icmp_geN (tgt := 71) d_X8_leads_44 (by decide) (by omega) (by omega) (fun c_1 => by exfalso; omega) (fun c_1 => ?_)
    refine x_aload_n rfl d_X8_leads_47 ?_
    refine x_getf co_all (v := .ref (b + 23)) d_X8_leads_48 fk_8_81 (o8_o H) rfl ?_
    refine x_iload_n rfl d_X8_leads_51 ?_
    refine x_aload_n rfl d_X8_leads_52 ?_
    refine x_getf co_all (v := .ref (b + 6)) d_X8_leads_53 fk_8_29 (o8_o H) rfl ?_
    refine x_bipush (v := nI 24) (by decide) d_X8_leads_56 ?_
    refine x_iload_n rfl d_X8_leads_58 ?_
    refine x_imulN d_X8_leads_59 ?_
    refine x_iload_n rfl d_X8_leads_60 ?_
    refine x_iaddN d_X8_leads_61 ?_
    refine x_iaload d_X8_leads_62 (o8_7 H) (nIx_nI (j := (24 * p) + k) (by omega) (by decide)) ?_
    rw [b7 k (by omega)]
    refine x_i2lN d_X8_leads_63 (by have := p7.2.2.2.2.1 k (by omega); omega) ?_
    refine x_lastore d_X8_leads_64 (o8_36 H) (nIx_nI (j := k) (by omega) (by decide)) (Nat.le_trans (o8_B H) (Nat.le_add_right _ _)) ?_
    have H2_8 := o8_ast36 (k) (P p 6 k) H
    have f_3 := o8_f36 (k) (P p 6 k) H (F) (by exact ⟨by omega, by omega⟩)
    refine x_iincN (m := 1) d_X8_leads_65 rfl (by decide) (Nat.le_of_ble_eq_true rfl) ?_
    refine x_goto (tgt := 34) d_X8_leads_68 (by decide) ?_
    exact ih (k + 1) (by omega) _ _ f_3 H2_8 (fun f i hf => by rw [u2_ne (by omega)]; exact I f i hf) (fun x hx => by by_cases e : x = k; { subst e; exact u2_eq _ _ _ _ }; { rw [u2_ne (by omega)]; exact y1 x (by omega) }) (fun x x1 x2 => by rw [u2_ne (by omega)]; exact y2 x (by omega) x2) (by rw [u2_ne (by omega)]; exact a1) (by rw [u2_ne (by omega)]; exact a2)
theorem lp_ldc {h0 : nPH} {Post : Option Value → nPH → Prop} {b : Nat} {M V : Nat → Nat → Nat} {P : Nat → Nat → Nat → Nat} {R : Nat → Nat → Nat → Nat → Nat} {E Y T S : Nat → Nat → Nat} (W : rW M V P R E Y T S) (O : kO V P R) {p : Nat} (hp : p < V 1 0) (hP : ∀ (h2 : nPH) (N : Nat → Nat → Nat), nFr (nIv b 24) h0 h2 → o8 h2 b N → ldF M N (P p 6) (R p) (P p 5 0 - 1) → Post none h2) : ∀ d k : Nat, k + d = 480 → ∀ (h : nPH) (N : Nat → Nat → Nat), nFr (nIv b 24) h0 h → o8 h b N → (∀ f i, f < 36 → N f i = M f i) → (∀ x, x < k → N 36 x = 0) → nG YX8_leads (nKy YX8_leads h0.1 h0.2.1 Post) 0 0 2 [some (.ref (b)), some (.int (nI (p))), some (.int (nI (k))), none, none, none, none, none, none, none] [] h := by
  intro d
  induction d with
  | zero =>
    intro k hk h N F H I y1
    refine x_iload_n rfl d_X8_leads_2 ?_
    refine x_sipush (v := nI 480) (by decide) d_X8_leads_3 ?_
    refine x_icmp_geN (tgt := 22) d_X8_leads_6 (by decide) (by omega) (by omega) (fun c_1 => ?_) (fun c_1 => by exfalso; omega)
    refine x_aload_n rfl d_X8_leads_22 ?_
    refine x_lconst (v := lN 0) (by decide) d_X8_leads_23 ?_
    refine x_putf co_all d_X8_leads_24 fk_8_218 ft_8_37 (o8_o H) (Nat.le_of_ble_eq_true rfl) rfl rfl (o8_B H) ?_
    have H2_8 := o8_put37 (0) H
    have f_3 := o8_g37 (0) H (F) (by exact ⟨by omega, by omega⟩)
    refine x_aload_n rfl d_X8_leads_27 ?_
    refine x_lconst (v := lN 0) (by decide) d_X8_leads_28 ?_
    refine x_putf co_all d_X8_leads_29 fk_8_222 ft_8_38 (o8_o H2_8) (Nat.le_of_ble_eq_true rfl) rfl rfl (o8_B H2_8) ?_
    have H4_8 := o8_put38 (0) H2_8
    have f_5 := o8_g38 (0) H2_8 (f_3) (by exact ⟨by omega, by omega⟩)
    refine x_iconst (v := nI 0) (by decide) d_X8_leads_32 ?_
    refine x_istore_n d_X8_leads_33 (Nat.le_of_ble_eq_true rfl) ?_
    exact lp_ldp W O hp hP (R p 0 0 0) 0 (Nat.zero_add _) _ _ f_5 H4_8 (fun f i hf => by rw [u2_ne (by omega), u2_ne (by omega)]; exact I f i hf) (fun x hx => absurd hx (by omega)) (fun x x1 x2 => by rw [u2_ne (by omega), u2_ne (by omega)]; exact y1 x (by omega)) (by rw [u2_ne (by omega), u2_eq]) (u2_eq _ _ _ _)
  | succ d ih =>
    intro k hk h N F H I y1
    refine x_iload_n rfl d_X8_leads_2 ?_
    refine x_sipush (v := nI 480) (by decide) d_X8_leads_3 ?_
    refine x_icmp_geN (tgt := 22) d_X8_leads_6 (by decide) (by omega) (by omega) (fun c_1 => by exfalso; omega) (fun c_1 => ?_)
    refine x_aload_n rfl d_X8_leads_9 ?_
    refine x_getf co_all (v := .ref (b + 23)) d_X8_leads_10 fk_8_81 (o8_o H) rfl ?_
    refine x_iload_n rfl d_X8_leads_13 ?_
    refine x_lconst (v := lN 0) (by decide) d_X8_leads_14 ?_
    refine x_lastore d_X8_leads_15 (o8_36 H) (nIx_nI (j := k) (by omega) (by decide)) (Nat.le_trans (o8_B H) (Nat.le_add_right _ _)) ?_
    have H2_8 := o8_ast36 (k) (0) H
    have f_3 := o8_f36 (k) (0) H (F) (by exact ⟨by omega, by omega⟩)
    refine x_iincN (m := 1) d_X8_leads_16 rfl (by decide) (Nat.le_of_ble_eq_true rfl) ?_
    refine x_goto (tgt := 2) d_X8_leads_19 (by decide) ?_
    exact ih (k + 1) (by omega) _ _ f_3 H2_8 (fun f i hf => by rw [u2_ne (by omega)]; exact I f i hf) (fun x hx => by by_cases e : x = k; { subst e; exact u2_eq _ _ _ _ }; { rw [u2_ne (by omega)]; exact y1 x (by omega) })
theorem sp_mleads {h : nPH} {b : Nat} {M V : Nat → Nat → Nat} {P : Nat → Nat → Nat → Nat} {R : Nat → Nat → Nat → Nat → Nat} {E Y T S : Nat → Nat → Nat} (H : o8 h b M) (W : rW M V P R E Y T S) (O : kO V P R) {p : Nat} (hp : p < V 1 0) : nWv YX8_leads [.ref b, .int (nI p)] h none (fun h2 => nFr (nIv b 24) h h2 ∧ ∃ N, o8 h2 b N ∧ ldF M N (P p 6) (R p) (P p 5 0 - 1)) := by
  refine nSp_of (by decide +kernel) rfl (Nat.le_of_ble_eq_true rfl) (ls := [some (.ref (b)), some (.int (nI (p))), none, none, none, none, none, none, none, none]) (by exact (And.intro rfl (And.intro rfl True.intro))) ?_
  refine x_iconst (v := nI 0) (by decide) d_X8_leads_0 ?_
  refine x_istore_n d_X8_leads_1 (Nat.le_of_ble_eq_true rfl) ?_
  exact lp_ldc W O hp (fun h2 N F2 H2 J => ⟨rfl, F2, N, H2, J⟩) 480 0 (Nat.zero_add _) h M nFr.rf H (fun _ _ _ => rfl) (fun x hx => absurd hx (by omega))
