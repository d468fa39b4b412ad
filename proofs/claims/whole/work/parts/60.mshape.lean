/-! the model: shape -/
theorem rTE_00 (e z n : Nat) (D : Nat → Nat → Nat) (i : Nat) : rTE e z n D 0 i = D 0 i := by
  unfold rTE
  rw [if_neg (by omega), if_neg (by omega)]
theorem rTE_f {e z n f : Nat} {D : Nat → Nat → Nat} {i : Nat} (h1 : f ≠ 1) (h2 : f ≠ 2) : rTE e z n D f i = D f i := by
  unfold rTE
  rw [if_neg (by omega), if_neg (by omega)]
theorem rTE_z (e z : Nat) (D : Nat → Nat → Nat) : rTE e z 0 D = D := funext fun f => funext fun i => rTE_0 e z D f i
theorem rTE_n {e z n t : Nat} {D : Nat → Nat → Nat} (h : tke e z n = t) : rTE e z (n + 1) D = u2 (u2 (rTE e z n D) 1 n t) 2 n (gvo t) := funext fun f => funext fun i => rTE_s h f i
theorem kO_TE {V : Nat → Nat → Nat} {P : Nat → Nat → Nat → Nat} {R : Nat → Nat → Nat → Nat → Nat} (O : kO V P R) (p r e k : Nat) {z : Nat} (hz : z ≤ 2) : kO V P (uP R p (uR (R p) r (rTE e z k (R p r)))) :=
  kO_row O (fun hp => kP_row (O.2.2.2 p hp) (fun hr => rOK_TE ((O.2.2.2 p hp).2.2.1 r hr) (by omega)) (rTE_00 _ _ _ _ _) (fun i => rTE_f (by decide) (by decide)) (fun i => rTE_f (by decide) (by decide)))
theorem rW_te {M V : Nat → Nat → Nat} {P : Nat → Nat → Nat → Nat} {R : Nat → Nat → Nat → Nat → Nat} {E Y T S : Nat → Nat → Nat} {p r e z k t : Nat} (W : rW M V P (uP R p (uR (R p) r (rTE e z k (R p r)))) E Y T S) (hp : p < V 1 0) (hr : r < P p 5 0) (hk : k < R p r 0 0) (ht : tke e z k = t) : rW (u2 (u2 M 10 (24 * (20 * p + r) + k) t) 11 (24 * (20 * p + r) + k) (gvo t)) V P (uP R p (uR (R p) r (rTE e z (k + 1) (R p r)))) E Y T S := by
  have W1 := rW_f W hp hr (k := k) (by rw [uP_eq, uR_eq, rTE_00]; exact hk) (f := 1) (v := t) (Or.inl rfl) (fun e => absurd e (by decide)) (fun e => absurd e (by decide))
  rw [uP_eq, uuP, uR_eq, uuR] at W1
  have W2 := rW_f W1 hp hr (k := k) (by rw [uP_eq, uR_eq, u2_ne (by omega), rTE_00]; exact hk) (f := 2) (v := gvo t) (Or.inr (Or.inl rfl)) (fun _ => gvo_le t) (fun e => absurd e (by decide))
  rw [uP_eq, uuP, uR_eq, uuR, ← rTE_n ht] at W2
  exact W2
theorem lp_shk {h0 : nPH} {D0 : va_G} {B0 : Nat} {Post : Option Value → nPH → Prop} {b : Nat} {V : Nat → Nat → Nat} {P : Nat → Nat → Nat → Nat} {R : Nat → Nat → Nat → Nat → Nat} {E Y T S : Nat → Nat → Nat} (O : kO V P R) {p r n e z i : Nat} (hp : p < V 1 0) (hre : P p 5 0 = r + 1) (he : 1 ≤ e) (he2 : e ≤ 24) (hz : 1 ≤ z) (hz2 : z ≤ 2) (hi : i < 20) (hnn : n < 20) (kk : ∀ (h : nPH) (M : Nat → Nat → Nat), nFr (nIv b 24) h0 h → o8 h b M → rW M V P (uP R p (uR (R p) r (rTE e z (R p r 0 0) (R p r)))) E Y T S → nG YX8_shape (nKy YX8_shape D0 B0 Post) 0 0 225 [some (.ref (b)), some (.int (nI (p))), some (.int (nI (n))), some (.int (nI (e))), some (.int (nI (z))), none, none, some (.int (nI (i))), some (.int (nI (r))), none] [] h) : ∀ j k : Nat, k + j = R p r 0 0 → ∀ (h : nPH) (M : Nat → Nat → Nat), nFr (nIv b 24) h0 h → o8 h b M → rW M V P (uP R p (uR (R p) r (rTE e z k (R p r)))) E Y T S → nG YX8_shape (nKy YX8_shape D0 B0 Post) 0 0 164 [some (.ref (b)), some (.int (nI (p))), some (.int (nI (n))), some (.int (nI (e))), some (.int (nI (z))), none, none, some (.int (nI (i))), some (.int (nI (r))), some (.int (nI (k)))] [] h := by
  intro j
  induction j with
  | zero =>
    intro k hk h M F H W
    have O2 := kO_TE O p r e k hz2
    obtain ⟨p1, p2, p3, p4, p5, p6, p7, p8⟩ := rW_p W O2 hp
    obtain ⟨r1, r2, r3, r4, r5, r6⟩ := rW_r W O2 hp (r := r) (by omega)
    rw [uP_eq, uR_eq, rTE_00] at r3 r4
    refine x_iload rfl d_X8_shape_164 ?_
    refine x_aload_n rfl d_X8_shape_166 ?_
    refine x_getf co_all (v := .ref (b + 7)) d_X8_shape_167 fk_8_32 (o8_o H) rfl ?_
    refine x_bipush (v := nI 20) (by decide) d_X8_shape_170 ?_
    refine x_iload_n rfl d_X8_shape_172 ?_
    refine x_imulN d_X8_shape_173 ?_
    refine x_iload rfl d_X8_shape_174 ?_
    refine x_iaddN d_X8_shape_176 ?_
    refine x_iaload d_X8_shape_177 (o8_8 H) (nIx_nI (j := (20 * p) + r) (by omega) (by decide)) ?_
    refine x_icmp_geN (tgt := 225) d_X8_shape_178 (by decide) (by omega) (by omega) (fun c_1 => ?_) (fun c_1 => by exfalso; omega)
    have e0 : k = R p r 0 0 := by omega
    rw [e0] at W
    exact nG.sub (by exact (And.intro rfl (And.intro rfl (And.intro rfl (And.intro rfl (And.intro rfl (And.intro rfl (And.intro rfl True.intro)))))))) (kk h M F H W)
  | succ j ih =>
    intro k hk h M F H W
    have O2 := kO_TE O p r e k hz2
    obtain ⟨p1, p2, p3, p4, p5, p6, p7, p8⟩ := rW_p W O2 hp
    obtain ⟨r1, r2, r3, r4, r5, r6⟩ := rW_r W O2 hp (r := r) (by omega)
    rw [uP_eq, uR_eq, rTE_00] at r3 r4
    refine x_iload rfl d_X8_shape_164 ?_
    refine x_aload_n rfl d_X8_shape_166 ?_
    refine x_getf co_all (v := .ref (b + 7)) d_X8_shape_167 fk_8_32 (o8_o H) rfl ?_
    refine x_bipush (v := nI 20) (by decide) d_X8_shape_170 ?_
    refine x_iload_n rfl d_X8_shape_172 ?_
    refine x_imulN d_X8_shape_173 ?_
    refine x_iload rfl d_X8_shape_174 ?_
    refine x_iaddN d_X8_shape_176 ?_
    refine x_iaload d_X8_shape_177 (o8_8 H) (nIx_nI (j := (20 * p) + r) (by omega) (by decide)) ?_
    refine x_icmp_geN (tgt := 225) d_X8_shape_178 (by decide) (by omega) (by omega) (fun c_1 => by exfalso; omega) (fun c_1 => ?_)
    refine x_aload_n rfl d_X8_shape_181 ?_
    refine x_iload_n rfl d_X8_shape_182 ?_
    refine x_iload rfl d_X8_shape_183 ?_
    refine x_iload rfl d_X8_shape_185 ?_
    refine x_rdS d_X8_shape_187 lk_8_99 mo_X8_at sc_X8_at (sp_at) rfl ⟨Nat.le_of_ble_eq_true rfl, Nat.le_of_ble_eq_true rfl⟩ rfl rfl (Nat.zero_le _) (Nat.zero_le _) (Nat.le_of_ble_eq_true rfl) rfl ?_
    refine x_iload rfl d_X8_shape_190 ?_
    refine x_iconst (v := nI 1) (by decide) d_X8_shape_192 ?_
    refine x_iaddN d_X8_shape_193 ?_
    refine x_iload_n rfl d_X8_shape_194 ?_
    refine x_iremN d_X8_shape_195 (by omega) (by omega) (by omega) ?_
    refine x_if_neN (tgt := 215) d_X8_shape_196 (by decide) (by have := Nat.mod_lt (k + 1) (show e > 0 by omega); omega) (fun c_2 => ?_) (fun c_2 => ?_)
    · refine x_iconst (v := nI 0) (by decide) d_X8_shape_215 ?_
      refine x_wvV d_X8_shape_216 lk_8_122 mo_X8_becomes vi_X8_becomes (sp_becomes H (x := 24 * (20 * p + r) + k) (z := 0) (by omega) (by omega)) (o8_o H) ⟨_, rfl, rfl⟩ rfl ⟨Nat.le_of_ble_eq_true rfl, Nat.le_of_ble_eq_true rfl⟩ (Nat.zero_le _) (Nat.zero_le _) (Nat.le_of_ble_eq_true rfl) rfl (fun h3 hq_ e3a e3b => ?_)
      obtain ⟨G3, H3⟩ := hq_
      have F3 := (F).tr G3
      refine x_iincN (m := 1) d_X8_shape_219 rfl (by decide) (Nat.le_of_ble_eq_true rfl) ?_
      refine x_goto (tgt := 164) d_X8_shape_222 (by decide) ?_
      refine nG.eq (ls2 := [some (.ref (b)), some (.int (nI (p))), some (.int (nI (n))), some (.int (nI (e))), some (.int (nI (z))), none, none, some (.int (nI (i))), some (.int (nI (r))), some (.int (nI (k + 1)))]) rfl rfl rfl rfl rfl (ih (k + 1) (by omega) _ _ F3 H3 (rW_te W hp (by omega) (by omega) ?_))
      unfold tke
      exact if_neg (by omega)
    · refine x_iload rfl d_X8_shape_199 ?_
      refine x_iconst (v := nI 2) (by decide) d_X8_shape_201 ?_
      refine x_icmp_neN (tgt := 210) d_X8_shape_202 (by decide) (by omega) (by omega) (fun c_3 => ?_) (fun c_3 => ?_)
      · refine x_iload rfl d_X8_shape_210 ?_
        refine x_goto (tgt := 216) d_X8_shape_212 (by decide) ?_
        refine x_wvV d_X8_shape_216 lk_8_122 mo_X8_becomes vi_X8_becomes (sp_becomes H (x := 24 * (20 * p + r) + k) (z := z) (by omega) (by omega)) (o8_o H) ⟨_, rfl, rfl⟩ rfl ⟨Nat.le_of_ble_eq_true rfl, Nat.le_of_ble_eq_true rfl⟩ (Nat.zero_le _) (Nat.zero_le _) (Nat.le_of_ble_eq_true rfl) rfl (fun h3 hq_ e3a e3b => ?_)
        obtain ⟨G3, H3⟩ := hq_
        have F3 := (F).tr G3
        refine x_iincN (m := 1) d_X8_shape_219 rfl (by decide) (Nat.le_of_ble_eq_true rfl) ?_
        refine x_goto (tgt := 164) d_X8_shape_222 (by decide) ?_
        refine nG.eq (ls2 := [some (.ref (b)), some (.int (nI (p))), some (.int (nI (n))), some (.int (nI (e))), some (.int (nI (z))), none, none, some (.int (nI (i))), some (.int (nI (r))), some (.int (nI (k + 1)))]) rfl rfl rfl rfl rfl (ih (k + 1) (by omega) _ _ F3 H3 (rW_te W hp (by omega) (by omega) ?_))
        unfold tke
        rw [if_pos (by omega)]
      · refine x_iload rfl d_X8_shape_205 ?_
        refine x_if_eqN (tgt := 215) d_X8_shape_207 (by decide) (by omega) (fun c_4 => ?_) (fun c_4 => ?_)
        · refine x_iconst (v := nI 0) (by decide) d_X8_shape_215 ?_
          refine x_wvV d_X8_shape_216 lk_8_122 mo_X8_becomes vi_X8_becomes (sp_becomes H (x := 24 * (20 * p + r) + k) (z := 0) (by omega) (by omega)) (o8_o H) ⟨_, rfl, rfl⟩ rfl ⟨Nat.le_of_ble_eq_true rfl, Nat.le_of_ble_eq_true rfl⟩ (Nat.zero_le _) (Nat.zero_le _) (Nat.le_of_ble_eq_true rfl) rfl (fun h3 hq_ e3a e3b => ?_)
          obtain ⟨G3, H3⟩ := hq_
          have F3 := (F).tr G3
          refine x_iincN (m := 1) d_X8_shape_219 rfl (by decide) (Nat.le_of_ble_eq_true rfl) ?_
          refine x_goto (tgt := 164) d_X8_shape_222 (by decide) ?_
          refine nG.eq (ls2 := [some (.ref (b)), some (.int (nI (p))), some (.int (nI (n))), some (.int (nI (e))), some (.int (nI (z))), none, none, some (.int (nI (i))), some (.int (nI (r))), some (.int (nI (k + 1)))]) rfl rfl rfl rfl rfl (ih (k + 1) (by omega) _ _ F3 H3 (rW_te W hp (by omega) (by omega) ?_))
          unfold tke
          exact if_neg (by omega)
        · refine x_iload rfl d_X8_shape_210 ?_
          refine x_goto (tgt := 216) d_X8_shape_212 (by decide) ?_
          refine x_wvV d_X8_shape_216 lk_8_122 mo_X8_becomes vi_X8_becomes (sp_becomes H (x := 24 * (20 * p + r) + k) (z := z) (by omega) (by omega)) (o8_o H) ⟨_, rfl, rfl⟩ rfl ⟨Nat.le_of_ble_eq_true rfl, Nat.le_of_ble_eq_true rfl⟩ (Nat.zero_le _) (Nat.zero_le _) (Nat.le_of_ble_eq_true rfl) rfl (fun h3 hq_ e3a e3b => ?_)
          obtain ⟨G3, H3⟩ := hq_
          have F3 := (F).tr G3
          refine x_iincN (m := 1) d_X8_shape_219 rfl (by decide) (Nat.le_of_ble_eq_true rfl) ?_
          refine x_goto (tgt := 164) d_X8_shape_222 (by decide) ?_
          refine nG.eq (ls2 := [some (.ref (b)), some (.int (nI (p))), some (.int (nI (n))), some (.int (nI (e))), some (.int (nI (z))), none, none, some (.int (nI (i))), some (.int (nI (r))), some (.int (nI (k + 1)))]) rfl rfl rfl rfl rfl (ih (k + 1) (by omega) _ _ F3 H3 (rW_te W hp (by omega) (by omega) ?_))
          unfold tke
          rw [if_pos (by omega)]
theorem lp_shrow {h0 : nPH} {D0 : va_G} {B0 : Nat} {Post : Option Value → nPH → Prop} {b : Nat} {V : Nat → Nat → Nat} {P : Nat → Nat → Nat → Nat} {R : Nat → Nat → Nat → Nat → Nat} {E Y T S : Nat → Nat → Nat} (O : kO V P R) {p r n e z i : Nat} (hp : p < V 1 0) (hre : P p 5 0 = r + 1) (he : 1 ≤ e) (he2 : e ≤ 24) (hz : 1 ≤ z) (hz2 : z ≤ 2) (hi : i < 20) (hnn : n < 20) (z0 : Nat) (h20 : r + 1 < 20) (h01 : 1 ≤ R p r 0 0) (hs1 : 1 ≤ shp (R p r 0 0) e z) (hs2 : shp (R p r 0 0) e z ≤ 24) (kk : ∀ (h : nPH) (M : Nat → Nat → Nat), nFr (nIv b 24) h0 h → o8 h b M → rW M V (uP P p (pAp (P p) z0)) (uP R p (uR (uR (R p) r (shA e z (R p r))) (r + 1) (shN (shA e z (R p r))))) E Y T S → nG YX8_shape (nKy YX8_shape D0 B0 Post) 0 0 145 [some (.ref (b)), some (.int (nI (p))), some (.int (nI (n))), some (.int (nI (e))), some (.int (nI (z))), none, none, some (.int (nI (i + 1))), none, none] [] h) {h : nPH} {M : Nat → Nat → Nat} (F : nFr (nIv b 24) h0 h) (H : o8 h b M) (W : rW M V P R E Y T S) : nG YX8_shape (nKy YX8_shape D0 B0 Post) 0 0 151 [some (.ref (b)), some (.int (nI (p))), some (.int (nI (n))), some (.int (nI (e))), some (.int (nI (z))), none, none, some (.int (nI (i))), none, none] [] h := by
  obtain ⟨p1, p2, p3, p4, p5, p6, p7, p8⟩ := rW_p W O hp
  refine x_aload_n rfl d_X8_shape_151 ?_
  refine x_getf co_all (v := .ref (b + 1)) d_X8_shape_152 fk_8_13 (o8_o H) rfl ?_
  refine x_iload_n rfl d_X8_shape_155 ?_
  refine x_iaload d_X8_shape_156 (o8_2 H) (nIx_nI (j := p) (by omega) (by decide)) ?_
  refine x_iconst (v := nI 1) (by decide) d_X8_shape_157 ?_
  refine x_isubN d_X8_shape_158 (by omega) ?_
  rw [show M 2 p - 1 = r by omega]
  refine x_istore d_X8_shape_159 (Nat.le_of_ble_eq_true rfl) ?_
  refine x_iconst (v := nI 0) (by decide) d_X8_shape_161 ?_
  refine x_istore d_X8_shape_162 (Nat.le_of_ble_eq_true rfl) ?_
  refine lp_shk O hp hre he he2 hz hz2 hi hnn ?_ (R p r 0 0) 0 (Nat.zero_add _) _ _ F H (by rw [rTE_z, uRs, uPs]; exact W)
  clear H W F p1 p2 p4 p5 p8
  intro h M F H W
  have O2 := kO_TE O p r e (R p r 0 0) hz2
  have eo : off (rTE e z (R p r 0 0) (R p r)) (R p r 0 0) = shp (R p r 0 0) e z := offTE he hz hz2 _ _ _ (Nat.le_refl _) h01
  have e1 : P p 5 0 - 1 = r := by omega
  have eA : rTE e z (R p r 0 0) (R p r) = shA e z (R p r) := rfl
  have er := md_row H W O2 z0 hp (by omega) (by rw [uP_eq, e1, uR_eq, rTE_00, eo]; exact hs1) (by rw [uP_eq, e1, uR_eq, rTE_00, eo]; exact hs2)
  rw [uP_eq, uuP, e1, hre, uR_eq, eA, show rHG (shA e z (R p r)) (off (shA e z (R p r)) (shA e z (R p r) 0 0)) (rNew (off (shA e z (R p r)) (shA e z (R p r) 0 0))) = shN (shA e z (R p r)) from rfl] at er
  refine x_aload_n rfl d_X8_shape_225 ?_
  refine x_iload_n rfl d_X8_shape_226 ?_
  refine x_wvV d_X8_shape_227 lk_8_131 mo_X8_row vi_X8_row er (o8_o H) ⟨_, rfl, rfl⟩ rfl ⟨Nat.le_of_ble_eq_true rfl, Nat.le_of_ble_eq_true rfl⟩ (Nat.zero_le _) (Nat.zero_le _) (Nat.le_of_ble_eq_true rfl) rfl (fun h5 hq_ e5a e5b => ?_)
  obtain ⟨G5, M5, H5, W5⟩ := hq_
  have F5 := F.tr G5
  refine x_istore d_X8_shape_230 (Nat.le_of_ble_eq_true rfl) ?_
  refine x_iincN (m := 1) d_X8_shape_232 rfl (by decide) (Nat.le_of_ble_eq_true rfl) ?_
  refine x_goto (tgt := 145) d_X8_shape_235 (by decide) ?_
  exact nG.sub (by exact (And.intro rfl (And.intro rfl (And.intro rfl (And.intro rfl (And.intro rfl (And.intro rfl True.intro))))))) (kk _ M5 F5 H5 W5)
theorem lp_shO {h0 : nPH} {b : Nat} {V : Nat → Nat → Nat} {P : Nat → Nat → Nat → Nat} {R : Nat → Nat → Nat → Nat → Nat} {E Y T S : Nat → Nat → Nat} (O : kO V P R) {p n e z z0 v0 : Nat} (hp : p < V 1 0) (he : 1 ≤ e) (he2 : e ≤ 24) (hz : 1 ≤ z) (hz2 : z ≤ 2) (hn1 : 1 ≤ n) (hn2 : P p 5 0 + n ≤ 20) (hv : R p (P p 5 0 - 1) 0 0 = v0) (h0v : 1 ≤ v0) (hs : shB v0 e z n) : ∀ m i : Nat, i + m = n → ∀ (h : nPH) (M : Nat → Nat → Nat), nFr (nIv b 24) h0 h → o8 h b M → rW M V (uP P p (shP (P p) z0 i)) (uP R p (shR e z (P p 5 0) (R p) i)) E Y T S → kO V (uP P p (shP (P p) z0 i)) (uP R p (shR e z (P p 5 0) (R p) i)) → nG YX8_shape (nKy YX8_shape h0.1 h0.2.1 (fun v h2 => v = some (.int (nI (shI v0 e z n))) ∧ nFr (nIv b 24) h0 h2 ∧ ∃ M2, o8 h2 b M2 ∧ rW M2 V (uP P p (shP (P p) z0 n)) (uP R p (shR e z (P p 5 0) (R p) n)) E Y T S)) 0 0 145 [some (.ref (b)), some (.int (nI (p))), some (.int (nI (n))), some (.int (nI (e))), some (.int (nI (z))), none, none, some (.int (nI (i))), none, none] [] h := by
  intro m
  have hm1 := (O.2.2.2 p hp).1
  induction m with
  | zero =>
    intro i hi h M F H W O2
    have e0 : i = n := by omega
    subst e0
    obtain ⟨p1, p2, p3, p4, p5, p6, p7, p8⟩ := rW_p W O2 hp
    obtain ⟨l1, l2⟩ := shR_l he hz hz2 hm1 hv h0v hs i (by omega)
    have e5 : uP P p (shP (P p) z0 i) p 5 0 = P p 5 0 + i := by rw [uP_eq, shP_5]
    obtain ⟨r1, r2, r3, r4, r5, r6⟩ := rW_r W O2 hp (r := P p 5 0 + i - 1) (by omega)
    rw [uP_eq] at r3 r4
    refine x_iload rfl d_X8_shape_145 ?_
    refine x_iload_n rfl d_X8_shape_147 ?_
    refine x_icmp_geN (tgt := 238) d_X8_shape_148 (by decide) (by omega) (by omega) (fun c_1 => ?_) (fun c_1 => by exfalso; omega)
    refine x_aload_n rfl d_X8_shape_238 ?_
    refine x_getf co_all (v := .ref (b + 7)) d_X8_shape_239 fk_8_32 (o8_o H) rfl ?_
    refine x_bipush (v := nI 20) (by decide) d_X8_shape_242 ?_
    refine x_iload_n rfl d_X8_shape_244 ?_
    refine x_imulN d_X8_shape_245 ?_
    refine x_aload_n rfl d_X8_shape_246 ?_
    refine x_getf co_all (v := .ref (b + 1)) d_X8_shape_247 fk_8_13 (o8_o H) rfl ?_
    refine x_iload_n rfl d_X8_shape_250 ?_
    refine x_iaload d_X8_shape_251 (o8_2 H) (nIx_nI (j := p) (by omega) (by decide)) ?_
    refine x_iaddN d_X8_shape_252 ?_
    refine x_iconst (v := nI 1) (by decide) d_X8_shape_253 ?_
    refine x_isubN d_X8_shape_254 (by omega) ?_
    rw [show 20 * p + M 2 p - 1 = 20 * p + (P p 5 0 + i - 1) by omega]
    refine x_iaload d_X8_shape_255 (o8_8 H) (nIx_nI (j := 20 * p + (P p 5 0 + i - 1)) (by omega) (by decide)) ?_
    exact x_ireturn d_X8_shape_256 rfl rfl F.1 F.2.1 (Nat.zero_le _) (Nat.zero_le _) (⟨by rw [r3, l1], F, _, H, W⟩)
  | succ m ih =>
    intro i hi h M F H W O2
    obtain ⟨p1, p2, p3, p4, p5, p6, p7, p8⟩ := rW_p W O2 hp
    obtain ⟨l1, l2⟩ := shR_l he hz hz2 hm1 hv h0v hs i (by omega)
    have e5 : uP P p (shP (P p) z0 i) p 5 0 = P p 5 0 + i := by rw [uP_eq, shP_5]
    obtain ⟨r1, r2, r3, r4, r5, r6⟩ := rW_r W O2 hp (r := P p 5 0 + i - 1) (by omega)
    rw [uP_eq] at r3 r4
    refine x_iload rfl d_X8_shape_145 ?_
    refine x_iload_n rfl d_X8_shape_147 ?_
    refine x_icmp_geN (tgt := 238) d_X8_shape_148 (by decide) (by omega) (by omega) (fun c_1 => by exfalso; omega) (fun c_1 => ?_)
    have hre : uP P p (shP (P p) z0 i) p 5 0 = (P p 5 0 + i - 1) + 1 := by omega
    have l3 : uP R p (shR e z (P p 5 0) (R p) i) p (P p 5 0 + i - 1) 0 0 = shI v0 e z i := by rw [uP_eq]; exact l1
    have hs2 := hs i (by omega)
    refine lp_shrow O2 hp hre he he2 hz hz2 (by omega) (by omega) (z0 + 7 * i) (by omega) (by rw [l3]; exact l2) (by rw [l3]; exact hs2.1) (by rw [l3]; exact hs2.2) ?_ F H W
    intro h3 M3 F3 H3 W3
    have O3 := kO_rw (kO_TE O2 p (P p 5 0 + i - 1) e (uP R p (shR e z (P p 5 0) (R p) i) p (P p 5 0 + i - 1) 0 0) hz2) (z0 + 7 * i) hp hre (by omega) rfl (by rw [uP_eq, uR_eq, rTE_00, offTE he hz hz2 _ _ _ (Nat.le_refl _) (by rw [l3]; exact l2), l3]; exact hs2.1) (by rw [uP_eq, uR_eq, rTE_00, offTE he hz hz2 _ _ _ (Nat.le_refl _) (by rw [l3]; exact l2), l3]; exact hs2.2)
    rw [uP_eq, uuP, uP_eq, uuP, show P p 5 0 + i - 1 + 1 = P p 5 0 + i by omega] at W3
    rw [uP_eq, uuP, uP_eq, uuP, uP_eq, uuP, uR_eq, show P p 5 0 + i - 1 + 1 = P p 5 0 + i by omega] at O3
    exact ih (i + 1) (by omega) h3 M3 F3 H3 W3 O3
theorem md_shape {h : nPH} {b : Nat} {M V : Nat → Nat → Nat} {P : Nat → Nat → Nat → Nat} {R : Nat → Nat → Nat → Nat → Nat} {E Y T S : Nat → Nat → Nat} (H : o8 h b M) (W : rW M V P R E Y T S) (O : kO V P R) (z0 : Nat) {p : Nat} (hp : p < V 1 0) {n : Nat} (hn1 : 1 ≤ n) (hn2 : n ≤ 19) {e z : Nat} (he : 1 ≤ e) (he2 : e ≤ 24) (hz : 1 ≤ z) (hz2 : z ≤ 2) (hp0 : 1 ≤ (R p (P p 5 0 - 1) 0 0)) (hn3 : P p 5 0 + n ≤ 20) (hs : shB (R p (P p 5 0 - 1) 0 0) e z n) : nWv YX8_shape [.ref b, .int (nI p), .int (nI n), .int (nI e), .int (nI z)] h (some (.int (nI (shI (R p (P p 5 0 - 1) 0 0) e z n)))) (fun h2 => nFr (nIv b 24) h h2 ∧ ∃ M2, o8 h2 b M2 ∧ rW M2 V (uP P p (shP (P p) z0 n)) (uP R p (shR e z (P p 5 0) (R p) n)) E Y T S) := by
  obtain ⟨p1, p2, p3, p4, p5, p6, p7, p8⟩ := rW_p W O hp
  have hr : P p 5 0 - 1 < P p 5 0 := by omega
  obtain ⟨r1, r2, r3, r4, r5, r6⟩ := rW_r W O hp hr
  obtain ⟨v0, hv⟩ : ∃ v0, R p (P p 5 0 - 1) 0 0 = v0 := ⟨_, rfl⟩
  rw [hv] at hp0 hs r3 r4 ⊢
  refine nSp_of (by decide +kernel) rfl (Nat.le_of_ble_eq_true rfl) (ls := [some (.ref (b)), some (.int (nI (p))), some (.int (nI (n))), some (.int (nI (e))), some (.int (nI (z))), none, none, none, none, none]) (by exact (And.intro rfl (And.intro rfl (And.intro rfl (And.intro rfl (And.intro rfl True.intro)))))) ?_
  refine x_aload_n rfl d_X8_shape_0 ?_
  refine x_iload_n rfl d_X8_shape_1 ?_
  refine x_rdV d_X8_shape_2 lk_8_91 mo_X8_isPanel vi_X8_isPanel (sp_isPanel H p2 p1) (o8_o H) ⟨_, rfl, rfl⟩ rfl ⟨Nat.le_of_ble_eq_true rfl, Nat.le_of_ble_eq_true rfl⟩ rfl rfl (Nat.zero_le _) (Nat.zero_le _) (Nat.le_of_ble_eq_true rfl) rfl ?_
  refine x_if_eqN (tgt := 42) d_X8_shape_5 (by decide) (by omega) (fun c_1 => by exfalso; omega) (fun c_1 => ?_)
  refine x_iload_n rfl d_X8_shape_8 ?_
  refine x_iconst (v := nI 1) (by decide) d_X8_shape_9 ?_
  refine x_icmp_ltN (tgt := 42) d_X8_shape_10 (by decide) (by omega) (by omega) (fun c_2 => by exfalso; omega) (fun c_2 => ?_)
  refine x_iload_n rfl d_X8_shape_13 ?_
  refine x_bipush (v := nI 19) (by decide) d_X8_shape_14 ?_
  refine x_icmp_gtN (tgt := 42) d_X8_shape_16 (by decide) (by omega) (by omega) (fun c_3 => by exfalso; omega) (fun c_3 => ?_)
  refine x_iload_n rfl d_X8_shape_19 ?_
  refine x_iconst (v := nI 1) (by decide) d_X8_shape_20 ?_
  refine x_icmp_ltN (tgt := 42) d_X8_shape_21 (by decide) (by omega) (by omega) (fun c_4 => by exfalso; omega) (fun c_4 => ?_)
  refine x_iload_n rfl d_X8_shape_24 ?_
  refine x_bipush (v := nI 24) (by decide) d_X8_shape_25 ?_
  refine x_icmp_gtN (tgt := 42) d_X8_shape_27 (by decide) (by omega) (by omega) (fun c_5 => by exfalso; omega) (fun c_5 => ?_)
  refine x_iload rfl d_X8_shape_30 ?_
  refine x_iconst (v := nI 1) (by decide) d_X8_shape_32 ?_
  refine x_icmp_ltN (tgt := 42) d_X8_shape_33 (by decide) (by omega) (by omega) (fun c_6 => by exfalso; omega) (fun c_6 => ?_)
  refine x_iload rfl d_X8_shape_36 ?_
  refine x_iconst (v := nI 2) (by decide) d_X8_shape_38 ?_
  refine x_icmp_leN (tgt := 44) d_X8_shape_39 (by decide) (by omega) (by omega) (fun c_7 => ?_) (fun c_7 => by exfalso; omega)
  refine x_aload_n rfl d_X8_shape_44 ?_
  refine x_getf co_all (v := .ref (b + 7)) d_X8_shape_45 fk_8_32 (o8_o H) rfl ?_
  refine x_bipush (v := nI 20) (by decide) d_X8_shape_48 ?_
  refine x_iload_n rfl d_X8_shape_50 ?_
  refine x_imulN d_X8_shape_51 ?_
  refine x_aload_n rfl d_X8_shape_52 ?_
  refine x_getf co_all (v := .ref (b + 1)) d_X8_shape_53 fk_8_13 (o8_o H) rfl ?_
  refine x_iload_n rfl d_X8_shape_56 ?_
  refine x_iaload d_X8_shape_57 (o8_2 H) (nIx_nI (j := p) (by omega) (by decide)) ?_
  refine x_iaddN d_X8_shape_58 ?_
  refine x_iconst (v := nI 1) (by decide) d_X8_shape_59 ?_
  refine x_isubN d_X8_shape_60 (by omega) ?_
  rw [show 20 * p + M 2 p - 1 = 20 * p + (P p 5 0 - 1) by omega]
  refine x_iaload d_X8_shape_61 (o8_8 H) (nIx_nI (j := 20 * p + (P p 5 0 - 1)) (by omega) (by decide)) ?_
  rw [r3]
  refine x_i2lN d_X8_shape_62 (by omega) ?_
  refine x_lstore d_X8_shape_63 (Nat.le_of_ble_eq_true rfl) ?_
  refine x_lload rfl d_X8_shape_65 ?_
  refine x_lconst (v := lN 0) (by decide) d_X8_shape_67 ?_
  refine x_lcmp d_X8_shape_68 ?_
  refine x_lif_eqN (tgt := 85) d_X8_shape_69 (by decide) (by omega) (by omega) (fun c_8 => by exfalso; omega) (fun c_8 => ?_)
  refine x_aload_n rfl d_X8_shape_72 ?_
  refine x_getf co_all (v := .ref (b + 1)) d_X8_shape_73 fk_8_13 (o8_o H) rfl ?_
  refine x_iload_n rfl d_X8_shape_76 ?_
  refine x_iaload d_X8_shape_77 (o8_2 H) (nIx_nI (j := p) (by omega) (by decide)) ?_
  refine x_iload_n rfl d_X8_shape_78 ?_
  refine x_iaddN d_X8_shape_79 ?_
  refine x_bipush (v := nI 20) (by decide) d_X8_shape_80 ?_
  refine x_icmp_leN (tgt := 87) d_X8_shape_82 (by decide) (by omega) (by omega) (fun c_9 => ?_) (fun c_9 => by exfalso; omega)
  refine x_iconst (v := nI 0) (by decide) d_X8_shape_87 ?_
  refine x_istore d_X8_shape_88 (Nat.le_of_ble_eq_true rfl) ?_
  refine lp_mshS hp0 r4 hn2 he he2 hz hz2 (fun i hi => (hs i hi).2) ?_ n 0 (Nat.zero_add _) (show v0 ≤ 24 from r4)
  refine x_iconst (v := nI 0) (by decide) d_X8_shape_142 ?_
  refine x_istore d_X8_shape_143 (Nat.le_of_ble_eq_true rfl) ?_
  exact nG.sub (by exact (And.intro rfl (And.intro rfl (And.intro rfl (And.intro rfl (And.intro rfl (And.intro rfl True.intro))))))) (lp_shO (z0 := z0) O hp he he2 hz hz2 hn1 hn3 hv hp0 hs n 0 (Nat.zero_add _) h M nFr.rf H (by show rW M V (uP P p (P p)) (uP R p (R p)) E Y T S; rw [uPs, uPs]; exact W) (by show kO V (uP P p (P p)) (uP R p (R p)); rw [uPs, uPs]; exact O))
