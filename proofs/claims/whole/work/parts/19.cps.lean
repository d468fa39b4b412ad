/-! copies of rows; taper; seam -/
def apR (R S : Nat → Nat → Nat → Nat) (m : Nat) : Nat → Nat → Nat → Nat → Nat
  | 0 => R
  | i + 1 => uR (apR R S m i) (m + i) (rCp 6 (S i))
theorem lp_appC {h0 : nPH} {a b : Nat} {P Q : Nat → Nat → Nat} {R S : Nat → Nat → Nat → Nat} (h20 : P 5 0 + Q 5 0 ≤ 20) (hab : ap b 3 a 3) (hab2 : ∀ r, r < Q 5 0 → ap (Q 4 r) 7 a 3) (hw0 : nWF h0) (Wb : pW h0 b Q S) : ∀ m i : Nat, ∀ h : nPH, i + m = Q 5 0 → nGr (nIv a 3) h0 h (7 * i) → pW h a (shP P h0.2.2.1 i) (apR R S (P 5 0) i) → nG YX2_appendCopies (nKy YX2_appendCopies h0.1 h0.2.1 (fun v h2 => v = none ∧ nGr (nIv a 3) h0 h2 (7 * Q 5 0) ∧ pW h2 a (shP P h0.2.2.1 (Q 5 0)) (apR R S (P 5 0) (Q 5 0)))) (7 * i) (151 * i) 2 [some (.ref (a)), some (.ref (b)), some (.int (nI (i))), none] [] h := by
  intro m
  induction m with
  | zero =>
    intro i h hi G W
    have ei : i = Q 5 0 := by omega
    have Wb2 : pW h b Q S := pW_gr Wb hw0 G (ap_fr (S := fun _ => True) hab) (fun r hr => ap_fr (S := fun _ => True) (hab2 r hr))
    obtain ⟨HQ, hnQ, HS, hapS⟩ := id Wb2
    have e5 := shP_5 P h0.2.2.1 i
    have hw := G.2.2.2.1
    rw [ei] at G W ⊢
    refine x_iload_n rfl d_X2_appendCopies_2 ?_
    refine x_aload_n rfl d_X2_appendCopies_3 ?_
    refine x_getf co_all (v := .int (nI (Q 5 0))) d_X2_appendCopies_4 fk_2_34 (o2_o HQ) rfl ?_
    refine x_icmp_geN (tgt := 34) d_X2_appendCopies_7 (by decide) (by omega) (by omega) (fun c_1 => ?_) (fun c_1 => by exfalso; omega)
    exact x_return d_X2_appendCopies_34 rfl G.1 G.2.1 (by show _ ≤ (_ : Nat); simp only [nCe, nSl, YX2_appendCopies]; omega) (by show _ ≤ (_ : Nat); simp only [nCe, nSl, YX2_appendCopies]; omega) (⟨rfl, G, W⟩)
  | succ m ih =>
    intro i h hi G W
    have Wb2 : pW h b Q S := pW_gr Wb hw0 G (ap_fr (S := fun _ => True) hab) (fun r hr => ap_fr (S := fun _ => True) (hab2 r hr))
    obtain ⟨HQ, hnQ, HS, hapS⟩ := id Wb2
    have e5 := shP_5 P h0.2.2.1 i
    have hw := G.2.2.2.1
    have hiQ : i < Q 5 0 := by omega
    have HL := HS i hiQ
    have ez : h.2.2.1 = h0.2.2.1 + 7 * i := G.2.2.1
    have hal := o2_lt W.1 hw
    refine x_iload_n rfl d_X2_appendCopies_2 ?_
    refine x_aload_n rfl d_X2_appendCopies_3 ?_
    refine x_getf co_all (v := .int (nI (Q 5 0))) d_X2_appendCopies_4 fk_2_34 (o2_o HQ) rfl ?_
    refine x_icmp_geN (tgt := 34) d_X2_appendCopies_7 (by decide) (by omega) (by omega) (fun c_1 => by exfalso; omega) (fun c_1 => ?_)
    refine x_aload_n rfl d_X2_appendCopies_10 ?_
    refine x_iload_n rfl d_X2_appendCopies_11 ?_
    refine x_rdV d_X2_appendCopies_12 lk_2_41 mo_X2_rowAt vi_X2_rowAt (sp_rowAt HQ hnQ hiQ) (o2_o HQ) ⟨_, rfl, rfl⟩ rfl ⟨Nat.le_of_ble_eq_true rfl, Nat.le_of_ble_eq_true rfl⟩ rfl rfl (by show 7 * i ≤ 140; omega) (by show 151 * i ≤ 3020; omega) (Nat.le_of_ble_eq_true rfl) rfl ?_
    refine x_astore_n d_X2_appendCopies_15 (Nat.le_of_ble_eq_true rfl) ?_
    refine x_aload_n rfl d_X2_appendCopies_16 ?_
    refine x_ifnull d_X2_appendCopies_17 ?_
    refine x_aload_n rfl d_X2_appendCopies_20 ?_
    refine x_aload_n rfl d_X2_appendCopies_21 ?_
    refine x_wvV d_X2_appendCopies_22 lk_2_49 mo_X3_copied vi_X3_copied (sp_copied HL.1 hw HL.2.1.1) (o3_o HL.1) ⟨_, rfl, rfl⟩ rfl ⟨Nat.le_of_ble_eq_true rfl, Nat.le_of_ble_eq_true rfl⟩ (by show 7 * i + 7 ≤ 140; omega) (by show 151 * i + 151 ≤ 3020; omega) (Nat.le_of_ble_eq_true rfl) rfl (fun h2 hp e1 e2 => ?_)
    obtain ⟨M, HN⟩ := hp
    have W2 : o2 h2 a (shP P h0.2.2.1 i) := o2_kept W.1 M.2.1 (fun q g1 g2 => M.2.2.2.1 q (by omega))
    refine x_wvV d_X2_appendCopies_25 lk_2_53 mo_X2_append vi_X2_append (sp_append W2 (by omega) HN) (o2_o W2) ⟨_, rfl, rfl⟩ rfl ⟨Nat.le_of_ble_eq_true rfl, Nat.le_of_ble_eq_true rfl⟩ (by show 7 * i + 7 + 0 ≤ 140; omega) (by show 151 * i + 151 + 0 ≤ 3020; omega) (Nat.le_of_ble_eq_true rfl) rfl (fun h3 hp e3 e4 => ?_)
    obtain ⟨F3, H3⟩ := hp
    have G2 := ((G.tr (T := nIv a 3) (nGr.mk M) (fun q _ g => g)).tr (T := nIv a 3) (nGr.of F3 M.2.2.2.2) (fun q _ g => g))
    have G3 : nGr (nIv a 3) h0 h3 (7 * (i + 1)) := by rw [show 7 * i + 7 + 0 = 7 * (i + 1) by omega] at G2; exact G2
    have W3 : pW h3 a (shP P h0.2.2.1 (i + 1)) (apR R S (P 5 0) (i + 1)) := by
      have := pW_app (z := h.2.2.1) W hw (Nat.le_refl _) (by omega) (fun q g1 g2 => (F3.2.2.2.2 q g2).trans (M.2.2.2.1 q g1)) (F3.2.1.trans M.2.1) H3 (o3_fr HN F3 (fun q g1 g2 g3 => by have := g3.2; omega)) (rOK_cp HL.2.1)
      rw [e5, ez] at this
      exact this
    refine x_iincN (m := 1) d_X2_appendCopies_28 rfl (by decide) (Nat.le_of_ble_eq_true rfl) ?_
    refine x_goto (tgt := 2) d_X2_appendCopies_31 (by decide) ?_
    refine nG.eq rfl rfl rfl (show _ = 7 * (i + 1) from ?_) (show _ = 151 * (i + 1) from ?_) (nG.sub (by exact (And.intro rfl (And.intro rfl (And.intro rfl True.intro)))) (ih (i + 1) h3 (by omega) G3 W3))
    · show 7 * i + 7 + 0 = _; omega
    · show 151 * i + 151 + 0 = _; omega
theorem sp_appC {h : nPH} {a b : Nat} {P Q : Nat → Nat → Nat} {R S : Nat → Nat → Nat → Nat} (h20 : P 5 0 + Q 5 0 ≤ 20) (hab : ap b 3 a 3) (hab2 : ∀ r, r < Q 5 0 → ap (Q 4 r) 7 a 3) (hw : nWF h) (Wa : pW h a P R) (Wb : pW h b Q S) : nWv YX2_appendCopies [.ref a, .ref b] h none (fun h2 => nGr (nIv a 3) h h2 (7 * Q 5 0) ∧ pW h2 a (shP P h.2.2.1 (Q 5 0)) (apR R S (P 5 0) (Q 5 0))) := by
  refine nSp_of (by decide +kernel) rfl (Nat.le_of_ble_eq_true rfl) (ls := [some (.ref (a)), some (.ref (b)), none, none]) (by exact (And.intro rfl (And.intro rfl True.intro))) ?_
  refine x_iconst (v := nI 0) (by decide) d_X2_appendCopies_0 ?_
  refine x_istore_n d_X2_appendCopies_1 (Nat.le_of_ble_eq_true rfl) ?_
  exact nG.sub (by exact (And.intro rfl (And.intro rfl (And.intro rfl True.intro)))) (lp_appC h20 hab hab2 hw Wb (Q 5 0) 0 h (by omega) (nGr.rf hw) Wa)
/-- t for a taper of l rows -/
def tpT (u l d : Nat) : Nat := (u * l + d - 1) / d
def tpH (u l d : Nat) : Prop := d * tpT u l d / l = u
theorem tpT_le {u l d : Nat} (hl : l ≤ d) (hd : 1 ≤ d) : tpT u l d ≤ u := by
  unfold tpT
  have : u * l ≤ u * d := Nat.mul_le_mul_left u hl
  have h2 : (u * l + d - 1) / d < u + 1 := by
    rw [Nat.div_lt_iff_lt_mul hd, Nat.succ_mul]
    omega
  omega
theorem tpH_d {u d : Nat} (hd : 1 ≤ d) : tpH u d d := by
  have e : tpT u d d = u := by
    unfold tpT
    rw [show u * d + d - 1 = (d - 1) + d * u by rw [Nat.mul_comm u d]; omega, Nat.add_mul_div_left _ _ (by omega), Nat.div_eq_of_lt (by omega)]
    omega
  unfold tpH
  rw [e]
  exact Nat.mul_div_cancel_left u (by omega)
theorem lp_find {h : nPH} {a : Nat} {D : Nat → Nat → Nat} (H : o5 h a D) {u d l0 : Nat} (hu : u < 1000) (hd : 1 ≤ d) (hd2 : d ≤ 400) (h1 : 1 ≤ l0) (h2 : l0 ≤ d) (hno : ∀ l, 1 ≤ l → l < l0 → ¬ tpH u l d) (hyes : tpH u l0 d) : ∀ n l : Nat, l + n = l0 → 1 ≤ l → nG YX5_find (nKy YX5_find h.1 h.2.1 (fun v h2 => v = some (.int (nI l0)) ∧ nFr (nIv a 1) h h2 ∧ o5 h2 a (u2 (u2 (u2 D 0 0 d) 1 0 l0) 2 0 (tpT u l0 d)))) 0 0 2 [some (.ref (a)), some (.int (nI (u))), some (.int (nI (d))), some (.int (nI (l))), none] [] h := by
  intro n
  induction n with
  | zero =>
    intro l hl hl1
    have el : l = l0 := by omega
    subst el
    have hul : u * l ≤ 1000 * 400 := Nat.mul_le_mul (by omega) (by omega)
    have htl := tpT_le (u := u) (l := l) (d := d) (by omega) hd
    have hdt : d * tpT u l d ≤ 400 * 1000 := Nat.mul_le_mul hd2 (by omega)
    have hdl : d * tpT u l d / l ≤ d * tpT u l d := Nat.div_le_self _ _
    refine x_iload_n rfl d_X5_find_2 ?_
    refine x_if_leN (tgt := 56) d_X5_find_3 (by decide) (by omega) (fun c_1 => by exfalso; omega) (fun c_1 => ?_)
    refine x_iload_n rfl d_X5_find_6 ?_
    refine x_iload_n rfl d_X5_find_7 ?_
    refine x_icmp_gtN (tgt := 56) d_X5_find_8 (by decide) (by omega) (by omega) (fun c_2 => by exfalso; omega) (fun c_2 => ?_)
    refine x_iload_n rfl d_X5_find_11 ?_
    refine x_iload_n rfl d_X5_find_12 ?_
    refine x_imulN d_X5_find_13 ?_
    refine x_iload_n rfl d_X5_find_14 ?_
    refine x_iaddN d_X5_find_15 ?_
    refine x_iconst (v := nI 1) (by decide) d_X5_find_16 ?_
    refine x_isubN d_X5_find_17 (by omega) ?_
    refine x_iload_n rfl d_X5_find_18 ?_
    refine x_idivN d_X5_find_19 hd (by omega) (by omega) ?_
    change nG _ _ _ _ _ _ (.int (nI (tpT u l d)) :: _) _
    refine x_istore d_X5_find_20 (Nat.le_of_ble_eq_true rfl) ?_
    refine x_iload_n rfl d_X5_find_22 ?_
    refine x_iload rfl d_X5_find_23 ?_
    refine x_imulN d_X5_find_25 ?_
    refine x_iload_n rfl d_X5_find_26 ?_
    refine x_idivN d_X5_find_27 (by omega) (by omega) (by omega) ?_
    refine x_iload_n rfl d_X5_find_28 ?_
    refine x_icmp_neN (tgt := 50) d_X5_find_29 (by decide) (by omega) (by omega) (fun c_3 => by exfalso; exact c_3 hyes) (fun c_3 => ?_)
    refine x_aload_n rfl d_X5_find_32 ?_
    refine x_iload_n rfl d_X5_find_33 ?_
    refine x_putf co_all d_X5_find_34 fk_5_9 ft_5_0 (o5_o H) (Nat.le_of_ble_eq_true rfl) rfl rfl (o5_B H) ?_
    have H4_5 := o5_put0 (d) H
    have f_5 := o5_g0 (d) H ((nFr.rf (S := nIv a 1) (h := h))) (by exact ⟨by omega, by omega⟩)
    refine x_aload_n rfl d_X5_find_37 ?_
    refine x_iload_n rfl d_X5_find_38 ?_
    refine x_putf co_all d_X5_find_39 fk_5_15 ft_5_1 (o5_o H4_5) (Nat.le_of_ble_eq_true rfl) rfl rfl (o5_B H4_5) ?_
    have H6_5 := o5_put1 (l) H4_5
    have f_7 := o5_g1 (l) H4_5 (f_5) (by exact ⟨by omega, by omega⟩)
    refine x_aload_n rfl d_X5_find_42 ?_
    refine x_iload rfl d_X5_find_43 ?_
    refine x_putf co_all d_X5_find_45 fk_5_18 ft_5_2 (o5_o H6_5) (Nat.le_of_ble_eq_true rfl) rfl rfl (o5_B H6_5) ?_
    have H8_5 := o5_put2 (tpT u l d) H6_5
    have f_9 := o5_g2 (tpT u l d) H6_5 (f_7) (by exact ⟨by omega, by omega⟩)
    refine x_iload_n rfl d_X5_find_48 ?_
    exact x_ireturn d_X5_find_49 rfl rfl (f_9).1 (f_9).2.1 (Nat.zero_le _) (Nat.zero_le _) (⟨rfl, f_9, H8_5⟩)
  | succ n ih =>
    intro l hl hl1
    have hul : u * l ≤ 1000 * 400 := Nat.mul_le_mul (by omega) (by omega)
    have htl := tpT_le (u := u) (l := l) (d := d) (by omega) hd
    have hdt : d * tpT u l d ≤ 400 * 1000 := Nat.mul_le_mul hd2 (by omega)
    have hdl : d * tpT u l d / l ≤ d * tpT u l d := Nat.div_le_self _ _
    refine x_iload_n rfl d_X5_find_2 ?_
    refine x_if_leN (tgt := 56) d_X5_find_3 (by decide) (by omega) (fun c_1 => by exfalso; omega) (fun c_1 => ?_)
    refine x_iload_n rfl d_X5_find_6 ?_
    refine x_iload_n rfl d_X5_find_7 ?_
    refine x_icmp_gtN (tgt := 56) d_X5_find_8 (by decide) (by omega) (by omega) (fun c_2 => by exfalso; omega) (fun c_2 => ?_)
    refine x_iload_n rfl d_X5_find_11 ?_
    refine x_iload_n rfl d_X5_find_12 ?_
    refine x_imulN d_X5_find_13 ?_
    refine x_iload_n rfl d_X5_find_14 ?_
    refine x_iaddN d_X5_find_15 ?_
    refine x_iconst (v := nI 1) (by decide) d_X5_find_16 ?_
    refine x_isubN d_X5_find_17 (by omega) ?_
    refine x_iload_n rfl d_X5_find_18 ?_
    refine x_idivN d_X5_find_19 hd (by omega) (by omega) ?_
    change nG _ _ _ _ _ _ (.int (nI (tpT u l d)) :: _) _
    refine x_istore d_X5_find_20 (Nat.le_of_ble_eq_true rfl) ?_
    refine x_iload_n rfl d_X5_find_22 ?_
    refine x_iload rfl d_X5_find_23 ?_
    refine x_imulN d_X5_find_25 ?_
    refine x_iload_n rfl d_X5_find_26 ?_
    refine x_idivN d_X5_find_27 (by omega) (by omega) (by omega) ?_
    refine x_iload_n rfl d_X5_find_28 ?_
    refine x_icmp_neN (tgt := 50) d_X5_find_29 (by decide) (by omega) (by omega) (fun c_3 => ?_) (fun c_3 => by exfalso; exact hno l hl1 (by omega) c_3)
    refine x_iincN (m := 1) d_X5_find_50 rfl (by decide) (Nat.le_of_ble_eq_true rfl) ?_
    refine x_goto (tgt := 2) d_X5_find_53 (by decide) ?_
    exact nG.sub (by exact (And.intro rfl (And.intro rfl (And.intro rfl (And.intro rfl True.intro))))) (ih (l + 1) (by omega) (by omega))
theorem sp_find {h : nPH} {a : Nat} {D : Nat → Nat → Nat} (H : o5 h a D) {u d l0 : Nat} (hu : u < 1000) (hd : 1 ≤ d) (hd2 : d ≤ 400) (h1 : 1 ≤ l0) (h2 : l0 ≤ d) (hno : ∀ l, 1 ≤ l → l < l0 → ¬ tpH u l d) (hyes : tpH u l0 d) : nWv YX5_find [.ref a, .int (nI u), .int (nI d)] h (some (.int (nI l0))) (fun h2 => nFr (nIv a 1) h h2 ∧ o5 h2 a (u2 (u2 (u2 D 0 0 d) 1 0 l0) 2 0 (tpT u l0 d))) := by
  refine nSp_of (by decide +kernel) rfl (Nat.le_of_ble_eq_true rfl) (ls := [some (.ref (a)), some (.int (nI (u))), some (.int (nI (d))), none, none]) (by exact (And.intro rfl (And.intro rfl (And.intro rfl True.intro)))) ?_
  refine x_iconst (v := nI 1) (by decide) d_X5_find_0 ?_
  refine x_istore_n d_X5_find_1 (Nat.le_of_ble_eq_true rfl) ?_
  exact nG.sub (by exact (And.intro rfl (And.intro rfl (And.intro rfl (And.intro rfl True.intro))))) (lp_find H hu hd hd2 h1 h2 hno hyes (l0 - 1) 1 (by omega) (by omega))
theorem sp_tell0 {h : nPH} {a : Nat} {D : Nat → Nat → Nat} (H : o5 h a D) (h0 : D 1 0 = 0) {q : Int32} : nRd YX5_tell [.ref (a), .int (q)] h (.int (-1)) := by
  refine nSp_of (by decide +kernel) rfl (Nat.le_of_ble_eq_true rfl) (ls := [some (.ref (a)), some (.int (q))]) (by exact (And.intro rfl (And.intro rfl True.intro))) ?_
  refine x_aload_n rfl d_X5_tell_0 ?_
  refine x_getf co_all (v := .int (nI (D 1 0))) d_X5_tell_1 fk_5_15 (o5_o H) rfl ?_
  refine x_if_neN (tgt := 9) d_X5_tell_4 (by decide) (by omega) (fun c_1 => by exfalso; omega) (fun c_1 => ?_)
  refine x_iconst (v := -1) (by decide) d_X5_tell_7 ?_
  exact x_ireturn d_X5_tell_8 rfl rfl rfl rfl (Nat.zero_le _) (Nat.zero_le _) (⟨rfl, rfl⟩)
theorem sp_tell_0 {h : nPH} {a : Nat} {D : Nat → Nat → Nat} (H : o5 h a D) (h0 : 1 ≤ D 1 0) (hb : D 0 0 ≤ 400) (hb1 : D 1 0 ≤ 400) : nRd YX5_tell [.ref (a), .int (nI (0))] h (.int (nI (D 1 0))) := by
  refine nSp_of (by decide +kernel) rfl (Nat.le_of_ble_eq_true rfl) (ls := [some (.ref (a)), some (.int (nI (0)))]) (by exact (And.intro rfl (And.intro rfl True.intro))) ?_
  refine x_aload_n rfl d_X5_tell_0 ?_
  refine x_getf co_all (v := .int (nI (D 1 0))) d_X5_tell_1 fk_5_15 (o5_o H) rfl ?_
  refine x_if_neN (tgt := 9) d_X5_tell_4 (by decide) (by omega) (fun c_1 => ?_) (fun c_1 => by exfalso; omega)
  refine x_iload_n rfl d_X5_tell_9 ?_
  refine x_tableIn (off := 30) (tgt := 40) d_X5_tell_10 (by decide) (by decide) (by decide) (by decide) ?_
  refine x_aload_n rfl d_X5_tell_40 ?_
  refine x_getf co_all (v := .int (nI (D 1 0))) d_X5_tell_41 fk_5_15 (o5_o H) rfl ?_
  exact x_ireturn d_X5_tell_44 rfl rfl rfl rfl (Nat.zero_le _) (Nat.zero_le _) (⟨rfl, rfl⟩)
theorem sp_tell_1 {h : nPH} {a : Nat} {D : Nat → Nat → Nat} (H : o5 h a D) (h0 : 1 ≤ D 1 0) (hb : D 0 0 ≤ 400) (hb1 : D 1 0 ≤ 400) : nRd YX5_tell [.ref (a), .int (nI (1))] h (.int (nI (D 2 0))) := by
  refine nSp_of (by decide +kernel) rfl (Nat.le_of_ble_eq_true rfl) (ls := [some (.ref (a)), some (.int (nI (1)))]) (by exact (And.intro rfl (And.intro rfl True.intro))) ?_
  refine x_aload_n rfl d_X5_tell_0 ?_
  refine x_getf co_all (v := .int (nI (D 1 0))) d_X5_tell_1 fk_5_15 (o5_o H) rfl ?_
  refine x_if_neN (tgt := 9) d_X5_tell_4 (by decide) (by omega) (fun c_1 => ?_) (fun c_1 => by exfalso; omega)
  refine x_iload_n rfl d_X5_tell_9 ?_
  refine x_tableIn (off := 35) (tgt := 45) d_X5_tell_10 (by decide) (by decide) (by decide) (by decide) ?_
  refine x_aload_n rfl d_X5_tell_45 ?_
  refine x_getf co_all (v := .int (nI (D 2 0))) d_X5_tell_46 fk_5_18 (o5_o H) rfl ?_
  exact x_ireturn d_X5_tell_49 rfl rfl rfl rfl (Nat.zero_le _) (Nat.zero_le _) (⟨rfl, rfl⟩)
theorem sp_tell_2 {h : nPH} {a : Nat} {D : Nat → Nat → Nat} (H : o5 h a D) (h0 : 1 ≤ D 1 0) (hb : D 0 0 ≤ 400) (hb1 : D 1 0 ≤ 400) : nRd YX5_tell [.ref (a), .int (nI (2))] h (.int (nI (D 0 0 / D 1 0))) := by
  refine nSp_of (by decide +kernel) rfl (Nat.le_of_ble_eq_true rfl) (ls := [some (.ref (a)), some (.int (nI (2)))]) (by exact (And.intro rfl (And.intro rfl True.intro))) ?_
  refine x_aload_n rfl d_X5_tell_0 ?_
  refine x_getf co_all (v := .int (nI (D 1 0))) d_X5_tell_1 fk_5_15 (o5_o H) rfl ?_
  refine x_if_neN (tgt := 9) d_X5_tell_4 (by decide) (by omega) (fun c_1 => ?_) (fun c_1 => by exfalso; omega)
  refine x_iload_n rfl d_X5_tell_9 ?_
  refine x_tableIn (off := 40) (tgt := 50) d_X5_tell_10 (by decide) (by decide) (by decide) (by decide) ?_
  refine x_aload_n rfl d_X5_tell_50 ?_
  refine x_getf co_all (v := .int (nI (D 0 0))) d_X5_tell_51 fk_5_9 (o5_o H) rfl ?_
  refine x_aload_n rfl d_X5_tell_54 ?_
  refine x_getf co_all (v := .int (nI (D 1 0))) d_X5_tell_55 fk_5_15 (o5_o H) rfl ?_
  refine x_idivN d_X5_tell_58 (by omega) (by omega) (by omega) ?_
  exact x_ireturn d_X5_tell_59 rfl rfl rfl rfl (Nat.zero_le _) (Nat.zero_le _) (⟨rfl, rfl⟩)
theorem sp_tell_3 {h : nPH} {a : Nat} {D : Nat → Nat → Nat} (H : o5 h a D) (h0 : 1 ≤ D 1 0) (hb : D 0 0 ≤ 400) (hb1 : D 1 0 ≤ 400) : nRd YX5_tell [.ref (a), .int (nI (3))] h (.int (nI (D 0 0 % D 1 0))) := by
  refine nSp_of (by decide +kernel) rfl (Nat.le_of_ble_eq_true rfl) (ls := [some (.ref (a)), some (.int (nI (3)))]) (by exact (And.intro rfl (And.intro rfl True.intro))) ?_
  refine x_aload_n rfl d_X5_tell_0 ?_
  refine x_getf co_all (v := .int (nI (D 1 0))) d_X5_tell_1 fk_5_15 (o5_o H) rfl ?_
  refine x_if_neN (tgt := 9) d_X5_tell_4 (by decide) (by omega) (fun c_1 => ?_) (fun c_1 => by exfalso; omega)
  refine x_iload_n rfl d_X5_tell_9 ?_
  refine x_tableIn (off := 50) (tgt := 60) d_X5_tell_10 (by decide) (by decide) (by decide) (by decide) ?_
  refine x_aload_n rfl d_X5_tell_60 ?_
  refine x_getf co_all (v := .int (nI (D 0 0))) d_X5_tell_61 fk_5_9 (o5_o H) rfl ?_
  refine x_aload_n rfl d_X5_tell_64 ?_
  refine x_getf co_all (v := .int (nI (D 1 0))) d_X5_tell_65 fk_5_15 (o5_o H) rfl ?_
  refine x_iremN d_X5_tell_68 (by omega) (by omega) (by omega) ?_
  exact x_ireturn d_X5_tell_69 rfl rfl rfl rfl (Nat.zero_le _) (Nat.zero_le _) (⟨rfl, rfl⟩)
theorem sp_tellN {h : nPH} {a : Nat} {D : Nat → Nat → Nat} (H : o5 h a D) (h0 : 1 ≤ D 1 0) (hb : D 0 0 ≤ 400) (hb1 : D 1 0 ≤ 400) {q : Int32} (hq : q.toInt < 0 ∨ 3 < q.toInt) : nRd YX5_tell [.ref a, .int q] h (.int (-1)) := by
  refine nSp_of (by decide +kernel) rfl (Nat.le_of_ble_eq_true rfl) (ls := [some (.ref (a)), some (.int (q))]) (by exact (And.intro rfl (And.intro rfl True.intro))) ?_
  refine x_aload_n rfl d_X5_tell_0 ?_
  refine x_getf co_all (v := .int (nI (D 1 0))) d_X5_tell_1 fk_5_15 (o5_o H) rfl ?_
  refine x_if_neN (tgt := 9) d_X5_tell_4 (by decide) (by omega) (fun c_1 => ?_) (fun c_1 => by exfalso; omega)
  refine x_iload_n rfl d_X5_tell_9 ?_
  refine x_tableOut (tgt := 70) d_X5_tell_10 hq (by decide) ?_
  refine x_iconst (v := -1) (by decide) d_X5_tell_70 ?_
  exact x_ireturn d_X5_tell_71 rfl rfl rfl rfl (Nat.zero_le _) (Nat.zero_le _) (⟨rfl, rfl⟩)
