/-! the seam -/
def tkn (n g i : Nat) : Nat := (i + 1) * g / n - i * g / n
def sSk (n g k : Nat) (D : Nat → Nat → Nat) : Nat → Nat → Nat := fun f i => if f = 0 ∧ i = 0 then n else if f = 1 ∧ i < k then tkn n g i else D f i
theorem sSk_s (n g k : Nat) (D : Nat → Nat → Nat) (f i : Nat) : sSk n g (k + 1) D f i = u2 (sSk n g k D) 1 k (tkn n g k) f i := by
  unfold u2 sSk
  by_cases h1 : f = 0 <;> by_cases h2 : f = 1 <;> by_cases h3 : i = k <;> by_cases h4 : i < k <;> simp_all <;> (try omega)
  all_goals (rw [if_neg (by omega), if_neg (by omega)])
theorem dv_mono {n g i j : Nat} (h : i ≤ j) : i * g / n ≤ j * g / n := Nat.div_le_div_right (Nat.mul_le_mul_right g h)
theorem tkn_sum {n g : Nat} : ∀ m, fb_sm (fun i => tkn n g i) m = m * g / n
  | 0 => by simp [fb_sm]
  | m + 1 => by
    rw [fb_sm_succ, tkn_sum m]
    unfold tkn
    have : m * g / n ≤ (m + 1) * g / n := dv_mono (by omega)
    omega
theorem tkn_tot {n g : Nat} (hn : 0 < n) : n * g / n = g := Nat.mul_div_cancel_left g hn
theorem lp_spread {h0 : nPH} {a n g : Nat} {D : Nat → Nat → Nat} (hn : n ≤ 24) (hg : g ≤ 24) : ∀ m k : Nat, ∀ h : nPH, k + m = n → nFr (nIv a 2) h0 h → o4 h a (sSk n g k D) → nG YX4_spread (nKy YX4_spread h0.1 h0.2.1 (fun v h2 => v = none ∧ nFr (nIv a 2) h0 h2 ∧ o4 h2 a (sSk n g n D))) 0 0 21 [some (.ref (a)), some (.int (nI (n))), some (.int (nI (g))), some (.int (nI (k)))] [] h := by
  intro m
  induction m with
  | zero =>
    intro k h hk F H
    have ek : k = n := by omega
    subst ek
    have e0 : sSk k g k D 0 0 = k := by unfold sSk; rw [if_pos ⟨rfl, rfl⟩]
    refine x_iload_n rfl d_X4_spread_21 ?_
    refine x_aload_n rfl d_X4_spread_22 ?_
    refine x_getf co_all (v := .int (nI ((sSk k g k D) 0 0))) d_X4_spread_23 fk_4_40 (o4_o H) rfl ?_
    refine x_icmp_geN (tgt := 60) d_X4_spread_26 (by decide) (by omega) (by omega) (fun c_1 => ?_) (fun c_1 => by exfalso; omega)
    exact x_return d_X4_spread_60 rfl F.1 F.2.1 (Nat.zero_le _) (Nat.zero_le _) (⟨rfl, F, H⟩)
  | succ m ih =>
    intro k h hk F H
    have e0 : sSk n g k D 0 0 = n := by unfold sSk; rw [if_pos ⟨rfl, rfl⟩]
    have hb1 : (k + 1) * g ≤ 24 * 24 := Nat.mul_le_mul (by omega) hg
    have hb2 : k * g ≤ 24 * 24 := Nat.mul_le_mul (by omega) hg
    refine x_iload_n rfl d_X4_spread_21 ?_
    refine x_aload_n rfl d_X4_spread_22 ?_
    refine x_getf co_all (v := .int (nI ((sSk n g k D) 0 0))) d_X4_spread_23 fk_4_40 (o4_o H) rfl ?_
    refine x_icmp_geN (tgt := 60) d_X4_spread_26 (by decide) (by omega) (by omega) (fun c_1 => by exfalso; omega) (fun c_1 => ?_)
    refine x_aload_n rfl d_X4_spread_29 ?_
    refine x_getf co_all (v := .ref (a + 1)) d_X4_spread_30 fk_4_9 (o4_o H) rfl ?_
    refine x_iload_n rfl d_X4_spread_33 ?_
    refine x_iload_n rfl d_X4_spread_34 ?_
    refine x_iconst (v := nI 1) (by decide) d_X4_spread_35 ?_
    refine x_iaddN d_X4_spread_36 ?_
    refine x_iload_n rfl d_X4_spread_37 ?_
    refine x_imulN d_X4_spread_38 ?_
    refine x_aload_n rfl d_X4_spread_39 ?_
    refine x_getf co_all (v := .int (nI ((sSk n g k D) 0 0))) d_X4_spread_40 fk_4_40 (o4_o H) rfl ?_
    rw [e0]
    refine x_idivN d_X4_spread_43 (by omega) (by omega) (by omega) ?_
    refine x_iload_n rfl d_X4_spread_44 ?_
    refine x_iload_n rfl d_X4_spread_45 ?_
    refine x_imulN d_X4_spread_46 ?_
    refine x_aload_n rfl d_X4_spread_47 ?_
    refine x_getf co_all (v := .int (nI ((sSk n g k D) 0 0))) d_X4_spread_48 fk_4_40 (o4_o H) rfl ?_
    rw [e0]
    refine x_idivN d_X4_spread_51 (by omega) (by omega) (by omega) ?_
    refine x_isubN d_X4_spread_52 (dv_mono (by omega)) ?_
    change nG _ _ _ _ _ _ (.int (nI (tkn n g k)) :: _) _
    refine x_iastore d_X4_spread_53 (o4_1 H) (nIx_nI (j := k) (by omega) (by decide)) (Nat.le_trans (o4_B H) (Nat.le_add_right _ _)) ?_
    have H2_4 := o4_ast1 (k) (tkn n g k) H
    have f_3 := o4_f1 (k) (tkn n g k) H (F) (by exact ⟨by omega, by omega⟩)
    refine x_iincN (m := 1) d_X4_spread_54 rfl (by decide) (Nat.le_of_ble_eq_true rfl) ?_
    refine x_goto (tgt := 21) d_X4_spread_57 (by decide) ?_
    exact nG.sub (by exact (And.intro rfl (And.intro rfl (And.intro rfl (And.intro rfl True.intro))))) (ih (k + 1) _ (by omega) f_3 (o4_cg H2_4 (sSk_s n g k D)))
theorem sp_spread {h : nPH} {a n g : Nat} {D : Nat → Nat → Nat} (H : o4 h a D) (hn : n ≤ 24) (hg : g ≤ 24) : nWv YX4_spread [.ref a, .int (nI n), .int (nI g)] h none (fun h2 => nFr (nIv a 2) h h2 ∧ o4 h2 a (sSk n g n D)) := by
  refine nSp_of (by decide +kernel) rfl (Nat.le_of_ble_eq_true rfl) (ls := [some (.ref (a)), some (.int (nI (n))), some (.int (nI (g))), none]) (by exact (And.intro rfl (And.intro rfl (And.intro rfl True.intro)))) ?_
  refine x_aload_n rfl d_X4_spread_0 ?_
  refine x_iload_n rfl d_X4_spread_1 ?_
  refine x_iconst (v := nI 0) (by decide) d_X4_spread_2 ?_
  refine x_bipush (v := nI 24) (by decide) d_X4_spread_3 ?_
  refine x_rdSN d_X4_spread_5 lk_4_56 mo_X7_within sc_X7_within (sp_wn (a := n) (b := 0) (c := 24) (by omega) (by decide) (by decide)) rfl ⟨Nat.le_of_ble_eq_true rfl, Nat.le_of_ble_eq_true rfl⟩ rfl rfl (Nat.zero_le _) (Nat.zero_le _) (Nat.le_of_ble_eq_true rfl) rfl ?_
  have hle := nB_le (0 ≤ n ∧ n ≤ 24)
  refine x_if_eqN (tgt := 15) d_X4_spread_8 (by decide) (by omega) (fun c_1 => by exfalso; rw [nB_T ⟨by omega, hn⟩] at c_1; omega) (fun c_1 => ?_)
  refine x_iload_n rfl d_X4_spread_11 ?_
  refine x_goto (tgt := 16) d_X4_spread_12 (by decide) ?_
  refine x_putf co_all d_X4_spread_16 fk_4_40 ft_4_0 (o4_o H) (Nat.le_of_ble_eq_true rfl) rfl rfl (o4_B H) ?_
  have H2_4 := o4_put0 (n) H
  have f_3 := o4_g0 (n) H ((nFr.rf (S := nIv a 2) (h := h))) (by exact ⟨by omega, by omega⟩)
  refine x_iconst (v := nI 0) (by decide) d_X4_spread_19 ?_
  refine x_istore_n d_X4_spread_20 (Nat.le_of_ble_eq_true rfl) ?_
  exact nG.sub (by exact (And.intro rfl (And.intro rfl (And.intro rfl (And.intro rfl True.intro))))) (lp_spread hn hg n 0 _ (by omega) f_3 (o4_cg H2_4 (fun f i => by unfold sSk u2; by_cases h1 : f = 0 ∧ i = 0 <;> simp [h1])))
def g1 (n g : Nat) : Nat → Nat → Bool
  | 0, _ => false
  | m + 1, k => g1 n g m k || decide (m * g / n = k)
def rG1 (n g m : Nat) (D : Nat → Nat → Nat) : Nat → Nat → Nat := fun f k => if f = 2 ∧ g1 n g m k = true then 1 else D f k
theorem rG1_s (n g m : Nat) (D : Nat → Nat → Nat) (f k : Nat) : rG1 n g (m + 1) D f k = u2 (rG1 n g m D) 2 (m * g / n) 1 f k := by
  unfold u2 rG1
  by_cases h1 : f = 2
  · subst h1
    by_cases h2 : k = m * g / n
    · subst h2; simp [g1]
    · have : ¬ m * g / n = k := fun e => h2 e.symm
      simp [g1, h2, this]
  · simp [h1]
theorem g1_iff {n g k : Nat} : ∀ {m}, g1 n g m k = true ↔ ∃ i, i < m ∧ i * g / n = k
  | 0 => by simp [g1]
  | m + 1 => by
    simp only [g1, Bool.or_eq_true, decide_eq_true_eq, g1_iff (m := m)]
    constructor
    · rintro (⟨i, h1, h2⟩ | h)
      · exact ⟨i, by omega, h2⟩
      · exact ⟨m, by omega, h⟩
    · rintro ⟨i, h1, h2⟩
      rcases Nat.lt_or_ge i m with h | h
      · exact Or.inl ⟨i, h, h2⟩
      · have : i = m := by omega
        subst this; exact Or.inr h2
/-- the k-th start lies within -/
theorem dv_lt {n g i : Nat} (hn : i < n) (hg : 0 < g) : i * g / n < g := by
  rw [Nat.div_lt_iff_lt_mul (by omega), Nat.mul_comm g n]
  exact Nat.mul_lt_mul_of_pos_right hn hg
theorem dv_step {n g i : Nat} (hn : 0 < n) (hg : n ≤ g) : i * g / n + 1 ≤ (i + 1) * g / n := by
  rw [Nat.succ_mul]
  have : (i * g + n) / n ≤ (i * g + g) / n := Nat.div_le_div_right (by omega)
  rw [Nat.add_div_right _ hn] at this
  exact this
theorem g1_ct {n g : Nat} (hn : 0 < n) (hg : n ≤ g) : ∀ m, m ≤ n → fb_ct (fun k => g1 n g n k) (m * g / n) = m
  | 0, _ => by simp [fb_ct]
  | m + 1, h => by
    have ih := g1_ct hn hg m (by omega)
    have hs := dv_step (i := m) hn hg
    obtain ⟨d, hd⟩ := Nat.exists_eq_add_of_le hs
    rw [hd, show m * g / n + 1 + d = m * g / n + (1 + d) by omega, fb_ct_split, ih, fb_ct_split]
    have e1 : fb_ct (fun k => g1 n g n (m * g / n + k)) 1 = 1 := by
      have : g1 n g n (m * g / n) = true := g1_iff.mpr ⟨m, by omega, rfl⟩
      simp [fb_ct, this]
    have e2 : fb_ct (fun k => g1 n g n (m * g / n + (1 + k))) d = 0 := fb_ct_zero.mpr fun k hk => by
      cases hb : g1 n g n (m * g / n + (1 + k)) with
      | false => rfl
      | true =>
        obtain ⟨i, h1, h2⟩ := g1_iff.mp hb
        rcases Nat.lt_or_ge m i with h3 | h3
        · have := dv_mono (n := n) (g := g) (show m + 1 ≤ i by omega); omega
        · have := dv_mono (n := n) (g := g) h3; omega
    rw [e1, e2]
theorem lp_g1 {h0 : nPH} {a b n g : Nat} {A D : Nat → Nat → Nat} (hA0 : o4 h0 a A) (hn1 : 1 ≤ n) (hng : n ≤ g) (hg : g ≤ 24) (hD : D 0 0 = g) (hA1 : A 0 0 = n) (hA2 : ∀ i, i < n → A 1 i = tkn n g i) (hab : ap a 2 b 7) : ∀ m i : Nat, ∀ h : nPH, i + m = n → nFr (nIv b 7) h0 h → o3 h b (rG1 n g i D) → nG YX4_giveOneEach (nKy YX4_giveOneEach h0.1 h0.2.1 (fun v h2 => v = none ∧ nFr (nIv b 7) h0 h2 ∧ o3 h2 b (rG1 n g n D))) 0 0 4 [some (.ref (a)), some (.ref (b)), some (.int (nI (i * g / n))), some (.int (nI (i)))] [] h := by
  intro m
  induction m with
  | zero =>
    intro i h hk F H
    have HA : o4 h a A := o4_fr hA0 F (ap_fr (S := fun _ => True) hab)
    have e0 : rG1 n g i D 0 0 = g := by unfold rG1; rw [if_neg (by omega)]; exact hD
    refine x_iload_n rfl d_X4_giveOneEach_4 ?_
    refine x_aload_n rfl d_X4_giveOneEach_5 ?_
    refine x_getf co_all (v := .int (nI (A 0 0))) d_X4_giveOneEach_6 fk_4_40 (o4_o HA) rfl ?_
    refine x_icmp_geN (tgt := 42) d_X4_giveOneEach_9 (by decide) (by omega) (by omega) (fun c_1 => ?_) (fun c_1 => by exfalso; omega)
    exact x_return d_X4_giveOneEach_42 rfl F.1 F.2.1 (Nat.zero_le _) (Nat.zero_le _) (⟨rfl, F, by rw [show rG1 n g n D = rG1 n g i D by rw [show i = n by omega]]; exact H⟩)
  | succ m ih =>
    intro i h hk F H
    have HA : o4 h a A := o4_fr hA0 F (ap_fr (S := fun _ => True) hab)
    have e0 : rG1 n g i D 0 0 = g := by unfold rG1; rw [if_neg (by omega)]; exact hD
    have hlt := dv_lt (g := g) (show i < n by omega) (by omega)
    have hst := dv_step (i := i) (show 0 < n by omega) hng
    refine x_iload_n rfl d_X4_giveOneEach_4 ?_
    refine x_aload_n rfl d_X4_giveOneEach_5 ?_
    refine x_getf co_all (v := .int (nI (A 0 0))) d_X4_giveOneEach_6 fk_4_40 (o4_o HA) rfl ?_
    refine x_icmp_geN (tgt := 42) d_X4_giveOneEach_9 (by decide) (by omega) (by omega) (fun c_1 => by exfalso; omega) (fun c_1 => ?_)
    refine x_aload_n rfl d_X4_giveOneEach_12 ?_
    refine x_iload_n rfl d_X4_giveOneEach_13 ?_
    refine x_rdV d_X4_giveOneEach_14 lk_4_60 mo_X3_has vi_X3_has (sp_has H (by omega) (nI (i * g / n))) (o3_o H) ⟨_, rfl, rfl⟩ rfl ⟨Nat.le_of_ble_eq_true rfl, Nat.le_of_ble_eq_true rfl⟩ rfl rfl (Nat.zero_le _) (Nat.zero_le _) (Nat.le_of_ble_eq_true rfl) rfl ?_
    have hle := nBi_le (nI (i * g / n)) (rG1 n g i D 0 0)
    refine x_if_eqN (tgt := 27) d_X4_giveOneEach_17 (by decide) (by omega) (fun c_2 => by exfalso; rw [nBi_n (by omega), nB_T (by omega)] at c_2; omega) (fun c_2 => ?_)
    refine x_aload_n rfl d_X4_giveOneEach_20 ?_
    refine x_getf co_all (v := .ref (b + 2)) d_X4_giveOneEach_21 fk_4_37 (o3_o H) rfl ?_
    refine x_iload_n rfl d_X4_giveOneEach_24 ?_
    refine x_iconst (v := nI 1) (by decide) d_X4_giveOneEach_25 ?_
    refine x_iastore d_X4_giveOneEach_26 (o3_2 H) (nIx_nI (j := i * g / n) (by omega) (by decide)) (Nat.le_trans (o3_B H) (Nat.le_add_right _ _)) ?_
    have H3_3 := o3_ast2 (i * g / n) (1) H
    have f_4 := o3_f2 (i * g / n) (1) H (F) (by exact ⟨by omega, by omega⟩)
    have HA : o4 _ a A := o4_fr hA0 f_4 (ap_fr (S := fun _ => True) hab)
    refine x_iload_n rfl d_X4_giveOneEach_27 ?_
    refine x_aload_n rfl d_X4_giveOneEach_28 ?_
    refine x_getf co_all (v := .ref (a + 1)) d_X4_giveOneEach_29 fk_4_9 (o4_o HA) rfl ?_
    refine x_iload_n rfl d_X4_giveOneEach_32 ?_
    refine x_iaload d_X4_giveOneEach_33 (o4_1 HA) (nIx_nI (j := i) (by omega) (by decide)) ?_
    rw [hA2 i (by omega)]
    refine x_iaddN d_X4_giveOneEach_34 ?_
    rw [show i * g / n + tkn n g i = (i + 1) * g / n by unfold tkn; omega]
    refine x_istore_n d_X4_giveOneEach_35 (Nat.le_of_ble_eq_true rfl) ?_
    refine x_iincN (m := 1) d_X4_giveOneEach_36 rfl (by decide) (Nat.le_of_ble_eq_true rfl) ?_
    refine x_goto (tgt := 4) d_X4_giveOneEach_39 (by decide) ?_
    exact nG.sub (by exact (And.intro rfl (And.intro rfl (And.intro rfl (And.intro rfl True.intro))))) (ih (i + 1) _ (by omega) f_4 (o3_cg H3_3 (rG1_s n g i D)))
theorem sp_g1 {h : nPH} {a b n g : Nat} {A D : Nat → Nat → Nat} (hA0 : o4 h a A) (hn1 : 1 ≤ n) (hng : n ≤ g) (hg : g ≤ 24) (hD : D 0 0 = g) (hA1 : A 0 0 = n) (hA2 : ∀ i, i < n → A 1 i = tkn n g i) (hab : ap a 2 b 7) (H : o3 h b D) : nWv YX4_giveOneEach [.ref a, .ref b] h none (fun h2 => nFr (nIv b 7) h h2 ∧ o3 h2 b (rG1 n g n D)) := by
  refine nSp_of (by decide +kernel) rfl (Nat.le_of_ble_eq_true rfl) (ls := [some (.ref (a)), some (.ref (b)), none, none]) (by exact (And.intro rfl (And.intro rfl True.intro))) ?_
  refine x_iconst (v := nI 0) (by decide) d_X4_giveOneEach_0 ?_
  refine x_istore_n d_X4_giveOneEach_1 (Nat.le_of_ble_eq_true rfl) ?_
  refine x_iconst (v := nI 0) (by decide) d_X4_giveOneEach_2 ?_
  refine x_istore_n d_X4_giveOneEach_3 (Nat.le_of_ble_eq_true rfl) ?_
  exact nG.sub (by exact (And.intro rfl (And.intro rfl (And.intro (by rw [Nat.zero_mul, Nat.zero_div]; rfl) (And.intro rfl True.intro))))) (lp_g1 hA0 hn1 hng hg hD hA1 hA2 hab n 0 h (by omega) nFr.rf (o3_cg H (fun f k => by unfold rG1 g1; simp)))
theorem x_min {y : nM} {κ : nKp} {cu su pc p2 o : Nat} {ls : List (Option Value)} {st : List Value} {h : nPH} {idx : Nat} {x2 y2 : Int32} (hd : nD y pc (.invokestatic idx) 3 p2 o) (hl : nLk o idx YJ9_min_7cf53) (hf : 1 ≤ κ.1.frames) (hlo : (st.map fun v => v.category).sum + 13 ≤ κ.1.locals) (hc : cu ≤ κ.1.cells) (hs : su ≤ κ.1.slots) (kk : nG y κ cu su p2 ls (.int (if y2 < x2 then y2 else x2) :: st) h) : nG y κ cu su pc ls (.int y2 :: .int x2 :: st) h := by
  intro p l e s m args below meth cd H locs lsA C R L F
  obtain ⟨hdg, rfl, rfl⟩ := hd
  have hw : ∀ w ∈ nWs, w.before args s = true := C.2.2.2.2.1
  exact va_mmin C.1 C.2.1 (by rw [C.2.2.1]; exact L.1.symm) C.2.2.2.1 (hw _ hl) (hw _ sc_J9_min_7cf53) (hw _ mo_J9_min_7cf53.2.1) (hw _ mo_J9_min_7cf53.1) hf hlo hc hs hdg (kk p l e s m args below meth cd H locs lsA C R L F)
theorem x_minN {y : nM} {κ : nKp} {cu su pc p2 o : Nat} {ls : List (Option Value)} {st : List Value} {h : nPH} {idx a b : Nat} (ha : a < 2 ^ 31) (hb : b < 2 ^ 31) (hd : nD y pc (.invokestatic idx) 3 p2 o) (hl : nLk o idx YJ9_min_7cf53) (hf : 1 ≤ κ.1.frames) (hlo : (st.map fun v => v.category).sum + 13 ≤ κ.1.locals) (hc : cu ≤ κ.1.cells) (hs : su ≤ κ.1.slots) (kk : nG y κ cu su p2 ls (.int (nI (if a ≤ b then a else b)) :: st) h) : nG y κ cu su pc ls (.int (nI b) :: .int (nI a) :: st) h := by
  refine x_min hd hl hf hlo hc hs ?_
  have e : (if nI b < nI a then nI b else nI a) = nI (if a ≤ b then a else b) := by
    by_cases h1 : a ≤ b
    · rw [if_pos h1]
      rw [if_neg (fun z => by have := (nI_ltI hb ha).mp z; omega)]
    · rw [if_neg h1]
      rw [if_pos ((nI_ltI hb ha).mpr (by omega))]
  rw [e]
  exact kk
theorem x_max {y : nM} {κ : nKp} {cu su pc p2 o : Nat} {ls : List (Option Value)} {st : List Value} {h : nPH} {idx : Nat} {x2 y2 : Int32} (hd : nD y pc (.invokestatic idx) 3 p2 o) (hl : nLk o idx YJ9_max_7cf53) (hf : 1 ≤ κ.1.frames) (hlo : (st.map fun v => v.category).sum + 13 ≤ κ.1.locals) (hc : cu ≤ κ.1.cells) (hs : su ≤ κ.1.slots) (kk : nG y κ cu su p2 ls (.int (if x2 < y2 then y2 else x2) :: st) h) : nG y κ cu su pc ls (.int y2 :: .int x2 :: st) h := by
  intro p l e s m args below meth cd H locs lsA C R L F
  obtain ⟨hdg, rfl, rfl⟩ := hd
  have hw : ∀ w ∈ nWs, w.before args s = true := C.2.2.2.2.1
  exact va_mmax C.1 C.2.1 (by rw [C.2.2.1]; exact L.1.symm) C.2.2.2.1 (hw _ hl) (hw _ sc_J9_max_7cf53) (hw _ mo_J9_max_7cf53.2.1) (hw _ mo_J9_max_7cf53.1) hf hlo hc hs hdg (kk p l e s m args below meth cd H locs lsA C R L F)
theorem x_maxN {y : nM} {κ : nKp} {cu su pc p2 o : Nat} {ls : List (Option Value)} {st : List Value} {h : nPH} {idx a b : Nat} (ha : a < 2 ^ 31) (hb : b < 2 ^ 31) (hd : nD y pc (.invokestatic idx) 3 p2 o) (hl : nLk o idx YJ9_max_7cf53) (hf : 1 ≤ κ.1.frames) (hlo : (st.map fun v => v.category).sum + 13 ≤ κ.1.locals) (hc : cu ≤ κ.1.cells) (hs : su ≤ κ.1.slots) (kk : nG y κ cu su p2 ls (.int (nI (if a ≤ b then b else a)) :: st) h) : nG y κ cu su pc ls (.int (nI b) :: .int (nI a) :: st) h := by
  refine x_max hd hl hf hlo hc hs ?_
  have e : (if nI a < nI b then nI b else nI a) = nI (if a ≤ b then b else a) := by
    by_cases h1 : a ≤ b
    · rw [if_pos h1]
      by_cases h2 : a = b
      · subst h2; simp
      · rw [if_pos ((nI_ltI ha hb).mpr (by omega))]
    · rw [if_neg h1]
      rw [if_neg (fun z => by have := (nI_ltI ha hb).mp z; omega)]
  rw [e]
  exact kk
def rSe (n : Nat) (D : Nat → Nat → Nat) : Nat → Nat → Nat := fun f k => if f = 1 ∧ k < n then 3 else if f = 2 ∧ k < n then 0 else D f k
theorem rSe_s (n : Nat) (D : Nat → Nat → Nat) (f k : Nat) : rSe (n + 1) D f k = u2 (u2 (rSe n D) 1 n 3) 2 n 0 f k := by
  unfold u2 rSe
  by_cases h1 : f = 1 <;> by_cases h2 : f = 2 <;> by_cases h3 : k = n <;> by_cases h4 : k < n <;> simp_all <;> (try omega)
  all_goals (rw [if_neg (by omega), if_neg (by omega)])
/-- the seam's upper row: p places over q -/
def rJn (q : Nat) (D : Nat → Nat → Nat) : Nat → Nat → Nat := fun f k =>
  if D 0 0 ≤ q then (if f = 2 ∧ k < D 0 0 then tkn (D 0 0) q k else rSe (D 0 0) D f k) else rG1 q (D 0 0) q (rSe (D 0 0) D) f k
theorem rJn_0 (q : Nat) (D : Nat → Nat → Nat) : rJn q D 0 0 = D 0 0 := by
  unfold rJn rG1 rSe
  split <;> simp
theorem off_Jn {q : Nat} {D : Nat → Nat → Nat} (hp : 0 < D 0 0) (hq : 0 < q) : off (rJn q D) (D 0 0) = q := by
  unfold off
  by_cases h : D 0 0 ≤ q
  · have e : fb_sm (fun i => rJn q D 2 i) (D 0 0) = fb_sm (fun i => tkn (D 0 0) q i) (D 0 0) := fb_sm_cong fun k hk => by
      unfold rJn; rw [if_pos h, if_pos ⟨rfl, hk⟩]
    rw [e, tkn_sum, tkn_tot hp]
  · have e : ∀ n, n ≤ D 0 0 → fb_sm (fun i => rJn q D 2 i) n = fb_ct (fun k => g1 q (D 0 0) q k) n := by
      intro n
      induction n with
      | zero => intro _; rfl
      | succ n ih =>
        intro hn
        rw [fb_sm_succ, fb_ct_succ, ih (by omega)]
        congr 1
        unfold rJn rG1
        rw [if_neg h]
        by_cases hb : g1 q (D 0 0) q n = true
        · rw [if_pos ⟨rfl, hb⟩, if_pos hb]
        · rw [if_neg (fun z => hb z.2), if_neg hb]
          unfold rSe
          rw [if_neg (by omega), if_pos ⟨rfl, by omega⟩]
    have := g1_ct (n := q) (g := D 0 0) hq (by omega) q (Nat.le_refl _)
    rw [tkn_tot hq] at this
    rw [e _ (Nat.le_refl _), this]
def sJn (p q : Nat) (A : Nat → Nat → Nat) : Nat → Nat → Nat := if p ≤ q then sSk p q p A else sSk q p q A
theorem rOK_Se {n : Nat} {D : Nat → Nat → Nat} (R : rOK D) : rOK (rSe n D) := by
  refine ⟨by unfold rSe; rw [if_neg (by omega), if_neg (by omega)]; exact R.1, fun k hk => ?_⟩
  obtain ⟨r1, r2, r3, r4, r5, r6⟩ := R.2 k hk
  unfold rSe
  refine ⟨by split; omega; (split <;> omega), ?_, by rw [if_neg (by omega), if_neg (by omega)]; exact r3, by rw [if_neg (by omega), if_neg (by omega)]; exact r4, by rw [if_neg (by omega), if_neg (by omega)]; exact r5, ?_⟩
  · rw [if_neg (by omega)]; split <;> omega
  · rw [if_neg (by omega), if_neg (by omega), if_neg (by omega), if_neg (by omega)]; exact r6
theorem tkn_le {n g i : Nat} (hn : 0 < n) (hg : g ≤ 2 * n) : tkn n g i ≤ 2 := by
  unfold tkn
  rw [Nat.succ_mul]
  have h1 : (i * g + g) / n ≤ (i * g + 2 * n) / n := Nat.div_le_div_right (by omega)
  rw [Nat.add_mul_div_right _ _ hn] at h1
  omega
theorem rOK_Jn {q : Nat} {D : Nat → Nat → Nat} (R : rOK D) (hp : 0 < D 0 0) (hq : q ≤ 2 * D 0 0) : rOK (rJn q D) := by
  have S := rOK_Se (n := D 0 0) R
  refine ⟨by rw [rJn_0]; exact R.1, fun k hk => ?_⟩
  obtain ⟨r1, r2, r3, r4, r5, r6⟩ := S.2 k hk
  have e : ∀ f, f ≠ 2 → rJn q D f k = rSe (D 0 0) D f k := fun f hf => by
    unfold rJn rG1
    split
    · rw [if_neg (fun z => hf z.1)]
    · rw [if_neg (fun z => hf z.1)]
  rw [e 1 (by decide), e 3 (by decide), e 4 (by decide), e 5 (by decide), e 6 (by decide)]
  refine ⟨r1, ?_, r3, r4, r5, r6⟩
  unfold rJn rG1
  split
  · split
    · exact tkn_le hp hq
    · exact r2
  · split
    · omega
    · exact r2
theorem lp_join {h0 : nPH} {D0 : va_G} {B0 : Nat} {Post : Option Value → nPH → Prop} {s a b : Nat} {D : Nat → Nat → Nat} (hD : D 0 0 ≤ 24) (kk : ∀ h : nPH, nFr (nIv a 7) h0 h → o3 h a (rSe (D 0 0) D) → nG YX4_join (nKy YX4_join D0 B0 Post) 0 0 65 [some (.ref (s)), some (.ref (a)), some (.ref (b)), none] [] h) : ∀ m k : Nat, ∀ h : nPH, k + m = D 0 0 → nFr (nIv a 7) h0 h → o3 h a (rSe k D) → nG YX4_join (nKy YX4_join D0 B0 Post) 0 0 37 [some (.ref (s)), some (.ref (a)), some (.ref (b)), some (.int (nI (k)))] [] h := by
  intro m
  induction m with
  | zero =>
    intro k h hk F H
    have e0 : rSe k D 0 0 = D 0 0 := by unfold rSe; rw [if_neg (by omega), if_neg (by omega)]
    refine x_iload_n rfl d_X4_join_37 ?_
    refine x_aload_n rfl d_X4_join_38 ?_
    refine x_getf co_all (v := .int (nI ((rSe k D) 0 0))) d_X4_join_39 fk_4_15 (o3_o H) rfl ?_
    refine x_icmp_geN (tgt := 65) d_X4_join_42 (by decide) (by omega) (by omega) (fun c_1 => ?_) (fun c_1 => by exfalso; omega)
    exact nG.sub (by exact (And.intro rfl (And.intro rfl (And.intro rfl True.intro)))) (kk h F (by rw [show rSe (D 0 0) D = rSe k D by rw [show D 0 0 = k by omega]]; exact H))
  | succ m ih =>
    intro k h hk F H
    have e0 : rSe k D 0 0 = D 0 0 := by unfold rSe; rw [if_neg (by omega), if_neg (by omega)]
    refine x_iload_n rfl d_X4_join_37 ?_
    refine x_aload_n rfl d_X4_join_38 ?_
    refine x_getf co_all (v := .int (nI ((rSe k D) 0 0))) d_X4_join_39 fk_4_15 (o3_o H) rfl ?_
    refine x_icmp_geN (tgt := 65) d_X4_join_42 (by decide) (by omega) (by omega) (fun c_1 => by exfalso; omega) (fun c_1 => ?_)
    refine x_aload_n rfl d_X4_join_45 ?_
    refine x_getf co_all (v := .ref (a + 1)) d_X4_join_46 fk_4_34 (o3_o H) rfl ?_
    refine x_iload_n rfl d_X4_join_49 ?_
    refine x_iconst (v := nI 3) (by decide) d_X4_join_50 ?_
    refine x_iastore d_X4_join_51 (o3_1 H) (nIx_nI (j := k) (by omega) (by decide)) (Nat.le_trans (o3_B H) (Nat.le_add_right _ _)) ?_
    have H2_3 := o3_ast1 (k) (3) H
    have f_3 := o3_f1 (k) (3) H (F) (by exact ⟨by omega, by omega⟩)
    refine x_aload_n rfl d_X4_join_52 ?_
    refine x_getf co_all (v := .ref (a + 2)) d_X4_join_53 fk_4_37 (o3_o H2_3) rfl ?_
    refine x_iload_n rfl d_X4_join_56 ?_
    refine x_iconst (v := nI 0) (by decide) d_X4_join_57 ?_
    refine x_iastore d_X4_join_58 (o3_2 H2_3) (nIx_nI (j := k) (by omega) (by decide)) (Nat.le_trans (o3_B H2_3) (Nat.le_add_right _ _)) ?_
    have H4_3 := o3_ast2 (k) (0) H2_3
    have f_5 := o3_f2 (k) (0) H2_3 (f_3) (by exact ⟨by omega, by omega⟩)
    refine x_iincN (m := 1) d_X4_join_59 rfl (by decide) (Nat.le_of_ble_eq_true rfl) ?_
    refine x_goto (tgt := 37) d_X4_join_62 (by decide) ?_
    exact nG.sub (by exact (And.intro rfl (And.intro rfl (And.intro rfl (And.intro rfl True.intro))))) (ih (k + 1) _ (by omega) f_5 (o3_cg H4_3 (rSe_s k D)))
theorem sp_join {h : nPH} {s a b : Nat} {A D E : Nat → Nat → Nat} (HS : o4 h s A) (HD : o3 h a D) (HE : o3 h b E) (RD : rOK D) (RE : rOK E) (hp : 1 ≤ D 0 0) (hq : 1 ≤ E 0 0) (hsa : ap s 2 a 7) (hsb : ap s 2 b 7) (hab : ap a 7 b 7) (hqp : E 0 0 ≤ 2 * D 0 0) : nWv YX4_join [.ref s, .ref a, .ref b] h none (fun h2 => nFr (fun q => nIv s 2 q ∨ nIv a 7 q ∨ nIv b 7 q) h h2 ∧ o4 h2 s (sJn (D 0 0) (E 0 0) A) ∧ o3 h2 a (rJn (E 0 0) D) ∧ o3 h2 b (rHG (rJn (E 0 0) D) (E 0 0) E)) := by
  have hD24 := RD.1
  have hE24 := RE.1
  refine nSp_of (by decide +kernel) rfl (Nat.le_of_ble_eq_true rfl) (ls := [some (.ref (s)), some (.ref (a)), some (.ref (b)), none]) (by exact (And.intro rfl (And.intro rfl (And.intro rfl True.intro)))) ?_
  refine x_aload_n rfl d_X4_join_0 ?_
  refine x_ifnull d_X4_join_1 ?_
  refine x_aload_n rfl d_X4_join_4 ?_
  refine x_ifnonnull (tgt := 9) d_X4_join_5 (by decide) ?_
  refine x_aload_n rfl d_X4_join_9 ?_
  refine x_aload_n rfl d_X4_join_10 ?_
  refine x_getf co_all (v := .int (nI (D 0 0))) d_X4_join_11 fk_4_15 (o3_o HD) rfl ?_
  refine x_aload_n rfl d_X4_join_14 ?_
  refine x_getf co_all (v := .int (nI (E 0 0))) d_X4_join_15 fk_4_15 (o3_o HE) rfl ?_
  refine x_minN (by omega) (by omega) d_X4_join_18 lk_4_21 (Nat.le_of_ble_eq_true rfl) (Nat.le_of_ble_eq_true rfl) (Nat.zero_le _) (Nat.zero_le _) ?_
  refine x_aload_n rfl d_X4_join_21 ?_
  refine x_getf co_all (v := .int (nI (D 0 0))) d_X4_join_22 fk_4_15 (o3_o HD) rfl ?_
  refine x_aload_n rfl d_X4_join_25 ?_
  refine x_getf co_all (v := .int (nI (E 0 0))) d_X4_join_26 fk_4_15 (o3_o HE) rfl ?_
  refine x_maxN (by omega) (by omega) d_X4_join_29 lk_4_27 (Nat.le_of_ble_eq_true rfl) (Nat.le_of_ble_eq_true rfl) (Nat.zero_le _) (Nat.zero_le _) ?_
  refine x_wvV d_X4_join_32 lk_4_30 mo_X4_spread vi_X4_spread (sp_spread HS (n := if D 0 0 ≤ E 0 0 then D 0 0 else E 0 0) (g := if D 0 0 ≤ E 0 0 then E 0 0 else D 0 0) (by split <;> omega) (by split <;> omega)) (o4_o HS) ⟨_, rfl, rfl⟩ rfl ⟨Nat.le_of_ble_eq_true rfl, Nat.le_of_ble_eq_true rfl⟩ (Nat.zero_le _) (Nat.zero_le _) (Nat.le_of_ble_eq_true rfl) rfl (fun h2 hp2 e1 e2 => ?_)
  obtain ⟨F1, HS1⟩ := hp2
  have HS1 : o4 h2 s (sJn (D 0 0) (E 0 0) A) := by
    unfold sJn
    by_cases hc : D 0 0 ≤ E 0 0
    · simp only [if_pos hc] at HS1 ⊢; exact HS1
    · simp only [if_neg hc] at HS1 ⊢; exact HS1
  have HD1 : o3 h2 a D := o3_fr HD F1 (ap_fr (S := fun _ => True) (ap_sy hsa))
  have HE1 : o3 h2 b E := o3_fr HE F1 (ap_fr (S := fun _ => True) (ap_sy hsb))
  refine x_iconst (v := nI 0) (by decide) d_X4_join_35 ?_
  refine x_istore_n d_X4_join_36 (Nat.le_of_ble_eq_true rfl) ?_
  refine nG.sub (by exact (And.intro rfl (And.intro rfl (And.intro rfl (And.intro rfl True.intro))))) (lp_join (h0 := h2) hD24 (fun h3 F3 HD3 => ?_) (D 0 0) 0 h2 (by omega) nFr.rf (o3_cg HD1 (fun f k => by unfold rSe; rw [if_neg (by omega), if_neg (by omega)])))
  have HS3 : o4 h3 s (sJn (D 0 0) (E 0 0) A) := o4_fr HS1 F3 (ap_fr (S := fun _ => True) hsa)
  have HE3 : o3 h3 b E := o3_fr HE1 F3 (ap_fr (S := fun _ => True) (ap_sy hab))
  have e0 : rSe (D 0 0) D 0 0 = D 0 0 := by unfold rSe; rw [if_neg (by omega), if_neg (by omega)]
  have RS := rOK_Se (n := D 0 0) RD
  have RJ := rOK_Jn RD (by omega) hqp
  have fin : ∀ h4 : nPH, nFr (nIv a 7) h3 h4 → o3 h4 a (rJn (E 0 0) D) → nG YX4_join (nKy YX4_join h.1 h.2.1 (fun v h2 => v = none ∧ (nFr (fun q => nIv s 2 q ∨ nIv a 7 q ∨ nIv b 7 q) h h2 ∧ o4 h2 s (sJn (D 0 0) (E 0 0) A) ∧ o3 h2 a (rJn (E 0 0) D) ∧ o3 h2 b (rHG (rJn (E 0 0) D) (E 0 0) E)))) 0 0 101 [some (.ref s), some (.ref a), some (.ref b), none] [] h4 := by
    intro h4 F4 HD4
    have HS4 : o4 h4 s (sJn (D 0 0) (E 0 0) A) := o4_fr HS3 F4 (ap_fr (S := fun _ => True) hsa)
    have HE4 : o3 h4 b E := o3_fr HE3 F4 (ap_fr (S := fun _ => True) (ap_sy hab))
    refine x_aload_n rfl d_X4_join_101 ?_
    refine x_aload_n rfl d_X4_join_102 ?_
    refine x_wvV d_X4_join_103 lk_4_53 mo_X3_hangIn vi_X3_hangIn (sp_hangIn HE4 HD4 RJ hE24 hab (by rw [rJn_0]; exact off_Jn (by omega) (by omega))) (o3_o HE4) ⟨_, rfl, rfl⟩ rfl ⟨Nat.le_of_ble_eq_true rfl, Nat.le_of_ble_eq_true rfl⟩ (Nat.zero_le _) (Nat.zero_le _) (Nat.le_of_ble_eq_true rfl) rfl (fun h5 hp5 e5 e6 => ?_)
    obtain ⟨F5, HE5⟩ := hp5
    have FF := (((F1.mono (S2 := fun q => nIv s 2 q ∨ nIv a 7 q ∨ nIv b 7 q) (fun q z => Or.inl z)).tr (F3.mono (fun q z => Or.inr (Or.inl z)))).tr (F4.mono (fun q z => Or.inr (Or.inl z)))).tr (F5.mono (fun q z => Or.inr (Or.inr z)))
    exact x_return d_X4_join_106 rfl FF.1 FF.2.1 (Nat.zero_le _) (Nat.zero_le _) ⟨rfl, FF, o4_fr HS4 F5 (ap_fr (S := fun _ => True) hsb), o3_fr HD4 F5 (ap_fr (S := fun _ => True) hab), HE5⟩
  refine x_aload_n rfl d_X4_join_65 ?_
  refine x_getf co_all (v := .int (nI ((rSe (D 0 0) D) 0 0))) d_X4_join_66 fk_4_15 (o3_o HD3) rfl ?_
  refine x_aload_n rfl d_X4_join_69 ?_
  refine x_getf co_all (v := .int (nI (E 0 0))) d_X4_join_70 fk_4_15 (o3_o HE3) rfl ?_
  refine x_icmp_gtN (tgt := 96) d_X4_join_73 (by decide) (by omega) (by omega) (fun c_1 => ?_) (fun c_1 => ?_)
  · refine x_aload_n rfl d_X4_join_96 ?_
    refine x_aload_n rfl d_X4_join_97 ?_
    have hc : ¬ D 0 0 ≤ E 0 0 := by omega
    have eS : sJn (D 0 0) (E 0 0) A = sSk (E 0 0) (D 0 0) (E 0 0) A := by unfold sJn; rw [if_neg hc]
    refine x_wvV d_X4_join_98 lk_4_49 mo_X4_giveOneEach vi_X4_giveOneEach (sp_g1 (n := E 0 0) (g := D 0 0) HS3 hq (by omega) (by omega) e0 (by rw [eS]; unfold sSk; rw [if_pos ⟨rfl, rfl⟩]) (fun i hi => by rw [eS]; unfold sSk; rw [if_neg (by omega), if_pos ⟨rfl, hi⟩]) hsa HD3) (o4_o HS3) ⟨_, rfl, rfl⟩ rfl ⟨Nat.le_of_ble_eq_true rfl, Nat.le_of_ble_eq_true rfl⟩ (Nat.zero_le _) (Nat.zero_le _) (Nat.le_of_ble_eq_true rfl) rfl (fun h4 hp4 e3 e4 => ?_)
    exact nG.sub (by exact (And.intro rfl (And.intro rfl (And.intro rfl True.intro)))) (fin h4 hp4.1 (o3_cg hp4.2 (fun f k => by unfold rJn; rw [if_neg hc])))
  · refine x_aload_n rfl d_X4_join_76 ?_
    refine x_getf co_all (v := .ref (s + 1)) d_X4_join_77 fk_4_9 (o4_o HS3) rfl ?_
    refine x_iconst (v := nI 0) (by decide) d_X4_join_80 ?_
    refine x_aload_n rfl d_X4_join_81 ?_
    refine x_getf co_all (v := .ref (a + 2)) d_X4_join_82 fk_4_37 (o3_o HD3) rfl ?_
    refine x_iconst (v := nI 0) (by decide) d_X4_join_85 ?_
    refine x_aload_n rfl d_X4_join_86 ?_
    refine x_getf co_all (v := .int (nI ((sJn (D 0 0) (E 0 0) A) 0 0))) d_X4_join_87 fk_4_40 (o4_o HS3) rfl ?_
    have eS : sJn (D 0 0) (E 0 0) A = sSk (D 0 0) (E 0 0) (D 0 0) A := by unfold sJn; rw [if_pos (by omega)]
    have eS0 : sJn (D 0 0) (E 0 0) A 0 0 = D 0 0 := by rw [eS]; unfold sSk; rw [if_pos ⟨rfl, rfl⟩]
    rw [eS0]
    refine x_copy d_X4_join_90 lk_4_43 nt_copy (o4_1 HS3) (o3_2 HD3) (by omega) (by omega) (by omega) (Nat.le_trans (o3_B HD3) (Nat.le_add_right _ _)) (Nat.le_of_ble_eq_true rfl) (Nat.le_of_ble_eq_true rfl) ?_
    refine x_goto (tgt := 101) d_X4_join_93 (by decide) ?_
    refine nG.sub (by exact (And.intro rfl (And.intro rfl (And.intro rfl True.intro)))) (fin _ ((nFr.rf (S := nIv a 7) (h := h3)).st (o3_2 HD3) (show nIv a 7 (a + 2) from ⟨by omega, by omega⟩)) ?_)
    refine ⟨HD3.1, (nAt_ne (by omega)).trans ((o3_o HD3).trans (by rw [rJn_0, e0])), ?_⟩
    have hc : D 0 0 ≤ E 0 0 := by omega
    refine ⟨(nAt_ne (by omega)).trans ((o3_1 HD3).trans ?_), nAt_eq.trans ?_, (nAt_ne (by omega)).trans ((o3_3 HD3).trans ?_), (nAt_ne (by omega)).trans ((o3_4 HD3).trans ?_), (nAt_ne (by omega)).trans ((o3_5 HD3).trans ?_), (nAt_ne (by omega)).trans ((o3_6 HD3).trans ?_)⟩
    all_goals refine congrArg (fun z => some (nAi 24 z)) (funext fun i => ?_)
    all_goals unfold rJn
    all_goals rw [if_pos hc]
    · rw [if_neg (by omega)]
    · by_cases hi : i < D 0 0
      · rw [if_pos hi, if_pos ⟨rfl, hi⟩, eS]; unfold sSk; rw [if_neg (by omega), if_pos ⟨rfl, hi⟩]
      · rw [if_neg hi, if_neg (fun z => hi z.2)]
    · rw [if_neg (by omega)]
    · rw [if_neg (by omega)]
    · rw [if_neg (by omega)]
    · rw [if_neg (by omega)]
