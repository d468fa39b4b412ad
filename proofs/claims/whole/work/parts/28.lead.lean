/-! the loads: the whole panel -/
def wsd (R : Nat → Nat → Nat → Nat) (r q : Nat) : Nat := wbl (R (r + 1)) q (R (r + 1) 0 0)
def uLd (p : Nat → Nat) (R : Nat → Nat → Nat → Nat) : Nat → Nat → Nat
  | 0, k => p k * 609359740010496
  | r + 1, j => fb_sm (fun q => nb (iwh (R (r + 1)) j q) * (uLd p R r q / wsd R r q)) 24
def uLs (p : Nat → Nat) (R : Nat → Nat → Nat → Nat) (r : Nat) : Nat := fb_sm (uLd p R r) (R r 0 0)
def uLp (p : Nat → Nat) (R : Nat → Nat → Nat → Nat) (r : Nat) : Nat := fb_sm (fun k => if wsd R r k = 0 then uLd p R r k else 0) (R r 0 0)
def uLo (p : Nat → Nat) (R : Nat → Nat → Nat → Nat) (r : Nat) : Nat := fb_sm (uLp p R) r
theorem gOK_wh {n : Nat} {R : Nat → Nat → Nat → Nat} (G : gOK n R) {r k q : Nat} (hr : r + 1 < n) (hk : k < R (r + 1) 0 0) (h : iwh (R (r + 1)) k q = true) : q < R r 0 0 := by
  have h2 := iwh_hg h
  rcases G.2 r hr k hk with e | e <;> omega
theorem wsd_o {n : Nat} {R : Nat → Nat → Nat → Nat} (G : gOK n R) {r q : Nat} (hr : r + 1 < n) (hq : R r 0 0 ≤ q) : wsd R r q = 0 := sm_0 (fun j hj => by
  rw [nb_0]
  rcases e : iwh (R (r + 1)) j q with _ | _
  · rfl
  · have := gOK_wh G hr hj e
    omega)
theorem uLs_st {n : Nat} {p : Nat → Nat} {R : Nat → Nat → Nat → Nat} (G : gOK n R) {r : Nat} (hr : r + 1 < n) (hp : R r 0 0 ≤ 24) : uLs p R (r + 1) + uLp p R r ≤ uLs p R r := by
  have e1 : uLs p R (r + 1) = fb_sm (fun q => wsd R r q * (uLd p R r q / wsd R r q)) 24 := by
    show fb_sm (fun j => fb_sm (fun q => nb (iwh (R (r + 1)) j q) * (uLd p R r q / wsd R r q)) 24) (R (r + 1) 0 0) = _
    rw [sm_sw]
    exact fb_sm_cong (fun q _ => sm_mr _ _ _)
  rw [e1, sm_z (a := R r 0 0) hp (fun q h1 _ => by rw [wsd_o G hr h1, Nat.zero_mul])]
  unfold uLp uLs
  rw [← fb_sm_add]
  refine fb_sm_le (fun q _ => ?_)
  by_cases z : wsd R r q = 0
  · rw [if_pos z, z, Nat.zero_mul, Nat.zero_add]
    exact Nat.le_refl _
  · rw [if_neg z, Nat.add_zero]
    exact Nat.mul_div_le _ _
theorem uLs_le {n : Nat} {p : Nat → Nat} {R : Nat → Nat → Nat → Nat} (G : gOK n R) (hpl : ∀ j, j < n → R j 0 0 ≤ 24) : ∀ r, r < n → uLs p R r + uLo p R r ≤ uLs p R 0
  | 0, _ => Nat.le_refl _
  | r + 1, h => by
    have h1 := uLs_le (p := p) G hpl r (by omega)
    have h2 := uLs_st (p := p) G h (hpl r (by omega))
    have h3 : uLo p R (r + 1) = uLo p R r + uLp p R r := rfl
    omega
def hPl (p : Nat → Nat) : Prop := ∀ k, k < 24 → p k ≤ 100
theorem uLs_0 {p : Nat → Nat} {R : Nat → Nat → Nat → Nat} (hp : hPl p) (h0 : R 0 0 0 ≤ 24) : uLs p R 0 ≤ 1462463376025190400 := by
  have h1 : uLs p R 0 ≤ R 0 0 0 * 60935974001049600 := fb_sm_bound (fun k hk => by
    show p k * 609359740010496 ≤ _
    have := hp k (by omega)
    omega)
  omega
theorem uLd_le {n : Nat} {p : Nat → Nat} {R : Nat → Nat → Nat → Nat} (G : gOK n R) (hpl : ∀ j, j < n → R j 0 0 ≤ 24) (hp : hPl p) {r k : Nat} (hr : r < n) (hk : k < R r 0 0) : uLd p R r k ≤ 1462463376025190400 := by
  have h1 := uLs_le (p := p) G hpl r hr
  have h2 := uLs_0 (p := p) (R := R) hp (hpl 0 (by omega))
  have h3 : _ ≤ uLs p R r := fb_sm_part (uLd p R r) hk
  omega
theorem wbl_le24 {D : Nat → Nat → Nat} {k n : Nat} (h : n ≤ 24) : wbl D k n ≤ 24 := by
  have : wbl D k n ≤ n * 1 := fb_sm_bound (fun q _ => nb_le _)
  omega
theorem gOK_fit {n : Nat} {R : Nat → Nat → Nat → Nat} (G : gOK n R) (hpl : ∀ j, j < n → R j 0 0 ≤ 24) {r : Nat} (hr : r + 1 < n) : hFit (R (r + 1)) := fun j hj => by
  have := hpl r (by omega)
  rcases G.2 r hr j hj with e | e <;> omega
theorem lp_ld {c b : Nat} {P : Nat → Nat → Nat} {R : Nat → Nat → Nat → Nat} (G : gOK (P 5 0) R) (hp : hPl (P 6)) (hn : 1 ≤ P 5 0) (hcb : apW c 23 b P) {h0 : nPH} (Wp0 : pW h0 b P R) : ∀ n r : Nat, r + n + 1 = P 5 0 → ∀ (h : nPH) (E : Nat → Nat → Nat), nFr (nIv c 23) h0 h → o1 h c E → E 0 0 = uLo (P 6) R r → (∀ r2 k, r2 < r + 1 → k < R r2 0 0 → E 2 (20 * k + r2) = uLd (P 6) R r2 k) → nG YX1_leadDown (nKy YX1_leadDown h0.1 h0.2.1 (fun v h2 => v = none ∧ nFr (nIv c 23) h0 h2 ∧ ∃ E2, o1 h2 c E2 ∧ E2 0 0 = uLo (P 6) R (P 5 0 - 1) ∧ E2 1 0 = uLs (P 6) R (P 5 0 - 1) ∧ ∀ r k, r < P 5 0 → k < R r 0 0 → E2 2 (20 * k + r) = uLd (P 6) R r k)) 0 0 45 [some (.ref (c)), some (.ref (b)), some (.int (nI (r))), none, none] [] h := by
  intro n
  induction n with
  | zero =>
    intro r hr0 h E F H A V
    have hr : r < P 5 0 := by omega
    have Wp := pW_ap Wp0 F hcb
    have hpl := fun j hj => (Wp.2.2.1 j hj).2.1.1
    have hn20 := Wp.2.1
    refine x_iload_n rfl d_X1_leadDown_45 ?_
    refine x_aload_n rfl d_X1_leadDown_46 ?_
    refine x_getf co_all (v := .int (nI (P 5 0))) d_X1_leadDown_47 fk_1_34 (o2_o Wp.1) rfl ?_
    refine x_icmp_geN (tgt := 119) d_X1_leadDown_50 (by decide) (by omega) (by omega) (fun c_1 => by exfalso; omega) (fun c_1 => ?_)
    refine x_aload_n rfl d_X1_leadDown_53 ?_
    refine x_iload_n rfl d_X1_leadDown_54 ?_
    refine x_rdV d_X1_leadDown_55 lk_1_38 mo_X2_rowAt vi_X2_rowAt (sp_rowAt Wp.1 hn20 hr) (o2_o Wp.1) ⟨_, rfl, rfl⟩ rfl ⟨Nat.le_of_ble_eq_true rfl, Nat.le_of_ble_eq_true rfl⟩ rfl rfl (Nat.zero_le _) (Nat.zero_le _) (Nat.le_of_ble_eq_true rfl) rfl ?_
    refine x_astore_n d_X1_leadDown_58 (Nat.le_of_ble_eq_true rfl) ?_
    refine x_aload_n rfl d_X1_leadDown_59 ?_
    refine x_iload_n rfl d_X1_leadDown_60 ?_
    refine x_iconst (v := nI 1) (by decide) d_X1_leadDown_61 ?_
    refine x_iaddN d_X1_leadDown_62 ?_
    refine x_rdV d_X1_leadDown_63 lk_1_38 mo_X2_rowAt vi_X2_rowAt (sp_rowAtO Wp.1 hn20 (j := r + 1) (by omega) (by omega)) (o2_o Wp.1) ⟨_, rfl, rfl⟩ rfl ⟨Nat.le_of_ble_eq_true rfl, Nat.le_of_ble_eq_true rfl⟩ rfl rfl (Nat.zero_le _) (Nat.zero_le _) (Nat.le_of_ble_eq_true rfl) rfl ?_
    refine x_astoreN d_X1_leadDown_66 (Nat.le_of_ble_eq_true rfl) ?_
    refine x_aload_n rfl d_X1_leadDown_68 ?_
    refine x_ifnull d_X1_leadDown_69 ?_
    refine x_aloadN rfl d_X1_leadDown_72 ?_
    refine x_ifnullN (tgt := 99) d_X1_leadDown_74 (by decide) ?_
    refine x_aload_n rfl d_X1_leadDown_99 ?_
    refine x_ifnull d_X1_leadDown_100 ?_
    refine x_aload_n rfl d_X1_leadDown_103 ?_
    refine x_aload_n rfl d_X1_leadDown_104 ?_
    refine x_iload_n rfl d_X1_leadDown_105 ?_
    refine x_aload_n rfl d_X1_leadDown_106 ?_
    have hsum : fb_sm (fun k => E 2 (20 * k + r)) (R r 0 0) = uLs (P 6) R r := fb_sm_cong (fun k hk => V r k (by omega) hk)
    skip
    refine x_rdV d_X1_leadDown_107 lk_1_53 mo_X1_inAll vi_X1_inAll (sp_inAll (hpl r hr) (by omega) (Wp.2.2.1 r hr).1 H) (o1_o H) ⟨_, rfl, rfl⟩ rfl ⟨Nat.le_of_ble_eq_true rfl, Nat.le_of_ble_eq_true rfl⟩ rfl rfl (Nat.zero_le _) (Nat.zero_le _) (Nat.le_of_ble_eq_true rfl) rfl ?_
    rw [hsum]
    refine x_putf co_all d_X1_leadDown_110 fk_1_24 ft_1_1 (o1_o H) (Nat.le_of_ble_eq_true rfl) rfl rfl (o1_B H) ?_
    have H2_1 := o1_put1 (uLs (P 6) R r) H
    have f_3 := o1_g1 (uLs (P 6) R r) H (F) (by exact ⟨by omega, by omega⟩)
    refine x_iincN (m := 1) d_X1_leadDown_113 rfl (by decide) (Nat.le_of_ble_eq_true rfl) ?_
    refine x_goto (tgt := 45) d_X1_leadDown_116 (by decide) ?_
    have Wp2 := pW_ap Wp0 f_3 hcb
    refine x_iload_n rfl d_X1_leadDown_45 ?_
    refine x_aload_n rfl d_X1_leadDown_46 ?_
    refine x_getf co_all (v := .int (nI (P 5 0))) d_X1_leadDown_47 fk_1_34 (o2_o Wp2.1) rfl ?_
    refine x_icmp_geN (tgt := 119) d_X1_leadDown_50 (by decide) (by omega) (by omega) (fun c_51 => ?_) (fun c_51 => by exfalso; omega)
    exact x_return d_X1_leadDown_119 rfl (f_3).1 (f_3).2.1 (Nat.zero_le _) (Nat.zero_le _) (⟨rfl, f_3, _, H2_1, by rw [show P 5 0 - 1 = r by omega]; exact A, by rw [show P 5 0 - 1 = r by omega]; exact u2_eq _ _ _ _, fun r2 k h1 h2 => V r2 k (by omega) h2⟩)
  | succ n ih =>
    intro r hr0 h E F H A V
    have hr : r < P 5 0 := by omega
    have hr1 : r + 1 < P 5 0 := by omega
    have Wp := pW_ap Wp0 F hcb
    have hpl := fun j hj => (Wp.2.2.1 j hj).2.1.1
    have hn20 := Wp.2.1
    refine x_iload_n rfl d_X1_leadDown_45 ?_
    refine x_aload_n rfl d_X1_leadDown_46 ?_
    refine x_getf co_all (v := .int (nI (P 5 0))) d_X1_leadDown_47 fk_1_34 (o2_o Wp.1) rfl ?_
    refine x_icmp_geN (tgt := 119) d_X1_leadDown_50 (by decide) (by omega) (by omega) (fun c_1 => by exfalso; omega) (fun c_1 => ?_)
    refine x_aload_n rfl d_X1_leadDown_53 ?_
    refine x_iload_n rfl d_X1_leadDown_54 ?_
    refine x_rdV d_X1_leadDown_55 lk_1_38 mo_X2_rowAt vi_X2_rowAt (sp_rowAt Wp.1 hn20 hr) (o2_o Wp.1) ⟨_, rfl, rfl⟩ rfl ⟨Nat.le_of_ble_eq_true rfl, Nat.le_of_ble_eq_true rfl⟩ rfl rfl (Nat.zero_le _) (Nat.zero_le _) (Nat.le_of_ble_eq_true rfl) rfl ?_
    refine x_astore_n d_X1_leadDown_58 (Nat.le_of_ble_eq_true rfl) ?_
    refine x_aload_n rfl d_X1_leadDown_59 ?_
    refine x_iload_n rfl d_X1_leadDown_60 ?_
    refine x_iconst (v := nI 1) (by decide) d_X1_leadDown_61 ?_
    refine x_iaddN d_X1_leadDown_62 ?_
    refine x_rdV d_X1_leadDown_63 lk_1_38 mo_X2_rowAt vi_X2_rowAt (sp_rowAt Wp.1 hn20 hr1) (o2_o Wp.1) ⟨_, rfl, rfl⟩ rfl ⟨Nat.le_of_ble_eq_true rfl, Nat.le_of_ble_eq_true rfl⟩ rfl rfl (Nat.zero_le _) (Nat.zero_le _) (Nat.le_of_ble_eq_true rfl) rfl ?_
    refine x_astore d_X1_leadDown_66 (Nat.le_of_ble_eq_true rfl) ?_
    refine x_aload_n rfl d_X1_leadDown_68 ?_
    refine x_ifnull d_X1_leadDown_69 ?_
    refine x_aload rfl d_X1_leadDown_72 ?_
    refine x_ifnull d_X1_leadDown_74 ?_
    refine x_aload_n rfl d_X1_leadDown_77 ?_
    refine x_aload rfl d_X1_leadDown_78 ?_
    refine x_wvV d_X1_leadDown_80 lk_1_42 mo_X1_countWholeSides vi_X1_countWholeSides (sp_cws (Wp.2.2.1 (r + 1) hr1).2.1 (gOK_fit G hpl hr1) (hcb.2 (r + 1) hr1) (Wp.2.2.1 (r + 1) hr1).1 H) (o1_o H) ⟨_, rfl, rfl⟩ rfl ⟨Nat.le_of_ble_eq_true rfl, Nat.le_of_ble_eq_true rfl⟩ (Nat.zero_le _) (Nat.zero_le _) (Nat.le_of_ble_eq_true rfl) rfl (fun h1 hp e1 e2 => ?_)
    obtain ⟨F1, E1, H1, C1, O1⟩ := hp
    have FF1 := F.tr F1
    have Wp1 := pW_ap Wp0 FF1 hcb
    refine x_aload_n rfl d_X1_leadDown_83 ?_
    refine x_iload_n rfl d_X1_leadDown_84 ?_
    refine x_aload_n rfl d_X1_leadDown_85 ?_
    refine x_wvV d_X1_leadDown_86 lk_1_46 mo_X1_lose vi_X1_lose (sp_lose (hpl r hr) (by omega) (fun k hk => by rw [C1 k hk]; exact wbl_le24 (hpl (r + 1) hr1)) (hcb.2 r hr) (Wp1.2.2.1 r hr).1 H1) (o1_o H1) ⟨_, rfl, rfl⟩ rfl ⟨Nat.le_of_ble_eq_true rfl, Nat.le_of_ble_eq_true rfl⟩ (Nat.zero_le _) (Nat.zero_le _) (Nat.le_of_ble_eq_true rfl) rfl (fun h2 hp e1 e2 => ?_)
    obtain ⟨F2, E2, H2, C2, O2⟩ := hp
    have FF2 := FF1.tr F2
    have Wp2 := pW_ap Wp0 FF2 hcb
    have V2 : ∀ r2 k, r2 < r + 1 → k < R r2 0 0 → E2 2 (20 * k + r2) = uLd (P 6) R r2 k := fun r2 k h1 h2 => by rw [O2 2 _ (by decide), O1 2 _ (by decide)]; exact V r2 k h1 h2
    have W2 : ∀ k, k < 24 → E2 3 k = wsd R r k := fun k hk => by rw [O2 3 _ (by decide)]; exact C1 k hk
    have A2 : E2 0 0 = uLo (P 6) R (r + 1) := by
          rw [C2, O1 0 _ (by decide), A]
          show _ = uLo (P 6) R r + uLp (P 6) R r
          congr 1
          exact fb_sm_cong (fun k hk => by rw [C1 k (by have := hpl r hr; omega), O1 2 _ (by decide), V r k (by omega) hk]; rfl)
    refine x_aload_n rfl d_X1_leadDown_89 ?_
    refine x_iload_n rfl d_X1_leadDown_90 ?_
    refine x_aload rfl d_X1_leadDown_91 ?_
    refine x_wvV d_X1_leadDown_93 lk_1_50 mo_X1_handOn vi_X1_handOn (sp_handOn (Wp2.2.2.1 (r + 1) hr1).2.1 (gOK_fit G hpl hr1) (by omega) (fun j q hj hw => by have z := gOK_wh G hr1 hj hw; rw [V2 r q (by omega) z]; have := uLd_le (p := P 6) G hpl hp hr z; omega) (fun k hk => by rw [W2 k hk]; exact wbl_le24 (hpl (r + 1) hr1)) (hcb.2 (r + 1) hr1) (Wp2.2.2.1 (r + 1) hr1).1 H2) (o1_o H2) ⟨_, rfl, rfl⟩ rfl ⟨Nat.le_of_ble_eq_true rfl, Nat.le_of_ble_eq_true rfl⟩ (Nat.zero_le _) (Nat.zero_le _) (Nat.le_of_ble_eq_true rfl) rfl (fun h3 hp e1 e2 => ?_)
    obtain ⟨F3, E3, H3, O3, C3⟩ := hp
    refine x_goto (tgt := 113) d_X1_leadDown_96 (by decide) ?_
    refine x_iincN (m := 1) d_X1_leadDown_113 rfl (by decide) (Nat.le_of_ble_eq_true rfl) ?_
    refine x_goto (tgt := 45) d_X1_leadDown_116 (by decide) ?_
    refine nG.sub (by exact (And.intro rfl (And.intro rfl (And.intro rfl True.intro)))) (ih (r + 1) (by omega) h3 E3 (FF2.tr F3) H3 ((O3.1 0 0 (by decide)).trans A2) (fun r2 k h1 h2 => ?_))
    rcases Nat.lt_succ_iff_lt_or_eq.mp h1 with z | z
    · rw [O3.2 k r2 (by omega) (by omega)]; exact V2 r2 k z h2
    · subst z
      rw [C3 k h2]
      show fb_sm (fun q => nb (iwh (R (r + 1)) k q) * (E2 2 (20 * q + r) / E2 3 q)) 24 = fb_sm (fun q => nb (iwh (R (r + 1)) k q) * (uLd (P 6) R r q / wsd R r q)) 24
      refine fb_sm_cong (fun q hq => ?_)
      rw [W2 q hq]
      rcases e : iwh (R (r + 1)) k q with _ | _
      · show 0 * _ = 0 * _
        rw [Nat.zero_mul, Nat.zero_mul]
      · rw [V2 r q (by omega) (gOK_wh G hr1 h2 e)]
theorem lp_ld0 {c b : Nat} {P : Nat → Nat → Nat} {R : Nat → Nat → Nat → Nat} (G : gOK (P 5 0) R) (hp : hPl (P 6)) (hn : 1 ≤ P 5 0) (hcb : apW c 23 b P) {h0 : nPH} (Wp0 : pW h0 b P R) : ∀ n k : Nat, k + n = 24 → ∀ (h : nPH) (E : Nat → Nat → Nat), nFr (nIv c 23) h0 h → o1 h c E → E 0 0 = 0 → (∀ k2, k2 < k → E 2 (20 * k2 + 0) = P 6 k2 * 609359740010496) → nG YX1_leadDown (nKy YX1_leadDown h0.1 h0.2.1 (fun v h2 => v = none ∧ nFr (nIv c 23) h0 h2 ∧ ∃ E2, o1 h2 c E2 ∧ E2 0 0 = uLo (P 6) R (P 5 0 - 1) ∧ E2 1 0 = uLs (P 6) R (P 5 0 - 1) ∧ ∀ r k, r < P 5 0 → k < R r 0 0 → E2 2 (20 * k + r) = uLd (P 6) R r k)) 0 0 12 [some (.ref (c)), some (.ref (b)), some (.int (nI (k))), none, none] [] h := by
  intro n
  induction n with
  | zero =>
    intro k hk h E F H A C
    have Wp := pW_ap Wp0 F hcb
    have hpl := fun j hj => (Wp.2.2.1 j hj).2.1.1
    have hn20 := Wp.2.1
    refine x_iload_n rfl d_X1_leadDown_12 ?_
    refine x_bipush (v := nI 24) (by decide) d_X1_leadDown_13 ?_
    refine x_icmp_geN (tgt := 43) d_X1_leadDown_15 (by decide) (by omega) (by omega) (fun c_1 => ?_) (fun c_1 => by exfalso; omega)
    refine x_iconst (v := nI 0) (by decide) d_X1_leadDown_43 ?_
    refine x_istore_n d_X1_leadDown_44 (Nat.le_of_ble_eq_true rfl) ?_
    refine nG.sub (by exact (And.intro rfl (And.intro rfl (And.intro rfl True.intro)))) (lp_ld G hp hn hcb Wp0 (P 5 0 - 1) 0 (by omega) h E F H A (fun r2 k2 h1 h2 => ?_))
    have e0 : r2 = 0 := by omega
    subst e0
    have := hpl 0 (by omega)
    exact C k2 (by omega)
  | succ n ih =>
    intro k hk h E F H A C
    have Wp := pW_ap Wp0 F hcb
    have hpl := fun j hj => (Wp.2.2.1 j hj).2.1.1
    have hn20 := Wp.2.1
    refine x_iload_n rfl d_X1_leadDown_12 ?_
    refine x_bipush (v := nI 24) (by decide) d_X1_leadDown_13 ?_
    refine x_icmp_geN (tgt := 43) d_X1_leadDown_15 (by decide) (by have := hp k (by omega); omega) (by have := hp k (by omega); omega) (fun c_1 => by exfalso; omega) (fun c_1 => ?_)
    refine x_aload_n rfl d_X1_leadDown_18 ?_
    refine x_getf co_all (v := .ref (c + 1)) d_X1_leadDown_19 fk_1_11 (o1_o H) rfl ?_
    refine x_iconst (v := nI 0) (by decide) d_X1_leadDown_22 ?_
    refine x_aaload d_X1_leadDown_23 (o1_2 H) rfl (nIx_nI (j := 0) (by omega) (by decide)) rfl ?_
    refine x_iload_n rfl d_X1_leadDown_24 ?_
    refine x_aload_n rfl d_X1_leadDown_25 ?_
    refine x_getf co_all (v := .ref (b + 2)) d_X1_leadDown_26 fk_1_27 (o2_o Wp.1) rfl ?_
    refine x_iload_n rfl d_X1_leadDown_29 ?_
    refine x_iaload d_X1_leadDown_30 (o2_6 Wp.1) (nIx_nI (j := k) (by omega) (by decide)) ?_
    refine x_i2lN d_X1_leadDown_31 (by have := hp k (by omega); omega) ?_
    refine x_ldc2 (v := lN 609359740010496) d_X1_leadDown_32 ct_1_32 ?_
    refine x_lmulN d_X1_leadDown_35 ?_
    refine x_lastore d_X1_leadDown_36 (o1_2i H (r := (0)) (by omega)) (nIx_nI (j := k) (by omega) (by decide)) (Nat.le_trans (o1_B H) (Nat.le_add_right _ _)) ?_
    have H2_1 := o1_ast2 (0) (k) ((P 6 k) * 609359740010496) (by omega) H
    have f_3 := o1_f2 (0) (k) ((P 6 k) * 609359740010496) (by omega) H (F) (by exact ⟨by omega, by omega⟩)
    refine x_iincN (m := 1) d_X1_leadDown_37 rfl (by decide) (Nat.le_of_ble_eq_true rfl) ?_
    refine x_goto (tgt := 12) d_X1_leadDown_40 (by decide) ?_
    refine ih (k + 1) (by omega) _ _ f_3 H2_1 A (fun k2 hk2 => ?_)
    by_cases e : k2 = k
    · rw [e, u2_eq]
    · rw [u2_ne (by omega)]; exact C k2 (by omega)
theorem sp_leadDown {c b : Nat} {P : Nat → Nat → Nat} {R : Nat → Nat → Nat → Nat} (G : gOK (P 5 0) R) (hp : hPl (P 6)) (hn : 1 ≤ P 5 0) (hcb : apW c 23 b P) {h0 : nPH} (Wp0 : pW h0 b P R) {E0 : Nat → Nat → Nat} (H : o1 h0 c E0) : nWv YX1_leadDown [.ref c, .ref b] h0 none (fun h2 => nFr (nIv c 23) h0 h2 ∧ ∃ E2, o1 h2 c E2 ∧ E2 0 0 = uLo (P 6) R (P 5 0 - 1) ∧ E2 1 0 = uLs (P 6) R (P 5 0 - 1) ∧ ∀ r k, r < P 5 0 → k < R r 0 0 → E2 2 (20 * k + r) = uLd (P 6) R r k) := by
  refine nSp_of (by decide +kernel) rfl (Nat.le_of_ble_eq_true rfl) (ls := [some (.ref (c)), some (.ref (b)), none, none, none]) (by exact (And.intro rfl (And.intro rfl True.intro))) ?_
  refine x_aload_n rfl d_X1_leadDown_0 ?_
  refine x_lconst (v := lN 0) (by decide) d_X1_leadDown_1 ?_
  refine x_putf co_all d_X1_leadDown_2 fk_1_20 ft_1_0 (o1_o H) (Nat.le_of_ble_eq_true rfl) rfl rfl (o1_B H) ?_
  have H1_1 := o1_put0 (0) H
  have f_2 := o1_g0 (0) H ((nFr.rf (S := nIv c 23) (h := h0))) (by exact ⟨by omega, by omega⟩)
  refine x_aload_n rfl d_X1_leadDown_5 ?_
  refine x_lconst (v := lN 0) (by decide) d_X1_leadDown_6 ?_
  refine x_putf co_all d_X1_leadDown_7 fk_1_24 ft_1_1 (o1_o H1_1) (Nat.le_of_ble_eq_true rfl) rfl rfl (o1_B H1_1) ?_
  have H3_1 := o1_put1 (0) H1_1
  have f_4 := o1_g1 (0) H1_1 (f_2) (by exact ⟨by omega, by omega⟩)
  refine x_iconst (v := nI 0) (by decide) d_X1_leadDown_10 ?_
  refine x_istore_n d_X1_leadDown_11 (Nat.le_of_ble_eq_true rfl) ?_
  exact nG.sub (by exact (And.intro rfl (And.intro rfl (And.intro rfl True.intro)))) (lp_ld0 G hp hn hcb Wp0 24 0 (by omega) _ _ f_4 H3_1 rfl (fun k2 hk2 => absurd hk2 (by omega)))
