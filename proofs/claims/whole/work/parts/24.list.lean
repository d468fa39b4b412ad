/-! the hole: its list -/
def gsx (P : Nat → Nat → Nat) (R : Nat → Nat → Nat → Nat) (x : Nat) : Nat := gsd P R (x / 24) (x % 24)
def hod (P : Nat → Nat → Nat) (R : Nat → Nat → Nat → Nat) (T : Nat → Bool) (n : Nat) : Nat := fb_sm (fun x => nb (T x) * (gsx P R x % 2)) n
def hen (P : Nat → Nat → Nat) (R : Nat → Nat → Nat → Nat) (T : Nat → Bool) (n : Nat) : Nat := fb_sm (fun x => nb (T x) * gsx P R x) n
def hTo (T : Nat → Bool) (E : Nat → Nat → Nat) : Prop := ∀ r k, r < 20 → k < 24 → E 6 (20 * k + r) = nb (T (24 * r + k))
def hLL (P : Nat → Nat → Nat) (R : Nat → Nat → Nat → Nat) (T : Nat → Bool) (n : Nat) (E : Nat → Nat → Nat) : Prop := E 0 0 = 1 ∧ E 1 0 = fb_ct T n ∧ E 3 0 = hod P R T n ∧ ∀ x, x < n → T x = true → E 4 (fb_ct T x) = 100 * (x / 24) + x % 24 ∧ E 5 (fb_ct T x) = gsx P R x % 2
/-- the hole holds the knots of T -/
def hIs (P : Nat → Nat → Nat) (R : Nat → Nat → Nat → Nat) (T : Nat → Bool) (E : Nat → Nat → Nat) : Prop := hLL P R T 480 E ∧ E 2 0 = hen P R T 480 / 2
theorem ct_T {T : Nat → Bool} {x : Nat} (h : T x = true) : fb_ct T (x + 1) = fb_ct T x + 1 := by rw [fb_ct_succ, if_pos h]
theorem ct_F {T : Nat → Bool} {x : Nat} (h : T x = false) : fb_ct T (x + 1) = fb_ct T x := by rw [fb_ct_succ, if_neg (by rw [h]; decide)]; rfl
theorem ct_lt {T : Nat → Bool} {x n : Nat} (h : T x = true) (hx : x < n) : fb_ct T x < fb_ct T n := by
  have := fb_ct_mono T (show x + 1 ≤ n by omega)
  rw [ct_T h] at this
  omega
section HLL
variable {P : Nat → Nat → Nat} {R : Nat → Nat → Nat → Nat} {T : Nat → Bool} {n : Nat} {E : Nat → Nat → Nat}
theorem hLL_F (L : hLL P R T n E) (h : T n = false) : hLL P R T (n + 1) E := by
  obtain ⟨h1, h2, h3, h4⟩ := L
  refine ⟨h1, by rw [ct_F h]; exact h2, ?_, fun x hx hT => ?_⟩
  · rw [h3]
    show _ = hod P R T n + nb (T n) * _
    rw [nb_F h, Nat.zero_mul, Nat.add_zero]
  · rcases Nat.lt_succ_iff_lt_or_eq.mp hx with z | z
    · exact h4 x z hT
    · subst z
      rw [h] at hT; cases hT
theorem hen_F (h : T n = false) : hen P R T (n + 1) = hen P R T n := by
  show hen P R T n + nb (T n) * _ = _
  rw [nb_F h, Nat.zero_mul, Nat.add_zero]
theorem hen_T (h : T n = true) : hen P R T (n + 1) = hen P R T n + gsx P R n := by
  show hen P R T n + nb (T n) * _ = _
  rw [nb_T h, Nat.one_mul]
theorem hod_T (h : T n = true) : hod P R T (n + 1) = hod P R T n + gsx P R n % 2 := by
  show hod P R T n + nb (T n) * _ = _
  rw [nb_T h, Nat.one_mul]
theorem hLL_T (L : hLL P R T n E) (h : T n = true) {r k g : Nat} (hn : n = 24 * r + k) (hk : k < 24) (hg : g = gsx P R n) : hLL P R T (n + 1) (u2 (u2 (u2 (u2 E 4 (E 1 0) (100 * r + k)) 5 (E 1 0) (g % 2)) 3 0 (E 3 0 + g % 2)) 1 0 (E 1 0 + 1)) := by
  obtain ⟨h1, h2, h3, h4⟩ := L
  refine ⟨h1, ?_, ?_, fun x hx hT => ?_⟩
  · rw [u2_eq, h2, ct_T h]
  · rw [u2_ne (by omega), u2_eq, h3, hod_T h, hg]
  · have a4 : ∀ i, u2 (u2 (u2 (u2 E 4 (E 1 0) (100 * r + k)) 5 (E 1 0) (g % 2)) 3 0 (E 3 0 + g % 2)) 1 0 (E 1 0 + 1) 4 i = u2 E 4 (E 1 0) (100 * r + k) 4 i := fun i => by rw [u2_ne (by omega), u2_ne (by omega), u2_ne (by omega)]
    have a5 : ∀ i, u2 (u2 (u2 (u2 E 4 (E 1 0) (100 * r + k)) 5 (E 1 0) (g % 2)) 3 0 (E 3 0 + g % 2)) 1 0 (E 1 0 + 1) 5 i = u2 (u2 E 4 (E 1 0) (100 * r + k)) 5 (E 1 0) (g % 2) 5 i := fun i => by rw [u2_ne (by omega), u2_ne (by omega)]
    rw [a4, a5]
    rcases Nat.lt_succ_iff_lt_or_eq.mp hx with z | z
    · have := ct_lt hT z
      rw [u2_ne (by omega), u2_ne (by omega), u2_ne (by omega)]
      exact h4 x z hT
    · subst z
      rw [← h2, u2_eq, u2_eq, hg]
      exact ⟨by omega, rfl⟩
theorem hLL_6 (M : hTo T E) {g v : Nat} : hTo T (u2 (u2 (u2 (u2 E 4 (E 1 0) v) 5 (E 1 0) (g % 2)) 3 0 (E 3 0 + g % 2)) 1 0 (E 1 0 + 1)) := fun r k hr hk => by
  rw [u2_ne (by omega), u2_ne (by omega), u2_ne (by omega), u2_ne (by omega)]
  exact M r k hr hk
end HLL
theorem gsd_le {P : Nat → Nat → Nat} {R : Nat → Nat → Nat → Nat} {j i : Nat} (h : j + 1 < P 5 0 → R (j + 1) 0 0 ≤ 24) : gsd P R j i ≤ 48 := by
  unfold gsd
  have h1 := pcn_le (R j 6 i)
  split
  · rename_i hj
    have h2 : gbl (R (j + 1)) i (R (j + 1) 0 0) ≤ R (j + 1) 0 0 * 1 := fb_sm_bound (fun q _ => nb_le _)
    have := h hj
    omega
  · omega
theorem hen_le {P : Nat → Nat → Nat} {R : Nat → Nat → Nat → Nat} {T : Nat → Bool} (h : ∀ j, j < P 5 0 → R j 0 0 ≤ 24) (n : Nat) : hen P R T n ≤ n * 48 := fb_sm_bound (fun x _ => by
  have h1 := gsd_le (P := P) (R := R) (j := x / 24) (i := x % 24) (fun z => h _ z)
  have h2 := nb_le (T x)
  show nb (T x) * gsx P R x ≤ 48
  unfold gsx
  calc nb (T x) * gsd P R (x / 24) (x % 24) ≤ 1 * 48 := Nat.mul_le_mul h2 h1
    _ = 48 := rfl)
theorem hIs_of {P : Nat → Nat → Nat} {R : Nat → Nat → Nat → Nat} {T : Nat → Bool} {E : Nat → Nat → Nat} (L : hLL P R T 480 E) : hIs P R T (u2 E 2 0 (hen P R T 480 / 2)) := ⟨L, u2_eq _ _ _ _⟩
theorem lp_ls1 {a b : Nat} {P : Nat → Nat → Nat} {R : Nat → Nat → Nat → Nat} {T : Nat → Bool} (hT : ∀ x, T x = true → gIn (P 5 0) R x) (hap : apW a 25 b P) {h0 : nPH} (Wp0 : pW h0 b P R) {r : Nat} (hr : r < 20) (K : ∀ (h : nPH) (E : Nat → Nat → Nat), nFr (nIv a 25) h0 h → o0 h a E → hTo T E → hLL P R T (24 * (r + 1)) E → nG YX0_listReached (nKy YX0_listReached h0.1 h0.2.1 (fun v h2 => v = none ∧ nFr (nIv a 25) h0 h2 ∧ ∃ E2, o0 h2 a E2 ∧ hIs P R T E2)) 0 0 4 [some (.ref (a)), some (.ref (b)), some (.int (nI (hen P R T (24 * (r + 1))))), some (.int (nI (r + 1))), none, none] [] h) : ∀ n k : Nat, k + n = 24 → ∀ (h : nPH) (E : Nat → Nat → Nat), nFr (nIv a 25) h0 h → o0 h a E → hTo T E → hLL P R T (24 * r + k) E → nG YX0_listReached (nKy YX0_listReached h0.1 h0.2.1 (fun v h2 => v = none ∧ nFr (nIv a 25) h0 h2 ∧ ∃ E2, o0 h2 a E2 ∧ hIs P R T E2)) 0 0 13 [some (.ref (a)), some (.ref (b)), some (.int (nI (hen P R T (24 * r + k)))), some (.int (nI (r))), some (.int (nI (k))), none] [] h := by
  intro n
  induction n with
  | zero =>
    intro k hk h E F H M L
    have e24 : k = 24 := by omega
    subst e24
    refine x_iload rfl d_X0_listReached_13 ?_
    refine x_bipush (v := nI 24) (by decide) d_X0_listReached_15 ?_
    refine x_icmp_geN (tgt := 115) d_X0_listReached_17 (by decide) (by omega) (by omega) (fun c_1 => ?_) (fun c_1 => by exfalso; omega)
    refine x_iincN (m := 1) d_X0_listReached_115 rfl (by decide) (Nat.le_of_ble_eq_true rfl) ?_
    refine x_goto (tgt := 4) d_X0_listReached_118 (by decide) ?_
    rw [show 24 * r + 24 = 24 * (r + 1) by omega] at *
    exact nG.sub (by exact (And.intro rfl (And.intro rfl (And.intro rfl (And.intro rfl True.intro))))) (K h E F H M L)
  | succ n ih =>
    intro k hk h E F H M L
    have Wp := pW_ap Wp0 F hap
    have hpl := fun j hj => (Wp.2.2.1 j hj).2.1.1
    have hTk := M r k hr (by omega)
    have hTl := nb_le (T (24 * r + k))
    have hct := fb_ct_le T (24 * r + k)
    have hL1 := L.2.1
    refine x_iload rfl d_X0_listReached_13 ?_
    refine x_bipush (v := nI 24) (by decide) d_X0_listReached_15 ?_
    refine x_icmp_geN (tgt := 115) d_X0_listReached_17 (by decide) (by omega) (by omega) (fun c_1 => by exfalso; omega) (fun c_1 => ?_)
    refine x_aload_n rfl d_X0_listReached_20 ?_
    refine x_getf co_all (v := .ref (a + 3)) d_X0_listReached_21 fk_0_20 (o0_o H) rfl ?_
    refine x_iload_n rfl d_X0_listReached_24 ?_
    refine x_aaload d_X0_listReached_25 (o0_6 H) rfl (nIx_nI (j := r) (by omega) (by decide)) rfl ?_
    refine x_iload rfl d_X0_listReached_26 ?_
    refine x_iaload d_X0_listReached_28 (o0_6i H (r := (r)) (by omega)) (nIx_nI (j := k) (by omega) (by decide)) ?_
    show nG _ _ _ _ _ _ (.int (nI (E 6 (20 * k + r))) :: _) _
    refine x_iconst (v := nI 1) (by decide) d_X0_listReached_29 ?_
    refine x_icmp_neN (tgt := 109) d_X0_listReached_30 (by decide) (by omega) (by omega) (fun c_2 => ?_) (fun c_2 => ?_)
    · refine x_iincN (m := 1) d_X0_listReached_109 rfl (by decide) (Nat.le_of_ble_eq_true rfl) ?_
      refine x_goto (tgt := 13) d_X0_listReached_112 (by decide) ?_
      have hF : T (24 * r + k) = false := by first | (exact nb_0.mp (by omega)) | (exfalso; omega)
      have Z := ih (k + 1) (by omega) h E F H M (hLL_F L hF)
      rw [show 24 * r + (k + 1) = 24 * r + k + 1 from rfl, hen_F hF] at Z
      exact nG.sub (by exact (And.intro rfl (And.intro rfl (And.intro rfl (And.intro rfl (And.intro rfl True.intro)))))) Z
    · have hTt : T (24 * r + k) = true := nb_1.mp (by omega)
      have hgi := hT _ hTt
      unfold gIn at hgi
      have hgs : gsd P R r k = gsx P R (24 * r + k) := by unfold gsx; rw [show (24 * r + k) / 24 = r by omega, show (24 * r + k) % 24 = k by omega]
      rw [show (24 * r + k) / 24 = r by omega, show (24 * r + k) % 24 = k by omega] at hgi
      have hg48 := gsd_le (P := P) (R := R) (j := r) (i := k) (fun z => hpl _ z)
      refine x_aload_n rfl d_X0_listReached_33 ?_
      refine x_getf co_all (v := .int (nI (E 1 0))) d_X0_listReached_34 fk_0_55 (o0_o H) rfl ?_
      refine x_sipush (v := nI 480) (by decide) d_X0_listReached_37 ?_
      refine x_icmp_geN (tgt := 109) d_X0_listReached_40 (by decide) (by omega) (by omega) (fun c_3 => by exfalso; omega) (fun c_3 => ?_)
      refine x_aload_n rfl d_X0_listReached_43 ?_
      refine x_iload_n rfl d_X0_listReached_44 ?_
      refine x_iload rfl d_X0_listReached_45 ?_
      refine x_rdV d_X0_listReached_47 lk_0_29 mo_X2_goneSidesAt vi_X2_goneSidesAt (sp_gsd Wp hgi.1 hgi.2) (o2_o Wp.1) ⟨_, rfl, rfl⟩ rfl ⟨Nat.le_of_ble_eq_true rfl, Nat.le_of_ble_eq_true rfl⟩ rfl rfl (Nat.zero_le _) (Nat.zero_le _) (Nat.le_of_ble_eq_true rfl) rfl ?_
      refine x_istore d_X0_listReached_50 (Nat.le_of_ble_eq_true rfl) ?_
      refine x_aload_n rfl d_X0_listReached_52 ?_
      refine x_getf co_all (v := .ref (a + 1)) d_X0_listReached_53 fk_0_9 (o0_o H) rfl ?_
      refine x_aload_n rfl d_X0_listReached_56 ?_
      refine x_getf co_all (v := .int (nI (E 1 0))) d_X0_listReached_57 fk_0_55 (o0_o H) rfl ?_
      refine x_bipush (v := nI 100) (by decide) d_X0_listReached_60 ?_
      refine x_iload_n rfl d_X0_listReached_62 ?_
      refine x_imulN d_X0_listReached_63 ?_
      refine x_iload rfl d_X0_listReached_64 ?_
      refine x_iaddN d_X0_listReached_66 ?_
      refine x_iastore d_X0_listReached_67 (o0_4 H) (nIx_nI (j := E 1 0) (by omega) (by decide)) (Nat.le_trans (o0_B H) (Nat.le_add_right _ _)) ?_
      have H4_0 := o0_ast4 (E 1 0) ((100 * r) + k) H
      have f_5 := o0_f4 (E 1 0) ((100 * r) + k) H (F) (by exact ⟨by omega, by omega⟩)
      refine x_aload_n rfl d_X0_listReached_68 ?_
      refine x_getf co_all (v := .ref (a + 2)) d_X0_listReached_69 fk_0_15 (o0_o H4_0) rfl ?_
      refine x_aload_n rfl d_X0_listReached_72 ?_
      refine x_getf co_all (v := .int (nI (E 1 0))) d_X0_listReached_73 fk_0_55 (o0_o H4_0) rfl ?_
      refine x_iload rfl d_X0_listReached_76 ?_
      refine x_iconst (v := nI 2) (by decide) d_X0_listReached_78 ?_
      refine x_iremN d_X0_listReached_79 (by omega) (by omega) (by omega) ?_
      refine x_iastore d_X0_listReached_80 (o0_5 H4_0) (nIx_nI (j := E 1 0) (by omega) (by decide)) (Nat.le_trans (o0_B H4_0) (Nat.le_add_right _ _)) ?_
      have H6_0 := o0_ast5 (E 1 0) ((gsd P R r k) % 2) H4_0
      have f_7 := o0_f5 (E 1 0) ((gsd P R r k) % 2) H4_0 (f_5) (by exact ⟨by omega, by omega⟩)
      refine x_aload_n rfl d_X0_listReached_81 ?_
      refine x_dup rfl d_X0_listReached_82 ?_
      refine x_getf co_all (v := .int (nI (E 3 0))) d_X0_listReached_83 fk_0_61 (o0_o H6_0) rfl ?_
      refine x_iload rfl d_X0_listReached_86 ?_
      refine x_iconst (v := nI 2) (by decide) d_X0_listReached_88 ?_
      refine x_iremN d_X0_listReached_89 (by omega) (by omega) (by omega) ?_
      refine x_iaddN d_X0_listReached_90 ?_
      refine x_putf co_all d_X0_listReached_91 fk_0_61 ft_0_3 (o0_o H6_0) (Nat.le_of_ble_eq_true rfl) rfl rfl (o0_B H6_0) ?_
      have H8_0 := o0_put3 ((E 3 0) + ((gsd P R r k) % 2)) H6_0
      have f_9 := o0_g3 ((E 3 0) + ((gsd P R r k) % 2)) H6_0 (f_7) (by exact ⟨by omega, by omega⟩)
      refine x_iload_n rfl d_X0_listReached_94 ?_
      refine x_iload rfl d_X0_listReached_95 ?_
      refine x_iaddN d_X0_listReached_97 ?_
      refine x_istore_n d_X0_listReached_98 (Nat.le_of_ble_eq_true rfl) ?_
      refine x_aload_n rfl d_X0_listReached_99 ?_
      refine x_dup rfl d_X0_listReached_100 ?_
      refine x_getf co_all (v := .int (nI (E 1 0))) d_X0_listReached_101 fk_0_55 (o0_o H8_0) rfl ?_
      refine x_iconst (v := nI 1) (by decide) d_X0_listReached_104 ?_
      refine x_iaddN d_X0_listReached_105 ?_
      refine x_putf co_all d_X0_listReached_106 fk_0_55 ft_0_1 (o0_o H8_0) (Nat.le_of_ble_eq_true rfl) rfl rfl (o0_B H8_0) ?_
      have H10_0 := o0_put1 ((E 1 0) + 1) H8_0
      have f_11 := o0_g1 ((E 1 0) + 1) H8_0 (f_9) (by exact ⟨by omega, by omega⟩)
      refine x_iincN (m := 1) d_X0_listReached_109 rfl (by decide) (Nat.le_of_ble_eq_true rfl) ?_
      refine x_goto (tgt := 13) d_X0_listReached_112 (by decide) ?_
      have Z := ih (k + 1) (by omega) _ _ f_11 H10_0 (hLL_6 M) (hLL_T L hTt rfl (by omega) hgs)
      rw [show 24 * r + (k + 1) = 24 * r + k + 1 from rfl, hen_T hTt, ← hgs] at Z
      exact nG.sub (by exact (And.intro rfl (And.intro rfl (And.intro rfl (And.intro rfl (And.intro rfl True.intro)))))) Z
theorem lp_ls {a b : Nat} {P : Nat → Nat → Nat} {R : Nat → Nat → Nat → Nat} {T : Nat → Bool} (hT : ∀ x, T x = true → gIn (P 5 0) R x) (hap : apW a 25 b P) {h0 : nPH} (Wp0 : pW h0 b P R) : ∀ n r : Nat, r + n = 20 → ∀ (h : nPH) (E : Nat → Nat → Nat), nFr (nIv a 25) h0 h → o0 h a E → hTo T E → hLL P R T (24 * r) E → nG YX0_listReached (nKy YX0_listReached h0.1 h0.2.1 (fun v h2 => v = none ∧ nFr (nIv a 25) h0 h2 ∧ ∃ E2, o0 h2 a E2 ∧ hIs P R T E2)) 0 0 4 [some (.ref (a)), some (.ref (b)), some (.int (nI (hen P R T (24 * r)))), some (.int (nI (r))), none, none] [] h := by
  intro n
  induction n with
  | zero =>
    intro r hr h E F H M L
    have e20 : r = 20 := by omega
    subst e20
    have e480 : 24 * 20 = 480 := rfl
    rw [e480] at *
    have Wp := pW_ap Wp0 F hap
    refine x_iload_n rfl d_X0_listReached_4 ?_
    refine x_bipush (v := nI 20) (by decide) d_X0_listReached_5 ?_
    refine x_icmp_geN (tgt := 121) d_X0_listReached_7 (by decide) (by omega) (by omega) (fun c_1 => ?_) (fun c_1 => by exfalso; omega)
    refine x_aload_n rfl d_X0_listReached_121 ?_
    refine x_iload_n rfl d_X0_listReached_122 ?_
    refine x_iconst (v := nI 2) (by decide) d_X0_listReached_123 ?_
    refine x_idivN d_X0_listReached_124 (by have := hen_le (T := T) (fun j hj => (Wp.2.2.1 j hj).2.1.1) 480; omega) (by have := hen_le (T := T) (fun j hj => (Wp.2.2.1 j hj).2.1.1) 480; omega) (by have := hen_le (T := T) (fun j hj => (Wp.2.2.1 j hj).2.1.1) 480; omega) ?_
    refine x_putf co_all d_X0_listReached_125 fk_0_58 ft_0_2 (o0_o H) (Nat.le_of_ble_eq_true rfl) rfl rfl (o0_B H) ?_
    have H2_0 := o0_put2 ((hen P R T (480)) / 2) H
    have f_3 := o0_g2 ((hen P R T (480)) / 2) H (F) (by exact ⟨by omega, by omega⟩)
    exact x_return d_X0_listReached_128 rfl (f_3).1 (f_3).2.1 (Nat.zero_le _) (Nat.zero_le _) (⟨rfl, f_3, _, H2_0, hIs_of L⟩)
  | succ n ih =>
    intro r hr h E F H M L
    have Wp := pW_ap Wp0 F hap
    refine x_iload_n rfl d_X0_listReached_4 ?_
    refine x_bipush (v := nI 20) (by decide) d_X0_listReached_5 ?_
    refine x_icmp_geN (tgt := 121) d_X0_listReached_7 (by decide) (by omega) (by omega) (fun c_1 => by exfalso; omega) (fun c_1 => ?_)
    refine x_iconst (v := nI 0) (by decide) d_X0_listReached_10 ?_
    refine x_istore d_X0_listReached_11 (Nat.le_of_ble_eq_true rfl) ?_
    exact lp_ls1 hT hap Wp0 (by omega) (fun h E F H M L => ih (r + 1) (by omega) h E F H M L) 24 0 (by omega) h E F H M L
theorem sp_listReached {a b : Nat} {P : Nat → Nat → Nat} {R : Nat → Nat → Nat → Nat} {T : Nat → Bool} (hT : ∀ x, T x = true → gIn (P 5 0) R x) (hap : apW a 25 b P) {h0 : nPH} (Wp0 : pW h0 b P R) {E : Nat → Nat → Nat} (H : o0 h0 a E) (M : hTo T E) (i0 : E 0 0 = 1) (i1 : E 1 0 = 0) (i3 : E 3 0 = 0) : nWv YX0_listReached [.ref a, .ref b] h0 none (fun h2 => nFr (nIv a 25) h0 h2 ∧ ∃ E2, o0 h2 a E2 ∧ hIs P R T E2) := by
  refine nSp_of (by decide +kernel) rfl (Nat.le_of_ble_eq_true rfl) (ls := [some (.ref (a)), some (.ref (b)), none, none, none, none]) (by exact (And.intro rfl (And.intro rfl True.intro))) ?_
  refine x_iconst (v := nI 0) (by decide) d_X0_listReached_0 ?_
  refine x_istore_n d_X0_listReached_1 (Nat.le_of_ble_eq_true rfl) ?_
  refine x_iconst (v := nI 0) (by decide) d_X0_listReached_2 ?_
  refine x_istore_n d_X0_listReached_3 (Nat.le_of_ble_eq_true rfl) ?_
  exact nG.sub (by exact (And.intro rfl (And.intro rfl (And.intro rfl (And.intro rfl True.intro))))) (lp_ls hT hap Wp0 20 0 (by omega) h0 E nFr.rf H M ⟨i0, i1, i3, fun x hx => absurd hx (by omega)⟩)
