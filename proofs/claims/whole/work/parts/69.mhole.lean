/-! the model: hole -/
theorem hod_F {P : Nat → Nat → Nat} {R : Nat → Nat → Nat → Nat} {T : Nat → Bool} {n : Nat} (h : T n = false) : hod P R T (n + 1) = hod P R T n := by
  unfold hod
  rw [fb_sm_succ, h]
  show _ + 0 * _ = _
  rw [Nat.zero_mul, Nat.add_zero]
theorem hod_le2 (P : Nat → Nat → Nat) (R : Nat → Nat → Nat → Nat) (T : Nat → Bool) (n : Nat) : hod P R T n ≤ n := by
  have : hod P R T n ≤ n * 1 := fb_sm_bound (fun x _ => by
    have h1 := nb_le (T x)
    have h2 := Nat.mod_lt (gsx P R x) (show 2 > 0 by decide)
    calc nb (T x) * (gsx P R x % 2) ≤ 1 * 1 := Nat.mul_le_mul h1 (by omega)
      _ = 1 := rfl)
  omega
theorem lp_modd {h : nPH} {b : Nat} {M V : Nat → Nat → Nat} {P : Nat → Nat → Nat → Nat} {R : Nat → Nat → Nat → Nat → Nat} {E Y T S : Nat → Nat → Nat} (H : o8 h b M) (W : rW M V P R E Y T S) (O : kO V P R) {p : Nat} (hp : p < V 1 0) {T0 : Nat → Bool} (hin : ∀ x, T0 x = true → gIn (P p 5 0) (R p) x) (e18 : ∀ x, x < 480 → M 18 x = nb (T0 x)) : ∀ d i : Nat, i + d = 480 → nG YX8_oddOnes (nKy YX8_oddOnes h.1 h.2.1 (fun v h2 => v = some (.int (nI (hod (P p) (R p) T0 480))) ∧ h2 = h)) 0 0 4 [some (.ref (b)), some (.int (nI (p))), some (.int (nI (hod (P p) (R p) T0 i))), some (.int (nI (i)))] [] h := by
  intro d
  induction d with
  | zero =>
    intro i hi
    refine x_iload_n rfl d_X8_oddOnes_4 ?_
    refine x_sipush (v := nI 480) (by decide) d_X8_oddOnes_5 ?_
    refine x_icmp_geN (tgt := 48) d_X8_oddOnes_8 (by decide) (by omega) (by omega) (fun c_1 => ?_) (fun c_1 => by exfalso; omega)
    refine x_iload_n rfl d_X8_oddOnes_48 ?_
    exact x_ireturn d_X8_oddOnes_49 rfl rfl rfl rfl (Nat.zero_le _) (Nat.zero_le _) (⟨by rw [show i = 480 by omega], rfl⟩)
  | succ d ih =>
    intro i hi
    obtain ⟨p1, p2, p3, p4, p5, p6, p7, p8⟩ := rW_p W O hp
    have x18 := e18 i (by omega)
    have xnb := nb_le (T0 i)
    refine x_iload_n rfl d_X8_oddOnes_4 ?_
    refine x_sipush (v := nI 480) (by decide) d_X8_oddOnes_5 ?_
    refine x_icmp_geN (tgt := 48) d_X8_oddOnes_8 (by decide) (by omega) (by omega) (fun c_1 => by exfalso; omega) (fun c_1 => ?_)
    refine x_aload_n rfl d_X8_oddOnes_11 ?_
    refine x_getf co_all (v := .ref (b + 16)) d_X8_oddOnes_12 fk_8_60 (o8_o H) rfl ?_
    refine x_iload_n rfl d_X8_oddOnes_15 ?_
    refine x_baload d_X8_oddOnes_16 (o8_18 H) (nIx_nI (j := i) (by omega) (by decide)) ?_
    refine x_if_eqN (tgt := 42) d_X8_oddOnes_17 (by decide) (by omega) (fun c_in => ?_) (fun c_in => ?_)
    · refine x_iincN (m := 1) d_X8_oddOnes_42 rfl (by decide) (Nat.le_of_ble_eq_true rfl) ?_
      refine x_goto (tgt := 4) d_X8_oddOnes_45 (by decide) ?_
      have q := ih (i + 1) (by omega)
      first | (rw [hod_F (P := P p) (R := R p) (T := T0) (n := i) (nb_0.mp (by rw [← x18]; exact c_in))] at q) | (rw [hod_T hTi, show gsx (P p) (R p) i % 2 = 0 by omega, Nat.add_zero] at q)
      exact q
    · have hTi : T0 i = true := nb_n0.mp (by rw [← x18]; exact c_in)
      obtain ⟨hi1, hi2⟩ := hin i hTi
      rw [← p4] at hi1
      have hi3 := hi2
      have egs := rW_gs W O hp (show i / 24 < P p 5 0 by omega) hi2
      change mgs M p (i / 24) (i % 24) = gsx (P p) (R p) i at egs
      refine x_aload_n rfl d_X8_oddOnes_20 ?_
      refine x_iload_n rfl d_X8_oddOnes_21 ?_
      refine x_iload_n rfl d_X8_oddOnes_22 ?_
      refine x_bipush (v := nI 24) (by decide) d_X8_oddOnes_23 ?_
      refine x_idivN d_X8_oddOnes_25 (by omega) (by omega) (by omega) ?_
      refine x_iload_n rfl d_X8_oddOnes_26 ?_
      refine x_bipush (v := nI 24) (by decide) d_X8_oddOnes_27 ?_
      refine x_iremN d_X8_oddOnes_29 (by omega) (by omega) (by omega) ?_
      refine x_rdV d_X8_oddOnes_30 lk_8_149 mo_X8_goneAt vi_X8_goneAt (sp_mgs H p3 (r := i / 24) hi1 (k := i % 24) (by omega) p8) (o8_o H) ⟨_, rfl, rfl⟩ rfl ⟨Nat.le_of_ble_eq_true rfl, Nat.le_of_ble_eq_true rfl⟩ rfl rfl (Nat.zero_le _) (Nat.zero_le _) (Nat.le_of_ble_eq_true rfl) rfl ?_
      rw [egs]
      refine x_iconst (v := nI 2) (by decide) d_X8_oddOnes_33 ?_
      refine x_iremN d_X8_oddOnes_34 (by have := gsd_le (P := P p) (R := R p) (j := i / 24) (i := i % 24) (fun h => (p7.2.2.1 (i / 24 + 1) h).1); change gsx (P p) (R p) i ≤ 48 at this; omega) (by have := gsd_le (P := P p) (R := R p) (j := i / 24) (i := i % 24) (fun h => (p7.2.2.1 (i / 24 + 1) h).1); change gsx (P p) (R p) i ≤ 48 at this; omega) (by have := gsd_le (P := P p) (R := R p) (j := i / 24) (i := i % 24) (fun h => (p7.2.2.1 (i / 24 + 1) h).1); change gsx (P p) (R p) i ≤ 48 at this; omega) ?_
      refine x_iconst (v := nI 1) (by decide) d_X8_oddOnes_35 ?_
      refine x_icmp_neN (tgt := 42) d_X8_oddOnes_36 (by decide) (by omega) (by omega) (fun c_odd => ?_) (fun c_odd => ?_)
      · refine x_iincN (m := 1) d_X8_oddOnes_42 rfl (by decide) (Nat.le_of_ble_eq_true rfl) ?_
        refine x_goto (tgt := 4) d_X8_oddOnes_45 (by decide) ?_
        have q := ih (i + 1) (by omega)
        first | (rw [hod_F (P := P p) (R := R p) (T := T0) (n := i) (nb_0.mp (by rw [← x18]; exact c_in))] at q) | (rw [hod_T hTi, show gsx (P p) (R p) i % 2 = 0 by omega, Nat.add_zero] at q)
        exact q
      · refine x_iincN (m := 1) d_X8_oddOnes_39 rfl (by decide) (Nat.le_of_ble_eq_true rfl) ?_
        refine x_iincN (m := 1) d_X8_oddOnes_42 rfl (by decide) (Nat.le_of_ble_eq_true rfl) ?_
        refine x_goto (tgt := 4) d_X8_oddOnes_45 (by decide) ?_
        have q := ih (i + 1) (by omega)
        rw [hod_T hTi, show gsx (P p) (R p) i % 2 = 1 by omega] at q
        exact q
theorem sp_modd {h : nPH} {b : Nat} {M V : Nat → Nat → Nat} {P : Nat → Nat → Nat → Nat} {R : Nat → Nat → Nat → Nat → Nat} {E Y T S : Nat → Nat → Nat} (H : o8 h b M) (W : rW M V P R E Y T S) (O : kO V P R) {p : Nat} (hp : p < V 1 0) {T0 : Nat → Bool} (hin : ∀ x, T0 x = true → gIn (P p 5 0) (R p) x) (e18 : ∀ x, x < 480 → M 18 x = nb (T0 x)) : nRd YX8_oddOnes [.ref b, .int (nI p)] h (.int (nI (hod (P p) (R p) T0 480))) := by
  refine nSp_of (by decide +kernel) rfl (Nat.le_of_ble_eq_true rfl) (ls := [some (.ref (b)), some (.int (nI (p))), none, none]) (by exact (And.intro rfl (And.intro rfl True.intro))) ?_
  refine x_iconst (v := nI 0) (by decide) d_X8_oddOnes_0 ?_
  refine x_istore_n d_X8_oddOnes_1 (Nat.le_of_ble_eq_true rfl) ?_
  refine x_iconst (v := nI 0) (by decide) d_X8_oddOnes_2 ?_
  refine x_istore_n d_X8_oddOnes_3 (Nat.le_of_ble_eq_true rfl) ?_
  exact lp_modd H W O hp hin e18 480 0 (Nat.zero_add _)
theorem rW_hk {M N V : Nat → Nat → Nat} {P : Nat → Nat → Nat → Nat} {R : Nat → Nat → Nat → Nat → Nat} {E Y T S : Nat → Nat → Nat} (W : rW M V P R E Y T S) (hN : ∀ f j, f ≠ 23 → f ≠ 26 → f ≠ 27 → N f j = M f j) {E2 : Nat → Nat → Nat} (hE : N 22 0 = E2 0 0 ∧ (E2 0 0 = 1 → N 23 0 = E2 1 0 ∧ N 24 0 = E2 2 0 ∧ N 25 0 = E2 3 0 ∧ ∀ i, i < E2 1 0 → N 26 i = E2 4 i ∧ N 27 i = E2 5 i)) : rW N V P R E2 Y T S := by
  have h : ∀ f j, f < 22 ∨ 27 < f → N f j = M f j := fun f j hf => hN f j (by omega) (by omega) (by omega)
  refine rW_out W (fun f i h1 h2 => h f i (by omega)) (h 1 0 (by decide)) rfl ⟨(h 16 0 (by decide)).trans W.1.2.1, fun i hi => (h 17 i (by decide)).trans (W.1.2.2 i hi)⟩ hE ?_ ?_ ?_
  · exact ⟨(h 28 0 (by decide)).trans W.2.2.2.1.1, fun i hi => (h 29 i (by decide)).trans (W.2.2.2.1.2 i hi)⟩
  · rw [h 31 0 (by decide), h 32 0 (by decide), h 33 0 (by decide)]
    exact W.2.2.2.2.1
  · exact ⟨(h 34 0 (by decide)).trans W.2.2.2.2.2.1, fun i hi => (h 35 i (by decide)).trans (W.2.2.2.2.2.2 i hi)⟩
theorem rW_h5 {M N V : Nat → Nat → Nat} {P : Nat → Nat → Nat → Nat} {R : Nat → Nat → Nat → Nat → Nat} {E Y T S : Nat → Nat → Nat} (W : rW M V P R E Y T S) (h : ∀ f j, f < 22 ∨ 27 < f → N f j = M f j) : ∃ E3, rW N V P R E3 Y T S := by
  refine ⟨fun f i => if f = 0 then N 22 0 else if f = 1 then N 23 0 else if f = 2 then N 24 0 else if f = 3 then N 25 0 else if f = 4 then N 26 i else N 27 i, rW_out W (fun f i h1 h2 => h f i (by omega)) (h 1 0 (by decide)) rfl ⟨(h 16 0 (by decide)).trans W.1.2.1, fun i hi => (h 17 i (by decide)).trans (W.1.2.2 i hi)⟩ ⟨rfl, fun _ => ⟨rfl, rfl, rfl, fun _ _ => ⟨rfl, rfl⟩⟩⟩ ?_ ?_ ?_⟩
  · exact ⟨(h 28 0 (by decide)).trans W.2.2.2.1.1, fun i hi => (h 29 i (by decide)).trans (W.2.2.2.1.2 i hi)⟩
  · rw [h 31 0 (by decide), h 32 0 (by decide), h 33 0 (by decide)]
    exact W.2.2.2.2.1
  · exact ⟨(h 34 0 (by decide)).trans W.2.2.2.2.2.1, fun i hi => (h 35 i (by decide)).trans (W.2.2.2.2.2.2 i hi)⟩
theorem lp_mhole {h0 : nPH} {Post : Option Value → nPH → Prop} {b r k : Nat} {M V : Nat → Nat → Nat} {P : Nat → Nat → Nat → Nat} {R : Nat → Nat → Nat → Nat → Nat} {E Y T S : Nat → Nat → Nat} (W : rW M V P R E Y T S) (O : kO V P R) {p : Nat} (hp : p < V 1 0) {T0 : Nat → Bool} (hin : ∀ x, T0 x = true → gIn (P p 5 0) (R p) x) (e18 : ∀ x, x < 480 → M 18 x = nb (T0 x)) (hP : ∀ (h2 : nPH) (N : Nat → Nat → Nat), nFr (nIv b 24) h0 h2 → o8 h2 b N → ((∀ f j, f ≠ 23 → f ≠ 26 → f ≠ 27 → N f j = M f j) ∧ N 23 0 = fb_ct T0 480 ∧ ∀ x, x < 480 → T0 x = true → N 26 (fb_ct T0 x) = 100 * (x / 24) + x % 24 ∧ N 27 (fb_ct T0 x) = gsx (P p) (R p) x % 2) → Post (some (.int (nI (fb_ct T0 480)))) h2) : ∀ d i : Nat, i + d = 480 → ∀ (h : nPH) (N : Nat → Nat → Nat), nFr (nIv b 24) h0 h → o8 h b N → ((∀ f j, f ≠ 23 → f ≠ 26 → f ≠ 27 → N f j = M f j) ∧ N 23 0 = fb_ct T0 i ∧ ∀ x, x < i → T0 x = true → N 26 (fb_ct T0 x) = 100 * (x / 24) + x % 24 ∧ N 27 (fb_ct T0 x) = gsx (P p) (R p) x % 2) → nG YX8_hole (nKy YX8_hole h0.1 h0.2.1 Post) 0 0 49 [some (.ref (b)), some (.int (nI (p))), some (.int (nI (r))), some (.int (nI (k))), some (.int (nI (i)))] [] h := by
  intro d
  induction d with
  | zero =>
    intro i hi h N F H J
    have e : i = 480 := by omega
    subst e
    refine x_iload rfl d_X8_hole_49 ?_
    refine x_sipush (v := nI 480) (by decide) d_X8_hole_51 ?_
    refine x_icmp_geN (tgt := 144) d_X8_hole_54 (by decide) (by omega) (by omega) (fun c_1 => ?_) (fun c_1 => by exfalso; omega)
    refine x_aload_n rfl d_X8_hole_144 ?_
    refine x_getf co_all (v := .int (nI (N 23 0))) d_X8_hole_145 fk_8_166 (o8_o H) rfl ?_
    rw [J.2.1]
    exact x_ireturn d_X8_hole_148 rfl rfl F.1 F.2.1 (Nat.zero_le _) (Nat.zero_le _) (hP _ N F H J)
  | succ d ih =>
    intro i hi h N F H J
    have x18 : N 18 i = nb (T0 i) := (J.1 18 i (by decide) (by decide) (by decide)).trans (e18 i (by omega))
    have xnb := nb_le (T0 i)
    refine x_iload rfl d_X8_hole_49 ?_
    refine x_sipush (v := nI 480) (by decide) d_X8_hole_51 ?_
    refine x_icmp_geN (tgt := 144) d_X8_hole_54 (by decide) (by omega) (by omega) (fun c_1 => by exfalso; omega) (fun c_1 => ?_)
    refine x_aload_n rfl d_X8_hole_57 ?_
    refine x_getf co_all (v := .ref (b + 16)) d_X8_hole_58 fk_8_60 (o8_o H) rfl ?_
    refine x_iload rfl d_X8_hole_61 ?_
    refine x_baload d_X8_hole_63 (o8_18 H) (nIx_nI (j := i) (by omega) (by decide)) ?_
    refine x_if_neN (tgt := 70) d_X8_hole_64 (by decide) (by omega) (fun c_in => ?_) (fun c_in => ?_)
    · have hTi : T0 i = true := nb_n0.mp (by rw [← x18]; exact c_in)
      obtain ⟨hi1, hi2⟩ := hin i hTi
      have hct := ct_lt hTi (show i < 480 by omega)
      obtain ⟨E3, W3⟩ := rW_h5 W (N := u2 N 26 (fb_ct T0 i) (100 * (i / 24) + i % 24)) (fun f j hf => by rw [u2_ne (by omega)]; exact J.1 f j (by omega) (by omega) (by omega))
      obtain ⟨p1, p2, p3, p4, p5, p6, p7, p8⟩ := rW_p W3 O hp
      rw [← p4] at hi1
      have egs := rW_gs W3 O hp (show i / 24 < P p 5 0 by omega) hi2
      change mgs _ p (i / 24) (i % 24) = gsx (P p) (R p) i at egs
      have hgl := gsd_le (P := P p) (R := R p) (j := i / 24) (i := i % 24) (fun h => (p7.2.2.1 (i / 24 + 1) h).1)
      change gsx (P p) (R p) i ≤ 48 at hgl
      have hcl := fb_ct_le T0 480
      refine x_aload_n rfl d_X8_hole_70 ?_
      refine x_getf co_all (v := .ref (b + 18)) d_X8_hole_71 fk_8_66 (o8_o H) rfl ?_
      refine x_aload_n rfl d_X8_hole_74 ?_
      refine x_getf co_all (v := .int (nI (N 23 0))) d_X8_hole_75 fk_8_166 (o8_o H) rfl ?_
      rw [show N 23 0 = fb_ct T0 i from J.2.1]
      refine x_bipush (v := nI 100) (by decide) d_X8_hole_78 ?_
      refine x_iload rfl d_X8_hole_80 ?_
      refine x_bipush (v := nI 24) (by decide) d_X8_hole_82 ?_
      refine x_idivN d_X8_hole_84 (by omega) (by omega) (by omega) ?_
      refine x_imulN d_X8_hole_85 ?_
      refine x_iload rfl d_X8_hole_86 ?_
      refine x_bipush (v := nI 24) (by decide) d_X8_hole_88 ?_
      refine x_iremN d_X8_hole_90 (by omega) (by omega) (by omega) ?_
      refine x_iaddN d_X8_hole_91 ?_
      refine x_iastore d_X8_hole_92 (o8_26 H) (nIx_nI (j := fb_ct T0 i) (by omega) (by decide)) (Nat.le_trans (o8_B H) (Nat.le_add_right _ _)) ?_
      have H3_8 := o8_ast26 (fb_ct T0 i) ((100 * (i / 24)) + (i % 24)) H
      have f_4 := o8_f26 (fb_ct T0 i) ((100 * (i / 24)) + (i % 24)) H (F) (by exact ⟨by omega, by omega⟩)
      refine x_aload_n rfl d_X8_hole_93 ?_
      refine x_getf co_all (v := .ref (b + 19)) d_X8_hole_94 fk_8_69 (o8_o H3_8) rfl ?_
      refine x_aload_n rfl d_X8_hole_97 ?_
      refine x_getf co_all (v := .int (nI (N 23 0))) d_X8_hole_98 fk_8_166 (o8_o H3_8) rfl ?_
      rw [show N 23 0 = fb_ct T0 i from J.2.1]
      refine x_aload_n rfl d_X8_hole_101 ?_
      refine x_iload_n rfl d_X8_hole_102 ?_
      refine x_iload rfl d_X8_hole_103 ?_
      refine x_bipush (v := nI 24) (by decide) d_X8_hole_105 ?_
      refine x_idivN d_X8_hole_107 (by omega) (by omega) (by omega) ?_
      refine x_iload rfl d_X8_hole_108 ?_
      refine x_bipush (v := nI 24) (by decide) d_X8_hole_110 ?_
      refine x_iremN d_X8_hole_112 (by omega) (by omega) (by omega) ?_
      have H9 := H3_8
      refine x_rdV d_X8_hole_113 lk_8_149 mo_X8_goneAt vi_X8_goneAt (sp_mgs H9 p3 (r := i / 24) hi1 (k := i % 24) (by omega) p8) (o8_o H9) ⟨_, rfl, rfl⟩ rfl ⟨Nat.le_of_ble_eq_true rfl, Nat.le_of_ble_eq_true rfl⟩ rfl rfl (Nat.zero_le _) (Nat.zero_le _) (Nat.le_of_ble_eq_true rfl) rfl ?_
      rw [egs]
      refine x_iconst (v := nI 2) (by decide) d_X8_hole_116 ?_
      refine x_iremN d_X8_hole_117 (by omega) (by omega) (by omega) ?_
      refine x_iconst (v := nI 1) (by decide) d_X8_hole_118 ?_
      refine x_icmp_neN (tgt := 126) d_X8_hole_119 (by decide) (by omega) (by omega) (fun c_odd => ?_) (fun c_odd => ?_)
      · refine x_iconst (v := nI 0) (by decide) d_X8_hole_126 ?_
        refine x_bastore d_X8_hole_127 (o8_27 H3_8) (nIx_nI (j := fb_ct T0 i) (by omega) (by decide)) rfl (Nat.le_trans (o8_B H3_8) (Nat.le_add_right _ _)) ?_
        have H6_8 := o8_ast27 (fb_ct T0 i) (0) H3_8
        have f_7 := o8_f27 (fb_ct T0 i) (0) H3_8 (f_4) (by exact ⟨by omega, by omega⟩)
        refine x_aload_n rfl d_X8_hole_128 ?_
        refine x_dup rfl d_X8_hole_129 ?_
        refine x_getf co_all (v := .int (nI (N 23 0))) d_X8_hole_130 fk_8_166 (o8_o H6_8) rfl ?_
        rw [show N 23 0 = fb_ct T0 i from J.2.1]
        refine x_iconst (v := nI 1) (by decide) d_X8_hole_133 ?_
        refine x_iaddN d_X8_hole_134 ?_
        refine x_putf co_all d_X8_hole_135 fk_8_166 ft_8_23 (o8_o H6_8) (Nat.le_of_ble_eq_true rfl) rfl rfl (o8_B H6_8) ?_
        have H8_8 := o8_put23 ((fb_ct T0 i) + 1) H6_8
        have f_9 := o8_g23 ((fb_ct T0 i) + 1) H6_8 (f_7) (by exact ⟨by omega, by omega⟩)
        refine x_iincN (m := 1) d_X8_hole_138 rfl (by decide) (Nat.le_of_ble_eq_true rfl) ?_
        refine x_goto (tgt := 49) d_X8_hole_141 (by decide) ?_
        have J2 := J.2.2
        refine ih (i + 1) (by omega) _ _ f_9 H8_8 ⟨fun f j f1 f2 f3 => by rw [u2_ne (by omega), u2_ne (by omega), u2_ne (by omega)]; exact J.1 f j f1 f2 f3, by rw [u2_eq, ct_T hTi], fun x hx hx2 => ?_⟩
        by_cases e : x = i
        · subst e
          rw [u2_ne (by omega), u2_ne (by omega), u2_eq, u2_ne (by omega), u2_eq]
          exact ⟨rfl, by omega⟩
        · have hlt := ct_lt hx2 (show x < i by omega)
          rw [u2_ne (by omega), u2_ne (by omega), u2_ne (by omega), u2_ne (by omega), u2_ne (by omega), u2_ne (by omega)]
          exact J2 x (by omega) hx2
      · refine x_iconst (v := nI 1) (by decide) d_X8_hole_122 ?_
        refine x_goto (tgt := 127) d_X8_hole_123 (by decide) ?_
        refine x_bastore d_X8_hole_127 (o8_27 H3_8) (nIx_nI (j := fb_ct T0 i) (by omega) (by decide)) rfl (Nat.le_trans (o8_B H3_8) (Nat.le_add_right _ _)) ?_
        have H10_8 := o8_ast27 (fb_ct T0 i) (1) H3_8
        have f_11 := o8_f27 (fb_ct T0 i) (1) H3_8 (f_4) (by exact ⟨by omega, by omega⟩)
        refine x_aload_n rfl d_X8_hole_128 ?_
        refine x_dup rfl d_X8_hole_129 ?_
        refine x_getf co_all (v := .int (nI (N 23 0))) d_X8_hole_130 fk_8_166 (o8_o H10_8) rfl ?_
        rw [show N 23 0 = fb_ct T0 i from J.2.1]
        refine x_iconst (v := nI 1) (by decide) d_X8_hole_133 ?_
        refine x_iaddN d_X8_hole_134 ?_
        refine x_putf co_all d_X8_hole_135 fk_8_166 ft_8_23 (o8_o H10_8) (Nat.le_of_ble_eq_true rfl) rfl rfl (o8_B H10_8) ?_
        have H12_8 := o8_put23 ((fb_ct T0 i) + 1) H10_8
        have f_13 := o8_g23 ((fb_ct T0 i) + 1) H10_8 (f_11) (by exact ⟨by omega, by omega⟩)
        refine x_iincN (m := 1) d_X8_hole_138 rfl (by decide) (Nat.le_of_ble_eq_true rfl) ?_
        refine x_goto (tgt := 49) d_X8_hole_141 (by decide) ?_
        have J2 := J.2.2
        refine ih (i + 1) (by omega) _ _ f_13 H12_8 ⟨fun f j f1 f2 f3 => by rw [u2_ne (by omega), u2_ne (by omega), u2_ne (by omega)]; exact J.1 f j f1 f2 f3, by rw [u2_eq, ct_T hTi], fun x hx hx2 => ?_⟩
        by_cases e : x = i
        · subst e
          rw [u2_ne (by omega), u2_ne (by omega), u2_eq, u2_ne (by omega), u2_eq]
          exact ⟨rfl, by omega⟩
        · have hlt := ct_lt hx2 (show x < i by omega)
          rw [u2_ne (by omega), u2_ne (by omega), u2_ne (by omega), u2_ne (by omega), u2_ne (by omega), u2_ne (by omega)]
          exact J2 x (by omega) hx2
    · have hTf : T0 i = false := nb_0.mp (by rw [← x18]; exact c_in)
      refine x_goto (tgt := 138) d_X8_hole_67 (by decide) ?_
      refine x_iincN (m := 1) d_X8_hole_138 rfl (by decide) (Nat.le_of_ble_eq_true rfl) ?_
      refine x_goto (tgt := 49) d_X8_hole_141 (by decide) ?_
      refine ih (i + 1) (by omega) _ _ F H ⟨J.1, by rw [ct_F hTf]; exact J.2.1, fun x hx hx2 => J.2.2 x (by by_cases e : x = i; { subst e; rw [hTf] at hx2; cases hx2 }; { omega }) hx2⟩
theorem md_holeP {h : nPH} {b : Nat} {M V : Nat → Nat → Nat} {P : Nat → Nat → Nat → Nat} {R : Nat → Nat → Nat → Nat → Nat} {E Y T S : Nat → Nat → Nat} (H : o8 h b M) (W : rW M V P R E Y T S) (O : kO V P R) {p : Int32} (hp : ¬ nIn p (V 1 0)) {r k : Int32} : nRd YX8_hole [.ref (b), .int (p), .int (r), .int (k)] h (.int (-1)) := by
  refine nSp_of (by decide +kernel) rfl (Nat.le_of_ble_eq_true rfl) (ls := [some (.ref (b)), some (.int (p)), some (.int (r)), some (.int (k)), none]) (by exact (And.intro rfl (And.intro rfl (And.intro rfl (And.intro rfl True.intro))))) ?_
  refine x_aload_n rfl d_X8_hole_0 ?_
  refine x_iload_n rfl d_X8_hole_1 ?_
  refine x_iload_n rfl d_X8_hole_2 ?_
  refine x_iload_n rfl d_X8_hole_3 ?_
  refine x_rdV d_X8_hole_4 lk_8_118 mo_X8_isKnot vi_X8_isKnot (sp_isKnotP H (rW_n W O) (rW_x W hp)) (o8_o H) ⟨_, rfl, rfl⟩ rfl ⟨Nat.le_of_ble_eq_true rfl, Nat.le_of_ble_eq_true rfl⟩ rfl rfl (Nat.zero_le _) (Nat.zero_le _) (Nat.le_of_ble_eq_true rfl) rfl ?_
  refine x_if_neN (tgt := 12) d_X8_hole_7 (by decide) (by omega) (fun c_1 => by exfalso; omega) (fun c_1 => ?_)
  refine x_iconst (v := -1) (by decide) d_X8_hole_10 ?_
  exact x_ireturn d_X8_hole_11 rfl rfl rfl rfl (Nat.zero_le _) (Nat.zero_le _) (⟨rfl, rfl⟩)
theorem md_holeO {h : nPH} {b : Nat} {M V : Nat → Nat → Nat} {P : Nat → Nat → Nat → Nat} {R : Nat → Nat → Nat → Nat → Nat} {E Y T S : Nat → Nat → Nat} (H : o8 h b M) (W : rW M V P R E Y T S) (O : kO V P R) {p : Nat} (hp : p < V 1 0) {r k : Int32} (hO : rOff (P p 5 0) (R p) r k) : nRd YX8_hole [.ref (b), .int (nI (p)), .int (r), .int (k)] h (.int (-1)) := by
  obtain ⟨p1, p2, p3, p4, p5, p6, p7, p8⟩ := rW_p W O hp
  refine nSp_of (by decide +kernel) rfl (Nat.le_of_ble_eq_true rfl) (ls := [some (.ref (b)), some (.int (nI (p))), some (.int (r)), some (.int (k)), none]) (by exact (And.intro rfl (And.intro rfl (And.intro rfl (And.intro rfl True.intro))))) ?_
  refine x_aload_n rfl d_X8_hole_0 ?_
  refine x_iload_n rfl d_X8_hole_1 ?_
  refine x_iload_n rfl d_X8_hole_2 ?_
  refine x_iload_n rfl d_X8_hole_3 ?_
  refine x_rdV d_X8_hole_4 lk_8_118 mo_X8_isKnot vi_X8_isKnot (sp_isKnotO H W O hp hO) (o8_o H) ⟨_, rfl, rfl⟩ rfl ⟨Nat.le_of_ble_eq_true rfl, Nat.le_of_ble_eq_true rfl⟩ rfl rfl (Nat.zero_le _) (Nat.zero_le _) (Nat.le_of_ble_eq_true rfl) rfl ?_
  refine x_if_neN (tgt := 12) d_X8_hole_7 (by decide) (by omega) (fun c_1 => by exfalso; omega) (fun c_1 => ?_)
  refine x_iconst (v := -1) (by decide) d_X8_hole_10 ?_
  exact x_ireturn d_X8_hole_11 rfl rfl rfl rfl (Nat.zero_le _) (Nat.zero_le _) (⟨rfl, rfl⟩)
theorem md_hole {h : nPH} {b : Nat} {M V : Nat → Nat → Nat} {P : Nat → Nat → Nat → Nat} {R : Nat → Nat → Nat → Nat → Nat} {E Y T S : Nat → Nat → Nat} (H : o8 h b M) (W : rW M V P R E Y T S) (O : kO V P R) {p : Nat} (hp : p < V 1 0) {r : Nat} (hr : r < P p 5 0) {k : Nat} (hk : k < R p r 0 0) {T0 : Nat → Bool} (hT : hTr (P p) (R p) (24 * r + k) T0) {E2 : Nat → Nat → Nat} (hI : hIs (P p) (R p) T0 E2) : nWv YX8_hole [.ref b, .int (nI p), .int (nI r), .int (nI k)] h (some (.int (nI (fb_ct T0 480)))) (fun h2 => nFr (nIv b 24) h h2 ∧ ∃ M2, o8 h2 b M2 ∧ rW M2 V P R E2 Y T S) := by
  obtain ⟨p1, p2, p3, p4, p5, p6, p7, p8⟩ := rW_p W O hp
  obtain ⟨r1, r2, r3, r4, r5, r6⟩ := rW_r W O hp hr
  obtain ⟨k1, k2, k3, k4, k5, k6, k7, k8, k9⟩ := rW_k W O hp hr hk
  have hin : gIn (P p 5 0) (R p) (24 * r + k) := by unfold gIn; rw [show (24 * r + k) / 24 = r by omega, show (24 * r + k) % 24 = k by omega]; exact ⟨hr, hk⟩
  have hTin : ∀ x, T0 x = true → gIn (P p 5 0) (R p) x := fun x hx => hTr_in p7.2.2.2.1 hin hT hx
  have hhs := hen_ls (P := P p) (by omega) p7.2.2.1 p7.2.2.2.1 hTin (hTr_cl hT)
  refine nSp_of (by decide +kernel) rfl (Nat.le_of_ble_eq_true rfl) (ls := [some (.ref (b)), some (.int (nI (p))), some (.int (nI (r))), some (.int (nI (k))), none]) (by exact (And.intro rfl (And.intro rfl (And.intro rfl (And.intro rfl True.intro))))) ?_
  refine x_aload_n rfl d_X8_hole_0 ?_
  refine x_iload_n rfl d_X8_hole_1 ?_
  refine x_iload_n rfl d_X8_hole_2 ?_
  refine x_iload_n rfl d_X8_hole_3 ?_
  refine x_rdV d_X8_hole_4 lk_8_118 mo_X8_isKnot vi_X8_isKnot (sp_isKnot H p2 p1 r1 p5 k1 (by omega)) (o8_o H) ⟨_, rfl, rfl⟩ rfl ⟨Nat.le_of_ble_eq_true rfl, Nat.le_of_ble_eq_true rfl⟩ rfl rfl (Nat.zero_le _) (Nat.zero_le _) (Nat.le_of_ble_eq_true rfl) rfl ?_
  refine x_if_neN (tgt := 12) d_X8_hole_7 (by decide) (by omega) (fun c_1 => ?_) (fun c_1 => by exfalso; omega)
  refine x_aload_n rfl d_X8_hole_12 ?_
  refine x_iload_n rfl d_X8_hole_13 ?_
  refine x_iload_n rfl d_X8_hole_14 ?_
  refine x_iload_n rfl d_X8_hole_15 ?_
  refine x_wvV d_X8_hole_16 lk_8_158 mo_X8_spreads vi_X8_spreads (sp_mspr H W O hp hr hk hT) (o8_o H) ⟨_, rfl, rfl⟩ rfl ⟨Nat.le_of_ble_eq_true rfl, Nat.le_of_ble_eq_true rfl⟩ (Nat.zero_le _) (Nat.zero_le _) (Nat.le_of_ble_eq_true rfl) rfl (fun h3 hq_ e3a e3b => ?_)
  obtain ⟨F3, M3, H3, I3⟩ := hq_
  have W3 := rW_sp W I3.1
  refine x_aload_n rfl d_X8_hole_19 ?_
  refine x_iconst (v := nI 1) (by decide) d_X8_hole_20 ?_
  refine x_putf co_all d_X8_hole_21 fk_8_162 ft_8_22 (o8_o H3) (Nat.le_of_ble_eq_true rfl) rfl rfl (o8_B H3) ?_
  have H2_8 := o8_put22 (1) H3
  have f_3 := o8_g22 (1) H3 (F3) (by exact ⟨by omega, by omega⟩)
  refine x_aload_n rfl d_X8_hole_24 ?_
  refine x_iconst (v := nI 0) (by decide) d_X8_hole_25 ?_
  refine x_putf co_all d_X8_hole_26 fk_8_166 ft_8_23 (o8_o H2_8) (Nat.le_of_ble_eq_true rfl) rfl rfl (o8_B H2_8) ?_
  have H4_8 := o8_put23 (0) H2_8
  have f_5 := o8_g23 (0) H2_8 (f_3) (by exact ⟨by omega, by omega⟩)
  refine x_aload_n rfl d_X8_hole_29 ?_
  refine x_aload_n rfl d_X8_hole_30 ?_
  refine x_getf co_all (v := .int (nI (M3 21 0))) d_X8_hole_31 fk_8_155 (o8_o H4_8) rfl ?_
  refine x_putf co_all d_X8_hole_34 fk_8_169 ft_8_24 (o8_o H4_8) (Nat.le_of_ble_eq_true rfl) rfl rfl (o8_B H4_8) ?_
  have H6_8 := o8_put24 (M3 21 0) H4_8
  have f_7 := o8_g24 (M3 21 0) H4_8 (f_5) (by exact ⟨by omega, by omega⟩)
  refine x_aload_n rfl d_X8_hole_37 ?_
  refine x_aload_n rfl d_X8_hole_38 ?_
  refine x_iload_n rfl d_X8_hole_39 ?_
  obtain ⟨E4, W4⟩ := rW_h5 W3 (N := (u2 (u2 (u2 M3 22 (0) (1)) 23 (0) (0)) 24 (0) (M3 21 0))) (fun f j hf => by rw [u2_ne (by omega), u2_ne (by omega), u2_ne (by omega)])
  refine x_rdV d_X8_hole_40 lk_8_172 mo_X8_oddOnes vi_X8_oddOnes (sp_modd H6_8 W4 O hp hTin (fun x hx => by rw [u2_ne (by omega), u2_ne (by omega), u2_ne (by omega)]; exact I3.2.1 x hx)) (o8_o H6_8) ⟨_, rfl, rfl⟩ rfl ⟨Nat.le_of_ble_eq_true rfl, Nat.le_of_ble_eq_true rfl⟩ rfl rfl (Nat.zero_le _) (Nat.zero_le _) (Nat.le_of_ble_eq_true rfl) rfl ?_
  refine x_putf co_all d_X8_hole_43 fk_8_175 ft_8_25 (o8_o H6_8) (Nat.le_of_ble_eq_true rfl) rfl rfl (o8_B H6_8) ?_
  have H8_8 := o8_put25 (hod (P p) (R p) T0 480) H6_8
  have f_9 := o8_g25 (hod (P p) (R p) T0 480) H6_8 (f_7) (by exact ⟨by omega, by omega⟩)
  refine x_iconst (v := nI 0) (by decide) d_X8_hole_46 ?_
  refine x_istore d_X8_hole_47 (Nat.le_of_ble_eq_true rfl) ?_
  obtain ⟨E5, W5⟩ := rW_h5 W3 (N := (u2 (u2 (u2 (u2 M3 22 (0) (1)) 23 (0) (0)) 24 (0) (M3 21 0)) 25 (0) (hod (P p) (R p) T0 480))) (fun f j hf => by rw [u2_ne (by omega), u2_ne (by omega), u2_ne (by omega), u2_ne (by omega)])
  refine lp_mhole W5 O hp hTin (fun x hx => by rw [u2_ne (by omega), u2_ne (by omega), u2_ne (by omega), u2_ne (by omega)]; exact I3.2.1 x hx) (fun h2 N F2 H2 J => ⟨rfl, F2, N, H2, ?_⟩) 480 0 (Nat.zero_add _) _ _ f_9 H8_8 ⟨fun f j _ _ _ => rfl, by rw [u2_ne (by omega), u2_ne (by omega), u2_eq]; rfl, fun x hx => absurd hx (by omega)⟩
  refine rW_hk W5 J.1 ⟨?_, fun _ => ⟨?_, ?_, ?_, fun i hi => ?_⟩⟩
  · rw [J.1 22 0 (by decide) (by decide) (by decide), hI.1.1, u2_ne (by omega), u2_ne (by omega), u2_ne (by omega), u2_eq]
  · rw [J.2.1, hI.1.2.1]
  · rw [J.1 24 0 (by decide) (by decide) (by decide), u2_ne (by omega), u2_eq, hI.2, hhs]
    have := I3.2.2.2
    omega
  · rw [J.1 25 0 (by decide) (by decide) (by decide), u2_eq, hI.1.2.2.1]
  · rw [hI.1.2.1] at hi
    obtain ⟨x, x1, x2, x3⟩ := fb_ct_kth hi
    have j1 := J.2.2 x x1 x2
    have j2 := hI.1.2.2.2 x x1 x2
    rw [x3] at j1 j2
    exact ⟨j1.1.trans j2.1.symm, j1.2.trans j2.2.symm⟩
