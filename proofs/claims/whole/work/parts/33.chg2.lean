/-! the loft: what it changes, further -/
theorem pW_o2 {h h2 : nPH} {b : Nat} {P P2 : Nat → Nat → Nat} {R : Nat → Nat → Nat → Nat} (W : pW h b P R) (F : nFr (nIv b 3) h h2) (H : o2 h2 b P2) (h5 : P2 5 0 = P 5 0) (h4 : ∀ r, P2 4 r = P 4 r) : pW h2 b P2 R := by
  obtain ⟨w1, w2, w3, w4⟩ := W
  refine ⟨H, by rw [h5]; exact w2, fun r hr => ?_, fun r r2 hr hr2 hne => ?_⟩
  · rw [h5] at hr
    rw [h4]
    exact ⟨o3_fr (w3 r hr).1 F (ap_fr (S := fun _ => True) (ap_sy (w3 r hr).2.2)), (w3 r hr).2⟩
  · rw [h5] at hr hr2
    rw [h4, h4]
    exact w4 r r2 hr hr2 hne
theorem nB_ge {u v t : Int32} {a b c : Nat} (h1 : u = nI a) (h2 : v = nI b) (h3 : t = nI c) (ha : a < 2 ^ 31) (hb : b < 2 ^ 31) (hc : c < 2 ^ 31) (h : a ≤ b ∧ b ≤ c) : nB (u ≤ v ∧ v ≤ t) = 1 := by
  subst h1 h2 h3
  exact nB_T ⟨(nI_leI ha hb).mpr h.1, (nI_leI hb hc).mpr h.2⟩
theorem cl_tearP {h : nPH} {a b : Nat} {V : Nat → Nat → Nat} {P : Nat → Nat → Nat → Nat} {R : Nat → Nat → Nat → Nat → Nat} {E Y T S : Nat → Nat → Nat} (C : cW h a b V P R E Y T S) {p : Int32} (hp : ¬ nIn p (V 1 0)) {r : Int32} : nRd YX7_tear [.ref (a), .int (p), .int (r)] h (.int (nI 0)) := by
  refine nSp_of (by decide +kernel) rfl (Nat.le_of_ble_eq_true rfl) (ls := [some (.ref (a)), some (.int (p)), some (.int (r)), none, none, none]) (by exact (And.intro rfl (And.intro rfl (And.intro rfl True.intro)))) ?_
  refine x_aload_n rfl d_X7_tear_0 ?_
  refine x_iload_n rfl d_X7_tear_1 ?_
  refine x_rdV d_X7_tear_2 lk_7_85 mo_X7_panelAt vi_X7_panelAt (sp_pAtN C.1.1 (cW_n C) hp) (o7_o C.1.1) ⟨_, rfl, rfl⟩ rfl ⟨Nat.le_of_ble_eq_true rfl, Nat.le_of_ble_eq_true rfl⟩ rfl rfl (Nat.zero_le _) (Nat.zero_le _) (Nat.le_of_ble_eq_true rfl) rfl ?_
  refine x_astore_nN d_X7_tear_5 (Nat.le_of_ble_eq_true rfl) ?_
  refine x_aload_nN rfl d_X7_tear_6 ?_
  refine x_ifnonnullN d_X7_tear_7 ?_
  refine x_null d_X7_tear_10 ?_
  refine x_goto (tgt := 19) d_X7_tear_11 (by decide) ?_
  refine x_astoreN d_X7_tear_19 (Nat.le_of_ble_eq_true rfl) ?_
  refine x_aloadN rfl d_X7_tear_21 ?_
  refine x_ifnullN (tgt := 34) d_X7_tear_23 (by decide) ?_
  refine x_iconst (v := nI 0) (by decide) d_X7_tear_34 ?_
  exact x_ireturn d_X7_tear_35 rfl (by first | rfl | exact nB_nar _ | exact nB_nar1 (by omega)) rfl rfl (Nat.zero_le _) (Nat.zero_le _) (⟨rfl, rfl⟩)
theorem cl_tearR {h : nPH} {a b : Nat} {V : Nat → Nat → Nat} {P : Nat → Nat → Nat → Nat} {R : Nat → Nat → Nat → Nat → Nat} {E Y T S : Nat → Nat → Nat} (C : cW h a b V P R E Y T S) {p : Nat} (hp : p < V 1 0) {r : Int32} (hr : ¬ nIn r (P p 5 0)) : nRd YX7_tear [.ref (a), .int (nI (p)), .int (r)] h (.int (nI 0)) := by
  have hn12 := cW_n C
  have hn20 := (cW_q C hp).2.1
  refine nSp_of (by decide +kernel) rfl (Nat.le_of_ble_eq_true rfl) (ls := [some (.ref (a)), some (.int (nI (p))), some (.int (r)), none, none, none]) (by exact (And.intro rfl (And.intro rfl (And.intro rfl True.intro)))) ?_
  refine x_aload_n rfl d_X7_tear_0 ?_
  refine x_iload_n rfl d_X7_tear_1 ?_
  refine x_rdV d_X7_tear_2 lk_7_85 mo_X7_panelAt vi_X7_panelAt (sp_pAt C.1.1 (cW_n C) hp) (o7_o C.1.1) ⟨_, rfl, rfl⟩ rfl ⟨Nat.le_of_ble_eq_true rfl, Nat.le_of_ble_eq_true rfl⟩ rfl rfl (Nat.zero_le _) (Nat.zero_le _) (Nat.le_of_ble_eq_true rfl) rfl ?_
  refine x_astore_n d_X7_tear_5 (Nat.le_of_ble_eq_true rfl) ?_
  refine x_aload_n rfl d_X7_tear_6 ?_
  refine x_ifnonnull (tgt := 14) d_X7_tear_7 (by decide) ?_
  refine x_aload_n rfl d_X7_tear_14 ?_
  refine x_iload_n rfl d_X7_tear_15 ?_
  refine x_rdV d_X7_tear_16 lk_7_123 mo_X2_rowAt vi_X2_rowAt (sp_rowAtN (cW_q C hp).1 hn20 hr) (o2_o (cW_q C hp).1) ⟨_, rfl, rfl⟩ rfl ⟨Nat.le_of_ble_eq_true rfl, Nat.le_of_ble_eq_true rfl⟩ rfl rfl (Nat.zero_le _) (Nat.zero_le _) (Nat.le_of_ble_eq_true rfl) rfl ?_
  refine x_astoreN d_X7_tear_19 (Nat.le_of_ble_eq_true rfl) ?_
  refine x_aloadN rfl d_X7_tear_21 ?_
  refine x_ifnullN (tgt := 34) d_X7_tear_23 (by decide) ?_
  refine x_iconst (v := nI 0) (by decide) d_X7_tear_34 ?_
  exact x_ireturn d_X7_tear_35 rfl (by first | rfl | exact nB_nar _ | exact nB_nar1 (by omega)) rfl rfl (Nat.zero_le _) (Nat.zero_le _) (⟨rfl, rfl⟩)
theorem cl_tear0 {h : nPH} {a b : Nat} {V : Nat → Nat → Nat} {P : Nat → Nat → Nat → Nat} {R : Nat → Nat → Nat → Nat → Nat} {E Y T S : Nat → Nat → Nat} (C : cW h a b V P R E Y T S) {p : Nat} (hp : p < V 1 0) {r : Nat} (hr : r < P p 5 0) (h0 : R p r 0 0 = 0) : nRd YX7_tear [.ref (a), .int (nI (p)), .int (nI (r))] h (.int (nI 0)) := by
  have hn12 := cW_n C
  have hn20 := (cW_q C hp).2.1
  have hrk := ((cW_q C hp).2.2.1 r hr).2.1
  have hpl := hrk.1
  refine nSp_of (by decide +kernel) rfl (Nat.le_of_ble_eq_true rfl) (ls := [some (.ref (a)), some (.int (nI (p))), some (.int (nI (r))), none, none, none]) (by exact (And.intro rfl (And.intro rfl (And.intro rfl True.intro)))) ?_
  refine x_aload_n rfl d_X7_tear_0 ?_
  refine x_iload_n rfl d_X7_tear_1 ?_
  refine x_rdV d_X7_tear_2 lk_7_85 mo_X7_panelAt vi_X7_panelAt (sp_pAt C.1.1 (cW_n C) hp) (o7_o C.1.1) ⟨_, rfl, rfl⟩ rfl ⟨Nat.le_of_ble_eq_true rfl, Nat.le_of_ble_eq_true rfl⟩ rfl rfl (Nat.zero_le _) (Nat.zero_le _) (Nat.le_of_ble_eq_true rfl) rfl ?_
  refine x_astore_n d_X7_tear_5 (Nat.le_of_ble_eq_true rfl) ?_
  refine x_aload_n rfl d_X7_tear_6 ?_
  refine x_ifnonnull (tgt := 14) d_X7_tear_7 (by decide) ?_
  refine x_aload_n rfl d_X7_tear_14 ?_
  refine x_iload_n rfl d_X7_tear_15 ?_
  refine x_rdV d_X7_tear_16 lk_7_123 mo_X2_rowAt vi_X2_rowAt (sp_rowAt (cW_q C hp).1 hn20 hr) (o2_o (cW_q C hp).1) ⟨_, rfl, rfl⟩ rfl ⟨Nat.le_of_ble_eq_true rfl, Nat.le_of_ble_eq_true rfl⟩ rfl rfl (Nat.zero_le _) (Nat.zero_le _) (Nat.le_of_ble_eq_true rfl) rfl ?_
  refine x_astore d_X7_tear_19 (Nat.le_of_ble_eq_true rfl) ?_
  refine x_aload rfl d_X7_tear_21 ?_
  refine x_ifnull d_X7_tear_23 ?_
  refine x_aload rfl d_X7_tear_26 ?_
  refine x_getf co_all (v := .int (nI ((R p r) 0 0))) d_X7_tear_28 fk_7_127 (o3_o ((cW_q C hp).2.2.1 r hr).1) rfl ?_
  refine x_if_neN (tgt := 36) d_X7_tear_31 (by decide) (by omega) (fun c_1 => by exfalso; exact c_1 h0) (fun c_1 => ?_)
  refine x_iconst (v := nI 0) (by decide) d_X7_tear_34 ?_
  exact x_ireturn d_X7_tear_35 rfl (by first | rfl | exact nB_nar _ | exact nB_nar1 (by omega)) rfl rfl (Nat.zero_le _) (Nat.zero_le _) (⟨rfl, rfl⟩)
theorem cl_tear {h : nPH} {a b : Nat} {V : Nat → Nat → Nat} {P : Nat → Nat → Nat → Nat} {R : Nat → Nat → Nat → Nat → Nat} {E Y T S : Nat → Nat → Nat} (C : cW h a b V P R E Y T S) {p : Nat} (hp : p < V 1 0) {r : Nat} (hr : r < P p 5 0) (h0 : ¬ R p r 0 0 = 0) (hr1 : r + 1 < P p 5 0) : nWv YX7_tear [.ref (a), .int (nI (p)), .int (nI (r))] h (some (.int (nI 1))) (fun h2 => kB b h h2 ∧ cW h2 a b V P (uP R p (uR (uR (R p) r (u2 (R p r) 0 0 0)) (r + 1) (rHN 24 (R p (r + 1))))) E Y T S) := by
  have hn12 := cW_n C
  have hn20 := (cW_q C hp).2.1
  have hrk := ((cW_q C hp).2.2.1 r hr).2.1
  have hpl := hrk.1
  have hp0 := hp
  refine nSp_of (by decide +kernel) rfl (Nat.le_of_ble_eq_true rfl) (ls := [some (.ref (a)), some (.int (nI (p))), some (.int (nI (r))), none, none, none]) (by exact (And.intro rfl (And.intro rfl (And.intro rfl True.intro)))) ?_
  refine x_aload_n rfl d_X7_tear_0 ?_
  refine x_iload_n rfl d_X7_tear_1 ?_
  refine x_rdV d_X7_tear_2 lk_7_85 mo_X7_panelAt vi_X7_panelAt (sp_pAt C.1.1 (cW_n C) hp) (o7_o C.1.1) ⟨_, rfl, rfl⟩ rfl ⟨Nat.le_of_ble_eq_true rfl, Nat.le_of_ble_eq_true rfl⟩ rfl rfl (Nat.zero_le _) (Nat.zero_le _) (Nat.le_of_ble_eq_true rfl) rfl ?_
  refine x_astore_n d_X7_tear_5 (Nat.le_of_ble_eq_true rfl) ?_
  refine x_aload_n rfl d_X7_tear_6 ?_
  refine x_ifnonnull (tgt := 14) d_X7_tear_7 (by decide) ?_
  refine x_aload_n rfl d_X7_tear_14 ?_
  refine x_iload_n rfl d_X7_tear_15 ?_
  refine x_rdV d_X7_tear_16 lk_7_123 mo_X2_rowAt vi_X2_rowAt (sp_rowAt (cW_q C hp).1 hn20 hr) (o2_o (cW_q C hp).1) ⟨_, rfl, rfl⟩ rfl ⟨Nat.le_of_ble_eq_true rfl, Nat.le_of_ble_eq_true rfl⟩ rfl rfl (Nat.zero_le _) (Nat.zero_le _) (Nat.le_of_ble_eq_true rfl) rfl ?_
  refine x_astore d_X7_tear_19 (Nat.le_of_ble_eq_true rfl) ?_
  refine x_aload rfl d_X7_tear_21 ?_
  refine x_ifnull d_X7_tear_23 ?_
  refine x_aload rfl d_X7_tear_26 ?_
  refine x_getf co_all (v := .int (nI ((R p r) 0 0))) d_X7_tear_28 fk_7_127 (o3_o ((cW_q C hp).2.2.1 r hr).1) rfl ?_
  refine x_if_neN (tgt := 36) d_X7_tear_31 (by decide) (by omega) (fun c_1 => ?_) (fun c_1 => by exfalso; exact h0 c_1)
  refine x_aload rfl d_X7_tear_36 ?_
  refine x_iconst (v := nI 0) (by decide) d_X7_tear_38 ?_
  refine x_putf co_all d_X7_tear_39 fk_7_127 ft_3_0 (o3_o ((cW_q C hp).2.2.1 r hr).1) (Nat.le_of_ble_eq_true rfl) rfl rfl (o3_B ((cW_q C hp).2.2.1 r hr).1) ?_
  have H2_3 := o3_put0 (0) ((cW_q C hp).2.2.1 r hr).1
  have f_3 := o3_g0 (0) ((cW_q C hp).2.2.1 r hr).1 ((nFr.rf (S := nIv (P p 4 r) 7) (h := h))) (by exact ⟨by omega, by omega⟩)
  refine x_aload_n rfl d_X7_tear_42 ?_
  refine x_iload_n rfl d_X7_tear_43 ?_
  refine x_iconst (v := nI 1) (by decide) d_X7_tear_44 ?_
  refine x_iaddN d_X7_tear_45 ?_
  have W2 := pW_up (cW_q C hp) hr f_3 H2_3 (rOK_no hrk)
  refine x_rdV d_X7_tear_46 lk_7_123 mo_X2_rowAt vi_X2_rowAt (sp_rowAt W2.1 hn20 hr1) (o2_o W2.1) ⟨_, rfl, rfl⟩ rfl ⟨Nat.le_of_ble_eq_true rfl, Nat.le_of_ble_eq_true rfl⟩ rfl rfl (Nat.zero_le _) (Nat.zero_le _) (Nat.le_of_ble_eq_true rfl) rfl ?_
  refine x_astore d_X7_tear_49 (Nat.le_of_ble_eq_true rfl) ?_
  refine x_aload rfl d_X7_tear_51 ?_
  refine x_ifnull d_X7_tear_53 ?_
  refine x_aload rfl d_X7_tear_56 ?_
  refine x_wvV d_X7_tear_58 lk_7_190 mo_X3_hangInNothing vi_X3_hangInNothing (sp_hangN (W2.2.2.1 (r + 1) hr1).1) (o3_o (W2.2.2.1 (r + 1) hr1).1) ⟨_, rfl, rfl⟩ rfl ⟨Nat.le_of_ble_eq_true rfl, Nat.le_of_ble_eq_true rfl⟩ (Nat.zero_le _) (Nat.zero_le _) (Nat.le_of_ble_eq_true rfl) rfl (fun h3 hp e1 e2 => ?_)
  obtain ⟨F3, H3⟩ := hp
  have W3 := pW_up W2 hr1 F3 H3 (rOK_HN (W2.2.2.1 (r + 1) hr1).2.1)
  have FF : nFr (fun q => nIv (P p 4 r) 7 q ∨ nIv (P p 4 (r + 1)) 7 q) h h3 := (f_3.mono (fun q z => Or.inl z)).tr (F3.mono (fun q z => Or.inr z))
  rw [uR_ne (show r + 1 ≠ r by omega)] at W3
  refine x_iconst (v := nI 1) (by decide) d_X7_tear_61 ?_
  exact x_ireturn d_X7_tear_62 rfl (by first | rfl | exact nB_nar _ | exact nB_nar1 (by omega)) FF.1 FF.2.1 (Nat.zero_le _) (Nat.zero_le _) (⟨rfl, cW_r C hp0 FF (fun q z => by rcases z with z | z; exact Or.inr ⟨_, hr, z⟩; exact Or.inr ⟨_, hr1, z⟩) W3⟩)
theorem cl_tearL {h : nPH} {a b : Nat} {V : Nat → Nat → Nat} {P : Nat → Nat → Nat → Nat} {R : Nat → Nat → Nat → Nat → Nat} {E Y T S : Nat → Nat → Nat} (C : cW h a b V P R E Y T S) {p : Nat} (hp : p < V 1 0) {r : Nat} (hr : r < P p 5 0) (h0 : ¬ R p r 0 0 = 0) (hr1 : ¬ r + 1 < P p 5 0) : nWv YX7_tear [.ref (a), .int (nI (p)), .int (nI (r))] h (some (.int (nI 1))) (fun h2 => kB b h h2 ∧ cW h2 a b V P (uP R p (uR (R p) r (u2 (R p r) 0 0 0))) E Y T S) := by
  have hn12 := cW_n C
  have hn20 := (cW_q C hp).2.1
  have hrk := ((cW_q C hp).2.2.1 r hr).2.1
  have hpl := hrk.1
  have hp0 := hp
  refine nSp_of (by decide +kernel) rfl (Nat.le_of_ble_eq_true rfl) (ls := [some (.ref (a)), some (.int (nI (p))), some (.int (nI (r))), none, none, none]) (by exact (And.intro rfl (And.intro rfl (And.intro rfl True.intro)))) ?_
  refine x_aload_n rfl d_X7_tear_0 ?_
  refine x_iload_n rfl d_X7_tear_1 ?_
  refine x_rdV d_X7_tear_2 lk_7_85 mo_X7_panelAt vi_X7_panelAt (sp_pAt C.1.1 (cW_n C) hp) (o7_o C.1.1) ⟨_, rfl, rfl⟩ rfl ⟨Nat.le_of_ble_eq_true rfl, Nat.le_of_ble_eq_true rfl⟩ rfl rfl (Nat.zero_le _) (Nat.zero_le _) (Nat.le_of_ble_eq_true rfl) rfl ?_
  refine x_astore_n d_X7_tear_5 (Nat.le_of_ble_eq_true rfl) ?_
  refine x_aload_n rfl d_X7_tear_6 ?_
  refine x_ifnonnull (tgt := 14) d_X7_tear_7 (by decide) ?_
  refine x_aload_n rfl d_X7_tear_14 ?_
  refine x_iload_n rfl d_X7_tear_15 ?_
  refine x_rdV d_X7_tear_16 lk_7_123 mo_X2_rowAt vi_X2_rowAt (sp_rowAt (cW_q C hp).1 hn20 hr) (o2_o (cW_q C hp).1) ⟨_, rfl, rfl⟩ rfl ⟨Nat.le_of_ble_eq_true rfl, Nat.le_of_ble_eq_true rfl⟩ rfl rfl (Nat.zero_le _) (Nat.zero_le _) (Nat.le_of_ble_eq_true rfl) rfl ?_
  refine x_astore d_X7_tear_19 (Nat.le_of_ble_eq_true rfl) ?_
  refine x_aload rfl d_X7_tear_21 ?_
  refine x_ifnull d_X7_tear_23 ?_
  refine x_aload rfl d_X7_tear_26 ?_
  refine x_getf co_all (v := .int (nI ((R p r) 0 0))) d_X7_tear_28 fk_7_127 (o3_o ((cW_q C hp).2.2.1 r hr).1) rfl ?_
  refine x_if_neN (tgt := 36) d_X7_tear_31 (by decide) (by omega) (fun c_1 => ?_) (fun c_1 => by exfalso; exact h0 c_1)
  refine x_aload rfl d_X7_tear_36 ?_
  refine x_iconst (v := nI 0) (by decide) d_X7_tear_38 ?_
  refine x_putf co_all d_X7_tear_39 fk_7_127 ft_3_0 (o3_o ((cW_q C hp).2.2.1 r hr).1) (Nat.le_of_ble_eq_true rfl) rfl rfl (o3_B ((cW_q C hp).2.2.1 r hr).1) ?_
  have H2_3 := o3_put0 (0) ((cW_q C hp).2.2.1 r hr).1
  have f_3 := o3_g0 (0) ((cW_q C hp).2.2.1 r hr).1 ((nFr.rf (S := nIv (P p 4 r) 7) (h := h))) (by exact ⟨by omega, by omega⟩)
  refine x_aload_n rfl d_X7_tear_42 ?_
  refine x_iload_n rfl d_X7_tear_43 ?_
  refine x_iconst (v := nI 1) (by decide) d_X7_tear_44 ?_
  refine x_iaddN d_X7_tear_45 ?_
  have W2 := pW_up (cW_q C hp) hr f_3 H2_3 (rOK_no hrk)
  refine x_rdV d_X7_tear_46 lk_7_123 mo_X2_rowAt vi_X2_rowAt (sp_rowAtO W2.1 hn20 (j := r + 1) (by omega) (by omega)) (o2_o W2.1) ⟨_, rfl, rfl⟩ rfl ⟨Nat.le_of_ble_eq_true rfl, Nat.le_of_ble_eq_true rfl⟩ rfl rfl (Nat.zero_le _) (Nat.zero_le _) (Nat.le_of_ble_eq_true rfl) rfl ?_
  refine x_astoreN d_X7_tear_49 (Nat.le_of_ble_eq_true rfl) ?_
  refine x_aloadN rfl d_X7_tear_51 ?_
  refine x_ifnullN (tgt := 61) d_X7_tear_53 (by decide) ?_
  refine x_iconst (v := nI 1) (by decide) d_X7_tear_61 ?_
  exact x_ireturn d_X7_tear_62 rfl (by first | rfl | exact nB_nar _ | exact nB_nar1 (by omega)) (f_3).1 (f_3).2.1 (Nat.zero_le _) (Nat.zero_le _) (⟨rfl, cW_r C hp f_3 (fun q z => Or.inr ⟨_, hr, z⟩) W2⟩)
theorem cl_pullP {h : nPH} {a b : Nat} {V : Nat → Nat → Nat} {P : Nat → Nat → Nat → Nat} {R : Nat → Nat → Nat → Nat → Nat} {E Y T S : Nat → Nat → Nat} (C : cW h a b V P R E Y T S) {p : Int32} (hp : ¬ nIn p (V 1 0)) {k v : Int32} : nRd YX7_pull [.ref (a), .int (p), .int (k), .int (v)] h (.int (nI 0)) := by
  refine nSp_of (by decide +kernel) rfl (Nat.le_of_ble_eq_true rfl) (ls := [some (.ref (a)), some (.int (p)), some (.int (k)), some (.int (v)), none]) (by exact (And.intro rfl (And.intro rfl (And.intro rfl (And.intro rfl True.intro))))) ?_
  refine x_aload_n rfl d_X7_pull_0 ?_
  refine x_iload_n rfl d_X7_pull_1 ?_
  refine x_rdV d_X7_pull_2 lk_7_85 mo_X7_panelAt vi_X7_panelAt (sp_pAtN C.1.1 (cW_n C) hp) (o7_o C.1.1) ⟨_, rfl, rfl⟩ rfl ⟨Nat.le_of_ble_eq_true rfl, Nat.le_of_ble_eq_true rfl⟩ rfl rfl (Nat.zero_le _) (Nat.zero_le _) (Nat.le_of_ble_eq_true rfl) rfl ?_
  refine x_astoreN d_X7_pull_5 (Nat.le_of_ble_eq_true rfl) ?_
  refine x_aloadN rfl d_X7_pull_7 ?_
  refine x_ifnullN (tgt := 32) d_X7_pull_9 (by decide) ?_
  refine x_iconst (v := nI 0) (by decide) d_X7_pull_32 ?_
  exact x_ireturn d_X7_pull_33 rfl (by first | rfl | exact nB_nar _ | exact nB_nar1 (by omega)) rfl rfl (Nat.zero_le _) (Nat.zero_le _) (⟨rfl, rfl⟩)
theorem cl_pullO {h : nPH} {a b : Nat} {V : Nat → Nat → Nat} {P : Nat → Nat → Nat → Nat} {R : Nat → Nat → Nat → Nat → Nat} {E Y T S : Nat → Nat → Nat} (C : cW h a b V P R E Y T S) {p : Nat} (hp : p < V 1 0) {k v : Int32} (hO : rOff (P p 5 0) (R p) (nI 0) k) : nRd YX7_pull [.ref (a), .int (nI (p)), .int (k), .int (v)] h (.int (nI 0)) := by
  have hn12 := cW_n C
  have hn20 := (cW_q C hp).2.1
  refine nSp_of (by decide +kernel) rfl (Nat.le_of_ble_eq_true rfl) (ls := [some (.ref (a)), some (.int (nI (p))), some (.int (k)), some (.int (v)), none]) (by exact (And.intro rfl (And.intro rfl (And.intro rfl (And.intro rfl True.intro))))) ?_
  refine x_aload_n rfl d_X7_pull_0 ?_
  refine x_iload_n rfl d_X7_pull_1 ?_
  refine x_rdV d_X7_pull_2 lk_7_85 mo_X7_panelAt vi_X7_panelAt (sp_pAt C.1.1 (cW_n C) hp) (o7_o C.1.1) ⟨_, rfl, rfl⟩ rfl ⟨Nat.le_of_ble_eq_true rfl, Nat.le_of_ble_eq_true rfl⟩ rfl rfl (Nat.zero_le _) (Nat.zero_le _) (Nat.le_of_ble_eq_true rfl) rfl ?_
  refine x_astore d_X7_pull_5 (Nat.le_of_ble_eq_true rfl) ?_
  refine x_aload rfl d_X7_pull_7 ?_
  refine x_ifnull d_X7_pull_9 ?_
  refine x_aload rfl d_X7_pull_12 ?_
  refine x_iconst (v := nI 0) (by decide) d_X7_pull_14 ?_
  refine x_iload_n rfl d_X7_pull_15 ?_
  refine x_rdV d_X7_pull_16 lk_7_130 mo_X2_rowWith vi_X2_rowWith (sp_rowWithO (cW_q C hp) hO) (o2_o (cW_q C hp).1) ⟨_, rfl, rfl⟩ rfl ⟨Nat.le_of_ble_eq_true rfl, Nat.le_of_ble_eq_true rfl⟩ rfl rfl (Nat.zero_le _) (Nat.zero_le _) (Nat.le_of_ble_eq_true rfl) rfl ?_
  refine x_ifnullN (tgt := 32) d_X7_pull_19 (by decide) ?_
  refine x_iconst (v := nI 0) (by decide) d_X7_pull_32 ?_
  exact x_ireturn d_X7_pull_33 rfl (by first | rfl | exact nB_nar _ | exact nB_nar1 (by omega)) rfl rfl (Nat.zero_le _) (Nat.zero_le _) (⟨rfl, rfl⟩)
theorem cl_pullV {h : nPH} {a b : Nat} {V : Nat → Nat → Nat} {P : Nat → Nat → Nat → Nat} {R : Nat → Nat → Nat → Nat → Nat} {E Y T S : Nat → Nat → Nat} (C : cW h a b V P R E Y T S) {p : Nat} (hp : p < V 1 0) {k : Nat} (hk : k < R p 0 0 0) {v : Int32} (hv : ¬ (nI 0 ≤ v ∧ v ≤ nI 100)) : nRd YX7_pull [.ref (a), .int (nI (p)), .int (nI (k)), .int (v)] h (.int (nI 0)) := by
  have hn12 := cW_n C
  have hn20 := (cW_q C hp).2.1
  have h1p : 0 < P p 5 0 := cW_1 C hp
  have hpl := ((cW_q C hp).2.2.1 0 h1p).2.1.1
  refine nSp_of (by decide +kernel) rfl (Nat.le_of_ble_eq_true rfl) (ls := [some (.ref (a)), some (.int (nI (p))), some (.int (nI (k))), some (.int (v)), none]) (by exact (And.intro rfl (And.intro rfl (And.intro rfl (And.intro rfl True.intro))))) ?_
  refine x_aload_n rfl d_X7_pull_0 ?_
  refine x_iload_n rfl d_X7_pull_1 ?_
  refine x_rdV d_X7_pull_2 lk_7_85 mo_X7_panelAt vi_X7_panelAt (sp_pAt C.1.1 (cW_n C) hp) (o7_o C.1.1) ⟨_, rfl, rfl⟩ rfl ⟨Nat.le_of_ble_eq_true rfl, Nat.le_of_ble_eq_true rfl⟩ rfl rfl (Nat.zero_le _) (Nat.zero_le _) (Nat.le_of_ble_eq_true rfl) rfl ?_
  refine x_astore d_X7_pull_5 (Nat.le_of_ble_eq_true rfl) ?_
  refine x_aload rfl d_X7_pull_7 ?_
  refine x_ifnull d_X7_pull_9 ?_
  refine x_aload rfl d_X7_pull_12 ?_
  refine x_iconst (v := nI 0) (by decide) d_X7_pull_14 ?_
  refine x_iload_n rfl d_X7_pull_15 ?_
  refine x_rdV d_X7_pull_16 lk_7_130 mo_X2_rowWith vi_X2_rowWith (sp_rowWith (cW_q C hp) h1p hk) (o2_o (cW_q C hp).1) ⟨_, rfl, rfl⟩ rfl ⟨Nat.le_of_ble_eq_true rfl, Nat.le_of_ble_eq_true rfl⟩ rfl rfl (Nat.zero_le _) (Nat.zero_le _) (Nat.le_of_ble_eq_true rfl) rfl ?_
  refine x_ifnull d_X7_pull_19 ?_
  refine x_iload_n rfl d_X7_pull_22 ?_
  refine x_iconst (v := nI 0) (by decide) d_X7_pull_23 ?_
  refine x_bipush (v := nI 100) (by decide) d_X7_pull_24 ?_
  refine x_rdS d_X7_pull_26 lk_7_64 mo_X7_within sc_X7_within (sp_within (v) (nI 0) (nI 100)) rfl ⟨Nat.le_of_ble_eq_true rfl, Nat.le_of_ble_eq_true rfl⟩ rfl rfl (Nat.zero_le _) (Nat.zero_le _) (Nat.le_of_ble_eq_true rfl) rfl ?_
  rw [nB_F hv]
  refine x_if_neN (tgt := 34) d_X7_pull_29 (by decide) (by omega) (fun c_1 => by exfalso; exact c_1 rfl) (fun c_1 => ?_)
  refine x_iconst (v := nI 0) (by decide) d_X7_pull_32 ?_
  exact x_ireturn d_X7_pull_33 rfl (by first | rfl | exact nB_nar _ | exact nB_nar1 (by omega)) rfl rfl (Nat.zero_le _) (Nat.zero_le _) (⟨rfl, rfl⟩)
theorem cl_pull {h : nPH} {a b : Nat} {V : Nat → Nat → Nat} {P : Nat → Nat → Nat → Nat} {R : Nat → Nat → Nat → Nat → Nat} {E Y T S : Nat → Nat → Nat} (C : cW h a b V P R E Y T S) {p : Nat} (hp : p < V 1 0) {k : Nat} (hk : k < R p 0 0 0) {v : Nat} (hv : v ≤ 100) : nWv YX7_pull [.ref (a), .int (nI (p)), .int (nI (k)), .int (nI (v))] h (some (.int (nI 1))) (fun h2 => kB b h h2 ∧ cW h2 a b V (uP P p (u2 (P p) 6 k v)) (uP R p (R p)) E Y T S) := by
  have hn12 := cW_n C
  have hn20 := (cW_q C hp).2.1
  have h1p : 0 < P p 5 0 := cW_1 C hp
  have hpl := ((cW_q C hp).2.2.1 0 h1p).2.1.1
  refine nSp_of (by decide +kernel) rfl (Nat.le_of_ble_eq_true rfl) (ls := [some (.ref (a)), some (.int (nI (p))), some (.int (nI (k))), some (.int (nI (v))), none]) (by exact (And.intro rfl (And.intro rfl (And.intro rfl (And.intro rfl True.intro))))) ?_
  refine x_aload_n rfl d_X7_pull_0 ?_
  refine x_iload_n rfl d_X7_pull_1 ?_
  refine x_rdV d_X7_pull_2 lk_7_85 mo_X7_panelAt vi_X7_panelAt (sp_pAt C.1.1 (cW_n C) hp) (o7_o C.1.1) ⟨_, rfl, rfl⟩ rfl ⟨Nat.le_of_ble_eq_true rfl, Nat.le_of_ble_eq_true rfl⟩ rfl rfl (Nat.zero_le _) (Nat.zero_le _) (Nat.le_of_ble_eq_true rfl) rfl ?_
  refine x_astore d_X7_pull_5 (Nat.le_of_ble_eq_true rfl) ?_
  refine x_aload rfl d_X7_pull_7 ?_
  refine x_ifnull d_X7_pull_9 ?_
  refine x_aload rfl d_X7_pull_12 ?_
  refine x_iconst (v := nI 0) (by decide) d_X7_pull_14 ?_
  refine x_iload_n rfl d_X7_pull_15 ?_
  refine x_rdV d_X7_pull_16 lk_7_130 mo_X2_rowWith vi_X2_rowWith (sp_rowWith (cW_q C hp) h1p hk) (o2_o (cW_q C hp).1) ⟨_, rfl, rfl⟩ rfl ⟨Nat.le_of_ble_eq_true rfl, Nat.le_of_ble_eq_true rfl⟩ rfl rfl (Nat.zero_le _) (Nat.zero_le _) (Nat.le_of_ble_eq_true rfl) rfl ?_
  refine x_ifnull d_X7_pull_19 ?_
  refine x_iload_n rfl d_X7_pull_22 ?_
  refine x_iconst (v := nI 0) (by decide) d_X7_pull_23 ?_
  refine x_bipush (v := nI 100) (by decide) d_X7_pull_24 ?_
  refine x_rdS d_X7_pull_26 lk_7_64 mo_X7_within sc_X7_within (sp_within (nI (v)) (nI 0) (nI 100)) rfl ⟨Nat.le_of_ble_eq_true rfl, Nat.le_of_ble_eq_true rfl⟩ rfl rfl (Nat.zero_le _) (Nat.zero_le _) (Nat.le_of_ble_eq_true rfl) rfl ?_
  rw [nB_ge (a := 0) (b := v) (c := 100) rfl rfl rfl (by decide) (by omega) (by decide) ⟨by omega, hv⟩]
  refine x_if_neN (tgt := 34) d_X7_pull_29 (by decide) (by omega) (fun c_1 => ?_) (fun c_1 => by exfalso; exact absurd c_1 (by decide))
  refine x_aload rfl d_X7_pull_34 ?_
  refine x_getf co_all (v := .ref (V 0 p + 2)) d_X7_pull_36 fk_7_242 (o2_o (cW_q C hp).1) rfl ?_
  refine x_iload_n rfl d_X7_pull_39 ?_
  refine x_iload_n rfl d_X7_pull_40 ?_
  refine x_iastore d_X7_pull_41 (o2_6 (cW_q C hp).1) (nIx_nI (j := k) (by omega) (by decide)) (Nat.le_trans (o2_B (cW_q C hp).1) (Nat.le_add_right _ _)) ?_
  have H2_2 := o2_ast6 (k) (v) (cW_q C hp).1
  have f_3 := o2_f6 (k) (v) (cW_q C hp).1 ((nFr.rf (S := nIv (V 0 p) 3) (h := h))) (by exact ⟨by omega, by omega⟩)
  refine x_iconst (v := nI 1) (by decide) d_X7_pull_42 ?_
  exact x_ireturn d_X7_pull_43 rfl (by first | rfl | exact nB_nar _ | exact nB_nar1 (by omega)) (f_3).1 (f_3).2.1 (Nat.zero_le _) (Nat.zero_le _) (⟨rfl, cW_pf C hp f_3 (fun q z => Or.inl z) (pW_o2 (cW_q C hp) f_3 H2_2 rfl (fun _ => u2_ne (by omega))) rfl (fun _ => u2_ne (by omega))⟩)
theorem cl_hangP {h : nPH} {a b : Nat} {V : Nat → Nat → Nat} {P : Nat → Nat → Nat → Nat} {R : Nat → Nat → Nat → Nat → Nat} {E Y T S : Nat → Nat → Nat} (C : cW h a b V P R E Y T S) {p : Int32} (hp : ¬ nIn p (V 1 0)) {x y : Int32} : nRd YX7_hang [.ref (a), .int (p), .int (x), .int (y)] h (.int (nI 0)) := by
  refine nSp_of (by decide +kernel) rfl (Nat.le_of_ble_eq_true rfl) (ls := [some (.ref (a)), some (.int (p)), some (.int (x)), some (.int (y)), none]) (by exact (And.intro rfl (And.intro rfl (And.intro rfl (And.intro rfl True.intro))))) ?_
  refine x_aload_n rfl d_X7_hang_0 ?_
  refine x_iload_n rfl d_X7_hang_1 ?_
  refine x_rdV d_X7_hang_2 lk_7_85 mo_X7_panelAt vi_X7_panelAt (sp_pAtN C.1.1 (cW_n C) hp) (o7_o C.1.1) ⟨_, rfl, rfl⟩ rfl ⟨Nat.le_of_ble_eq_true rfl, Nat.le_of_ble_eq_true rfl⟩ rfl rfl (Nat.zero_le _) (Nat.zero_le _) (Nat.le_of_ble_eq_true rfl) rfl ?_
  refine x_astoreN d_X7_hang_5 (Nat.le_of_ble_eq_true rfl) ?_
  refine x_aloadN rfl d_X7_hang_7 ?_
  refine x_ifnullN (tgt := 32) d_X7_hang_9 (by decide) ?_
  refine x_iconst (v := nI 0) (by decide) d_X7_hang_32 ?_
  exact x_ireturn d_X7_hang_33 rfl (by first | rfl | exact nB_nar _ | exact nB_nar1 (by omega)) rfl rfl (Nat.zero_le _) (Nat.zero_le _) (⟨rfl, rfl⟩)
theorem cl_hangY {h : nPH} {a b : Nat} {V : Nat → Nat → Nat} {P : Nat → Nat → Nat → Nat} {R : Nat → Nat → Nat → Nat → Nat} {E Y T S : Nat → Nat → Nat} (C : cW h a b V P R E Y T S) {p : Nat} (hp : p < V 1 0) {x y : Int32} (hy : ¬ (nI 1 ≤ y ∧ y ≤ nI 1000)) : nRd YX7_hang [.ref (a), .int (nI (p)), .int (x), .int (y)] h (.int (nI 0)) := by
  have hn12 := cW_n C
  have hn20 := (cW_q C hp).2.1
  refine nSp_of (by decide +kernel) rfl (Nat.le_of_ble_eq_true rfl) (ls := [some (.ref (a)), some (.int (nI (p))), some (.int (x)), some (.int (y)), none]) (by exact (And.intro rfl (And.intro rfl (And.intro rfl (And.intro rfl True.intro))))) ?_
  refine x_aload_n rfl d_X7_hang_0 ?_
  refine x_iload_n rfl d_X7_hang_1 ?_
  refine x_rdV d_X7_hang_2 lk_7_85 mo_X7_panelAt vi_X7_panelAt (sp_pAt C.1.1 (cW_n C) hp) (o7_o C.1.1) ⟨_, rfl, rfl⟩ rfl ⟨Nat.le_of_ble_eq_true rfl, Nat.le_of_ble_eq_true rfl⟩ rfl rfl (Nat.zero_le _) (Nat.zero_le _) (Nat.le_of_ble_eq_true rfl) rfl ?_
  refine x_astore d_X7_hang_5 (Nat.le_of_ble_eq_true rfl) ?_
  refine x_aload rfl d_X7_hang_7 ?_
  refine x_ifnull d_X7_hang_9 ?_
  refine x_iload_n rfl d_X7_hang_12 ?_
  refine x_iconst (v := nI 1) (by decide) d_X7_hang_13 ?_
  refine x_sipush (v := nI 1000) (by decide) d_X7_hang_14 ?_
  refine x_rdS d_X7_hang_17 lk_7_64 mo_X7_within sc_X7_within (sp_within (y) (nI (1)) (nI (1000))) rfl ⟨Nat.le_of_ble_eq_true rfl, Nat.le_of_ble_eq_true rfl⟩ rfl rfl (Nat.zero_le _) (Nat.zero_le _) (Nat.le_of_ble_eq_true rfl) rfl ?_
  rw [nB_F hy]
  refine x_if_eqN (tgt := 32) d_X7_hang_20 (by decide) (by omega) (fun c_1 => ?_) (fun c_1 => by exfalso; exact c_1 rfl)
  refine x_iconst (v := nI 0) (by decide) d_X7_hang_32 ?_
  exact x_ireturn d_X7_hang_33 rfl (by first | rfl | exact nB_nar _ | exact nB_nar1 (by omega)) rfl rfl (Nat.zero_le _) (Nat.zero_le _) (⟨rfl, rfl⟩)
theorem cl_hangX {h : nPH} {a b : Nat} {V : Nat → Nat → Nat} {P : Nat → Nat → Nat → Nat} {R : Nat → Nat → Nat → Nat → Nat} {E Y T S : Nat → Nat → Nat} (C : cW h a b V P R E Y T S) {p : Nat} (hp : p < V 1 0) {y : Nat} (hy1 : 1 ≤ y) (hy2 : y ≤ 1000) {x : Int32} (hx : ¬ (nI 1 ≤ x ∧ x ≤ nI y)) : nRd YX7_hang [.ref (a), .int (nI (p)), .int (x), .int (nI (y))] h (.int (nI 0)) := by
  have hn12 := cW_n C
  have hn20 := (cW_q C hp).2.1
  refine nSp_of (by decide +kernel) rfl (Nat.le_of_ble_eq_true rfl) (ls := [some (.ref (a)), some (.int (nI (p))), some (.int (x)), some (.int (nI (y))), none]) (by exact (And.intro rfl (And.intro rfl (And.intro rfl (And.intro rfl True.intro))))) ?_
  refine x_aload_n rfl d_X7_hang_0 ?_
  refine x_iload_n rfl d_X7_hang_1 ?_
  refine x_rdV d_X7_hang_2 lk_7_85 mo_X7_panelAt vi_X7_panelAt (sp_pAt C.1.1 (cW_n C) hp) (o7_o C.1.1) ⟨_, rfl, rfl⟩ rfl ⟨Nat.le_of_ble_eq_true rfl, Nat.le_of_ble_eq_true rfl⟩ rfl rfl (Nat.zero_le _) (Nat.zero_le _) (Nat.le_of_ble_eq_true rfl) rfl ?_
  refine x_astore d_X7_hang_5 (Nat.le_of_ble_eq_true rfl) ?_
  refine x_aload rfl d_X7_hang_7 ?_
  refine x_ifnull d_X7_hang_9 ?_
  refine x_iload_n rfl d_X7_hang_12 ?_
  refine x_iconst (v := nI 1) (by decide) d_X7_hang_13 ?_
  refine x_sipush (v := nI 1000) (by decide) d_X7_hang_14 ?_
  refine x_rdS d_X7_hang_17 lk_7_64 mo_X7_within sc_X7_within (sp_within (nI (y)) (nI (1)) (nI (1000))) rfl ⟨Nat.le_of_ble_eq_true rfl, Nat.le_of_ble_eq_true rfl⟩ rfl rfl (Nat.zero_le _) (Nat.zero_le _) (Nat.le_of_ble_eq_true rfl) rfl ?_
  rw [nB_ge (a := 1) (b := y) (c := 1000) rfl rfl rfl (by decide) (by omega) (by decide) ⟨hy1, hy2⟩]
  refine x_if_eqN (tgt := 32) d_X7_hang_20 (by decide) (by omega) (fun c_1 => by exfalso; exact absurd c_1 (by decide)) (fun c_1 => ?_)
  refine x_iload_n rfl d_X7_hang_23 ?_
  refine x_iconst (v := nI 1) (by decide) d_X7_hang_24 ?_
  refine x_iload_n rfl d_X7_hang_25 ?_
  refine x_rdS d_X7_hang_26 lk_7_64 mo_X7_within sc_X7_within (sp_within (x) (nI (1)) (nI (y))) rfl ⟨Nat.le_of_ble_eq_true rfl, Nat.le_of_ble_eq_true rfl⟩ rfl rfl (Nat.zero_le _) (Nat.zero_le _) (Nat.le_of_ble_eq_true rfl) rfl ?_
  rw [nB_F hx]
  refine x_if_neN (tgt := 34) d_X7_hang_29 (by decide) (by omega) (fun c_2 => by exfalso; exact c_2 rfl) (fun c_2 => ?_)
  refine x_iconst (v := nI 0) (by decide) d_X7_hang_32 ?_
  exact x_ireturn d_X7_hang_33 rfl (by first | rfl | exact nB_nar _ | exact nB_nar1 (by omega)) rfl rfl (Nat.zero_le _) (Nat.zero_le _) (⟨rfl, rfl⟩)
theorem cl_hang {h : nPH} {a b : Nat} {V : Nat → Nat → Nat} {P : Nat → Nat → Nat → Nat} {R : Nat → Nat → Nat → Nat → Nat} {E Y T S : Nat → Nat → Nat} (C : cW h a b V P R E Y T S) {p : Nat} (hp : p < V 1 0) {y : Nat} (hy1 : 1 ≤ y) (hy2 : y ≤ 1000) {x : Nat} (hx1 : 1 ≤ x) (hx2 : x ≤ y) : nWv YX7_hang [.ref (a), .int (nI (p)), .int (nI (x)), .int (nI (y))] h (some (.int (nI 1))) (fun h2 => kB b h h2 ∧ cW h2 a b V (uP P p (u2 (u2 (P p) 2 0 x) 3 0 y)) (uP R p (R p)) E Y T S) := by
  have hn12 := cW_n C
  have hn20 := (cW_q C hp).2.1
  refine nSp_of (by decide +kernel) rfl (Nat.le_of_ble_eq_true rfl) (ls := [some (.ref (a)), some (.int (nI (p))), some (.int (nI (x))), some (.int (nI (y))), none]) (by exact (And.intro rfl (And.intro rfl (And.intro rfl (And.intro rfl True.intro))))) ?_
  refine x_aload_n rfl d_X7_hang_0 ?_
  refine x_iload_n rfl d_X7_hang_1 ?_
  refine x_rdV d_X7_hang_2 lk_7_85 mo_X7_panelAt vi_X7_panelAt (sp_pAt C.1.1 (cW_n C) hp) (o7_o C.1.1) ⟨_, rfl, rfl⟩ rfl ⟨Nat.le_of_ble_eq_true rfl, Nat.le_of_ble_eq_true rfl⟩ rfl rfl (Nat.zero_le _) (Nat.zero_le _) (Nat.le_of_ble_eq_true rfl) rfl ?_
  refine x_astore d_X7_hang_5 (Nat.le_of_ble_eq_true rfl) ?_
  refine x_aload rfl d_X7_hang_7 ?_
  refine x_ifnull d_X7_hang_9 ?_
  refine x_iload_n rfl d_X7_hang_12 ?_
  refine x_iconst (v := nI 1) (by decide) d_X7_hang_13 ?_
  refine x_sipush (v := nI 1000) (by decide) d_X7_hang_14 ?_
  refine x_rdS d_X7_hang_17 lk_7_64 mo_X7_within sc_X7_within (sp_within (nI (y)) (nI (1)) (nI (1000))) rfl ⟨Nat.le_of_ble_eq_true rfl, Nat.le_of_ble_eq_true rfl⟩ rfl rfl (Nat.zero_le _) (Nat.zero_le _) (Nat.le_of_ble_eq_true rfl) rfl ?_
  rw [nB_ge (a := 1) (b := y) (c := 1000) rfl rfl rfl (by decide) (by omega) (by decide) ⟨hy1, hy2⟩]
  refine x_if_eqN (tgt := 32) d_X7_hang_20 (by decide) (by omega) (fun c_1 => by exfalso; exact absurd c_1 (by decide)) (fun c_1 => ?_)
  refine x_iload_n rfl d_X7_hang_23 ?_
  refine x_iconst (v := nI 1) (by decide) d_X7_hang_24 ?_
  refine x_iload_n rfl d_X7_hang_25 ?_
  refine x_rdS d_X7_hang_26 lk_7_64 mo_X7_within sc_X7_within (sp_within (nI (x)) (nI (1)) (nI (y))) rfl ⟨Nat.le_of_ble_eq_true rfl, Nat.le_of_ble_eq_true rfl⟩ rfl rfl (Nat.zero_le _) (Nat.zero_le _) (Nat.le_of_ble_eq_true rfl) rfl ?_
  rw [nB_ge (a := 1) (b := x) (c := y) rfl rfl rfl (by decide) (by omega) (by omega) ⟨hx1, hx2⟩]
  refine x_if_neN (tgt := 34) d_X7_hang_29 (by decide) (by omega) (fun c_2 => ?_) (fun c_2 => by exfalso; exact absurd c_2 (by decide))
  refine x_aload rfl d_X7_hang_34 ?_
  refine x_iload_n rfl d_X7_hang_36 ?_
  refine x_putf co_all d_X7_hang_37 fk_7_171 ft_2_2 (o2_o (cW_q C hp).1) (Nat.le_of_ble_eq_true rfl) rfl rfl (o2_B (cW_q C hp).1) ?_
  have H3_2 := o2_put2 (x) (cW_q C hp).1
  have f_4 := o2_g2 (x) (cW_q C hp).1 ((nFr.rf (S := nIv (V 0 p) 3) (h := h))) (by exact ⟨by omega, by omega⟩)
  refine x_aload rfl d_X7_hang_40 ?_
  refine x_iload_n rfl d_X7_hang_42 ?_
  refine x_putf co_all d_X7_hang_43 fk_7_174 ft_2_3 (o2_o H3_2) (Nat.le_of_ble_eq_true rfl) rfl rfl (o2_B H3_2) ?_
  have H5_2 := o2_put3 (y) H3_2
  have f_6 := o2_g3 (y) H3_2 (f_4) (by exact ⟨by omega, by omega⟩)
  refine x_iconst (v := nI 1) (by decide) d_X7_hang_46 ?_
  exact x_ireturn d_X7_hang_47 rfl (by first | rfl | exact nB_nar _ | exact nB_nar1 (by omega)) (f_6).1 (f_6).2.1 (Nat.zero_le _) (Nat.zero_le _) (⟨rfl, cW_pf C hp f_6 (fun q z => Or.inl z) (pW_o2 (cW_q C hp) f_6 H5_2 rfl (fun _ => (u2_ne (by omega)).trans (u2_ne (by omega)))) rfl (fun _ => (u2_ne (by omega)).trans (u2_ne (by omega)))⟩)
