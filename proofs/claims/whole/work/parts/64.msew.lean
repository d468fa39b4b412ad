/-! the model: sew -/
theorem md_sewP {h : nPH} {b : Nat} {M V : Nat → Nat → Nat} {P : Nat → Nat → Nat → Nat} {R : Nat → Nat → Nat → Nat → Nat} {E Y T S : Nat → Nat → Nat} (H : o8 h b M) (W : rW M V P R E Y T S) (O : kO V P R) {p : Int32} (hp : ¬ nIn p (V 1 0)) {q : Int32} : nRd YX8_sew [.ref (b), .int (p), .int (q)] h (.int (-1)) := by
  refine nSp_of (by decide +kernel) rfl (Nat.le_of_ble_eq_true rfl) (ls := [some (.ref (b)), some (.int (p)), some (.int (q)), none, none, none, none, none, none, none, none, none, none]) (by exact (And.intro rfl (And.intro rfl (And.intro rfl True.intro)))) ?_
  refine x_aload_n rfl d_X8_sew_0 ?_
  refine x_iload_n rfl d_X8_sew_1 ?_
  refine x_rdV d_X8_sew_2 lk_8_91 mo_X8_isPanel vi_X8_isPanel (sp_isPanelN H (rW_n W O) (rW_x W hp)) (o8_o H) ⟨_, rfl, rfl⟩ rfl ⟨Nat.le_of_ble_eq_true rfl, Nat.le_of_ble_eq_true rfl⟩ rfl rfl (Nat.zero_le _) (Nat.zero_le _) (Nat.le_of_ble_eq_true rfl) rfl ?_
  refine x_if_eqN (tgt := 48) d_X8_sew_5 (by decide) (by omega) (fun c_1 => ?_) (fun c_1 => by exfalso; omega)
  refine x_iconst (v := -1) (by decide) d_X8_sew_48 ?_
  exact x_ireturn d_X8_sew_49 rfl rfl rfl rfl (Nat.zero_le _) (Nat.zero_le _) (⟨rfl, rfl⟩)
theorem md_sewQ {h : nPH} {b : Nat} {M V : Nat → Nat → Nat} {P : Nat → Nat → Nat → Nat} {R : Nat → Nat → Nat → Nat → Nat} {E Y T S : Nat → Nat → Nat} (H : o8 h b M) (W : rW M V P R E Y T S) (O : kO V P R) {p : Nat} (hp : p < V 1 0) {q : Int32} (hq : ¬ nIn q (V 1 0)) : nRd YX8_sew [.ref (b), .int (nI (p)), .int (q)] h (.int (-1)) := by
  obtain ⟨p1, p2, p3, p4, p5, p6, p7, p8⟩ := rW_p W O hp
  refine nSp_of (by decide +kernel) rfl (Nat.le_of_ble_eq_true rfl) (ls := [some (.ref (b)), some (.int (nI (p))), some (.int (q)), none, none, none, none, none, none, none, none, none, none]) (by exact (And.intro rfl (And.intro rfl (And.intro rfl True.intro)))) ?_
  refine x_aload_n rfl d_X8_sew_0 ?_
  refine x_iload_n rfl d_X8_sew_1 ?_
  refine x_rdV d_X8_sew_2 lk_8_91 mo_X8_isPanel vi_X8_isPanel (sp_isPanel H p2 p1) (o8_o H) ⟨_, rfl, rfl⟩ rfl ⟨Nat.le_of_ble_eq_true rfl, Nat.le_of_ble_eq_true rfl⟩ rfl rfl (Nat.zero_le _) (Nat.zero_le _) (Nat.le_of_ble_eq_true rfl) rfl ?_
  refine x_if_eqN (tgt := 48) d_X8_sew_5 (by decide) (by omega) (fun c_1 => by exfalso; omega) (fun c_1 => ?_)
  refine x_aload_n rfl d_X8_sew_8 ?_
  refine x_iload_n rfl d_X8_sew_9 ?_
  refine x_rdV d_X8_sew_10 lk_8_91 mo_X8_isPanel vi_X8_isPanel (sp_isPanelN H (rW_n W O) (rW_x W hq)) (o8_o H) ⟨_, rfl, rfl⟩ rfl ⟨Nat.le_of_ble_eq_true rfl, Nat.le_of_ble_eq_true rfl⟩ rfl rfl (Nat.zero_le _) (Nat.zero_le _) (Nat.le_of_ble_eq_true rfl) rfl ?_
  refine x_if_eqN (tgt := 48) d_X8_sew_13 (by decide) (by omega) (fun c_2 => ?_) (fun c_2 => by exfalso; omega)
  refine x_iconst (v := -1) (by decide) d_X8_sew_48 ?_
  exact x_ireturn d_X8_sew_49 rfl rfl rfl rfl (Nat.zero_le _) (Nat.zero_le _) (⟨rfl, rfl⟩)
theorem md_sewE {h : nPH} {b : Nat} {M V : Nat → Nat → Nat} {P : Nat → Nat → Nat → Nat} {R : Nat → Nat → Nat → Nat → Nat} {E Y T S : Nat → Nat → Nat} (H : o8 h b M) (W : rW M V P R E Y T S) (O : kO V P R) {p : Nat} (hp : p < V 1 0) {q : Nat} (hq : q < V 1 0) (he : p = q ∨ 12 ≤ V 1 0) : nRd YX8_sew [.ref (b), .int (nI (p)), .int (nI (q))] h (.int (-1)) := by
  obtain ⟨p1, p2, p3, p4, p5, p6, p7, p8⟩ := rW_p W O hp
  obtain ⟨q1, q2, q3, q4, q5, q6, q7, q8⟩ := rW_p W O hq
  have e1 := W.1.1
  have o1 := O.1
  refine nSp_of (by decide +kernel) rfl (Nat.le_of_ble_eq_true rfl) (ls := [some (.ref (b)), some (.int (nI (p))), some (.int (nI (q))), none, none, none, none, none, none, none, none, none, none]) (by exact (And.intro rfl (And.intro rfl (And.intro rfl True.intro)))) ?_
  refine x_aload_n rfl d_X8_sew_0 ?_
  refine x_iload_n rfl d_X8_sew_1 ?_
  refine x_rdV d_X8_sew_2 lk_8_91 mo_X8_isPanel vi_X8_isPanel (sp_isPanel H p2 p1) (o8_o H) ⟨_, rfl, rfl⟩ rfl ⟨Nat.le_of_ble_eq_true rfl, Nat.le_of_ble_eq_true rfl⟩ rfl rfl (Nat.zero_le _) (Nat.zero_le _) (Nat.le_of_ble_eq_true rfl) rfl ?_
  refine x_if_eqN (tgt := 48) d_X8_sew_5 (by decide) (by omega) (fun c_1 => by exfalso; omega) (fun c_1 => ?_)
  refine x_aload_n rfl d_X8_sew_8 ?_
  refine x_iload_n rfl d_X8_sew_9 ?_
  refine x_rdV d_X8_sew_10 lk_8_91 mo_X8_isPanel vi_X8_isPanel (sp_isPanel H p2 q1) (o8_o H) ⟨_, rfl, rfl⟩ rfl ⟨Nat.le_of_ble_eq_true rfl, Nat.le_of_ble_eq_true rfl⟩ rfl rfl (Nat.zero_le _) (Nat.zero_le _) (Nat.le_of_ble_eq_true rfl) rfl ?_
  refine x_if_eqN (tgt := 48) d_X8_sew_13 (by decide) (by omega) (fun c_2 => by exfalso; omega) (fun c_2 => ?_)
  refine x_iload_n rfl d_X8_sew_16 ?_
  refine x_iload_n rfl d_X8_sew_17 ?_
  refine x_icmp_eqN (tgt := 48) d_X8_sew_18 (by decide) (by omega) (by omega) (fun c_3 => ?_) (fun c_3 => ?_)
  · refine x_iconst (v := -1) (by decide) d_X8_sew_48 ?_
    exact x_ireturn d_X8_sew_49 rfl rfl rfl rfl (Nat.zero_le _) (Nat.zero_le _) (⟨rfl, rfl⟩)
  · refine x_aload_n rfl d_X8_sew_21 ?_
    refine x_getf co_all (v := .int (nI (M 1 0))) d_X8_sew_22 fk_8_88 (o8_o H) rfl ?_
    refine x_bipush (v := nI 12) (by decide) d_X8_sew_25 ?_
    refine x_icmp_eqN (tgt := 48) d_X8_sew_27 (by decide) (by omega) (by omega) (fun c_4 => ?_) (fun c_4 => by exfalso; omega)
    refine x_iconst (v := -1) (by decide) d_X8_sew_48 ?_
    exact x_ireturn d_X8_sew_49 rfl rfl rfl rfl (Nat.zero_le _) (Nat.zero_le _) (⟨rfl, rfl⟩)
theorem md_sewR {h : nPH} {b : Nat} {M V : Nat → Nat → Nat} {P : Nat → Nat → Nat → Nat} {R : Nat → Nat → Nat → Nat → Nat} {E Y T S : Nat → Nat → Nat} (H : o8 h b M) (W : rW M V P R E Y T S) (O : kO V P R) {p : Nat} (hp : p < V 1 0) {q : Nat} (hq : q < V 1 0) (hne : p ≠ q) (hn : V 1 0 < 12) (h20 : 20 < P p 5 0 + P q 5 0) : nRd YX8_sew [.ref (b), .int (nI (p)), .int (nI (q))] h (.int (-1)) := by
  obtain ⟨p1, p2, p3, p4, p5, p6, p7, p8⟩ := rW_p W O hp
  obtain ⟨q1, q2, q3, q4, q5, q6, q7, q8⟩ := rW_p W O hq
  have e1 := W.1.1
  refine nSp_of (by decide +kernel) rfl (Nat.le_of_ble_eq_true rfl) (ls := [some (.ref (b)), some (.int (nI (p))), some (.int (nI (q))), none, none, none, none, none, none, none, none, none, none]) (by exact (And.intro rfl (And.intro rfl (And.intro rfl True.intro)))) ?_
  refine x_aload_n rfl d_X8_sew_0 ?_
  refine x_iload_n rfl d_X8_sew_1 ?_
  refine x_rdV d_X8_sew_2 lk_8_91 mo_X8_isPanel vi_X8_isPanel (sp_isPanel H p2 p1) (o8_o H) ⟨_, rfl, rfl⟩ rfl ⟨Nat.le_of_ble_eq_true rfl, Nat.le_of_ble_eq_true rfl⟩ rfl rfl (Nat.zero_le _) (Nat.zero_le _) (Nat.le_of_ble_eq_true rfl) rfl ?_
  refine x_if_eqN (tgt := 48) d_X8_sew_5 (by decide) (by omega) (fun c_1 => by exfalso; omega) (fun c_1 => ?_)
  refine x_aload_n rfl d_X8_sew_8 ?_
  refine x_iload_n rfl d_X8_sew_9 ?_
  refine x_rdV d_X8_sew_10 lk_8_91 mo_X8_isPanel vi_X8_isPanel (sp_isPanel H p2 q1) (o8_o H) ⟨_, rfl, rfl⟩ rfl ⟨Nat.le_of_ble_eq_true rfl, Nat.le_of_ble_eq_true rfl⟩ rfl rfl (Nat.zero_le _) (Nat.zero_le _) (Nat.le_of_ble_eq_true rfl) rfl ?_
  refine x_if_eqN (tgt := 48) d_X8_sew_13 (by decide) (by omega) (fun c_2 => by exfalso; omega) (fun c_2 => ?_)
  refine x_iload_n rfl d_X8_sew_16 ?_
  refine x_iload_n rfl d_X8_sew_17 ?_
  refine x_icmp_eqN (tgt := 48) d_X8_sew_18 (by decide) (by omega) (by omega) (fun c_3 => by exfalso; omega) (fun c_3 => ?_)
  refine x_aload_n rfl d_X8_sew_21 ?_
  refine x_getf co_all (v := .int (nI (M 1 0))) d_X8_sew_22 fk_8_88 (o8_o H) rfl ?_
  refine x_bipush (v := nI 12) (by decide) d_X8_sew_25 ?_
  refine x_icmp_eqN (tgt := 48) d_X8_sew_27 (by decide) (by omega) (by omega) (fun c_4 => by exfalso; omega) (fun c_4 => ?_)
  refine x_aload_n rfl d_X8_sew_30 ?_
  refine x_getf co_all (v := .ref (b + 1)) d_X8_sew_31 fk_8_13 (o8_o H) rfl ?_
  refine x_iload_n rfl d_X8_sew_34 ?_
  refine x_iaload d_X8_sew_35 (o8_2 H) (nIx_nI (j := p) (by omega) (by decide)) ?_
  refine x_aload_n rfl d_X8_sew_36 ?_
  refine x_getf co_all (v := .ref (b + 1)) d_X8_sew_37 fk_8_13 (o8_o H) rfl ?_
  refine x_iload_n rfl d_X8_sew_40 ?_
  refine x_iaload d_X8_sew_41 (o8_2 H) (nIx_nI (j := q) (by omega) (by decide)) ?_
  refine x_iaddN d_X8_sew_42 ?_
  refine x_bipush (v := nI 20) (by decide) d_X8_sew_43 ?_
  refine x_icmp_leN (tgt := 50) d_X8_sew_45 (by decide) (by omega) (by omega) (fun c_5 => by exfalso; omega) (fun c_5 => ?_)
  refine x_iconst (v := -1) (by decide) d_X8_sew_48 ?_
  exact x_ireturn d_X8_sew_49 rfl rfl rfl rfl (Nat.zero_le _) (Nat.zero_le _) (⟨rfl, rfl⟩)
theorem md_sewU {h : nPH} {b : Nat} {M V : Nat → Nat → Nat} {P : Nat → Nat → Nat → Nat} {R : Nat → Nat → Nat → Nat → Nat} {E Y T S : Nat → Nat → Nat} (H : o8 h b M) (W : rW M V P R E Y T S) (O : kO V P R) {p : Nat} (hp : p < V 1 0) {q : Nat} (hq : q < V 1 0) (hne : p ≠ q) (hn : V 1 0 < 12) (h20 : P p 5 0 + P q 5 0 ≤ 20) (hu : ¬ fit (R p (P p 5 0 - 1) 0 0) (R q 0 0 0)) : nRd YX8_sew [.ref (b), .int (nI (p)), .int (nI (q))] h (.int (-1)) := by
  obtain ⟨p1, p2, p3, p4, p5, p6, p7, p8⟩ := rW_p W O hp
  obtain ⟨q1, q2, q3, q4, q5, q6, q7, q8⟩ := rW_p W O hq
  have e1 := W.1.1
  obtain ⟨a, ha⟩ : ∃ a, P p 5 0 = a + 1 := ⟨P p 5 0 - 1, by omega⟩
  have e9 : P p 5 0 - 1 = a := by omega
  obtain ⟨r1, r2, r3, r4, r5, r6⟩ := rW_r W O hp (r := a) (by omega)
  obtain ⟨t1, t2, t3, t4, t5, t6⟩ := rW_r W O hq (r := 0) q6
  obtain ⟨pl, hpl⟩ : ∃ pl, R p a 0 0 = pl := ⟨_, rfl⟩
  obtain ⟨ql, hql⟩ : ∃ ql, R q 0 0 0 = ql := ⟨_, rfl⟩
  rw [hpl] at r3 r4
  rw [hql] at t3 t4
  rw [e9, hpl, hql] at hu
  refine nSp_of (by decide +kernel) rfl (Nat.le_of_ble_eq_true rfl) (ls := [some (.ref (b)), some (.int (nI (p))), some (.int (nI (q))), none, none, none, none, none, none, none, none, none, none]) (by exact (And.intro rfl (And.intro rfl (And.intro rfl True.intro)))) ?_
  refine x_aload_n rfl d_X8_sew_0 ?_
  refine x_iload_n rfl d_X8_sew_1 ?_
  refine x_rdV d_X8_sew_2 lk_8_91 mo_X8_isPanel vi_X8_isPanel (sp_isPanel H p2 p1) (o8_o H) ⟨_, rfl, rfl⟩ rfl ⟨Nat.le_of_ble_eq_true rfl, Nat.le_of_ble_eq_true rfl⟩ rfl rfl (Nat.zero_le _) (Nat.zero_le _) (Nat.le_of_ble_eq_true rfl) rfl ?_
  refine x_if_eqN (tgt := 48) d_X8_sew_5 (by decide) (by omega) (fun c_1 => by exfalso; omega) (fun c_1 => ?_)
  refine x_aload_n rfl d_X8_sew_8 ?_
  refine x_iload_n rfl d_X8_sew_9 ?_
  refine x_rdV d_X8_sew_10 lk_8_91 mo_X8_isPanel vi_X8_isPanel (sp_isPanel H p2 q1) (o8_o H) ⟨_, rfl, rfl⟩ rfl ⟨Nat.le_of_ble_eq_true rfl, Nat.le_of_ble_eq_true rfl⟩ rfl rfl (Nat.zero_le _) (Nat.zero_le _) (Nat.le_of_ble_eq_true rfl) rfl ?_
  refine x_if_eqN (tgt := 48) d_X8_sew_13 (by decide) (by omega) (fun c_2 => by exfalso; omega) (fun c_2 => ?_)
  refine x_iload_n rfl d_X8_sew_16 ?_
  refine x_iload_n rfl d_X8_sew_17 ?_
  refine x_icmp_eqN (tgt := 48) d_X8_sew_18 (by decide) (by omega) (by omega) (fun c_3 => by exfalso; omega) (fun c_3 => ?_)
  refine x_aload_n rfl d_X8_sew_21 ?_
  refine x_getf co_all (v := .int (nI (M 1 0))) d_X8_sew_22 fk_8_88 (o8_o H) rfl ?_
  refine x_bipush (v := nI 12) (by decide) d_X8_sew_25 ?_
  refine x_icmp_eqN (tgt := 48) d_X8_sew_27 (by decide) (by omega) (by omega) (fun c_4 => by exfalso; omega) (fun c_4 => ?_)
  refine x_aload_n rfl d_X8_sew_30 ?_
  refine x_getf co_all (v := .ref (b + 1)) d_X8_sew_31 fk_8_13 (o8_o H) rfl ?_
  refine x_iload_n rfl d_X8_sew_34 ?_
  refine x_iaload d_X8_sew_35 (o8_2 H) (nIx_nI (j := p) (by omega) (by decide)) ?_
  refine x_aload_n rfl d_X8_sew_36 ?_
  refine x_getf co_all (v := .ref (b + 1)) d_X8_sew_37 fk_8_13 (o8_o H) rfl ?_
  refine x_iload_n rfl d_X8_sew_40 ?_
  refine x_iaload d_X8_sew_41 (o8_2 H) (nIx_nI (j := q) (by omega) (by decide)) ?_
  refine x_iaddN d_X8_sew_42 ?_
  refine x_bipush (v := nI 20) (by decide) d_X8_sew_43 ?_
  refine x_icmp_leN (tgt := 50) d_X8_sew_45 (by decide) (by omega) (by omega) (fun c_5 => ?_) (fun c_5 => by exfalso; omega)
  refine x_aload_n rfl d_X8_sew_50 ?_
  refine x_getf co_all (v := .ref (b + 7)) d_X8_sew_51 fk_8_32 (o8_o H) rfl ?_
  refine x_bipush (v := nI 20) (by decide) d_X8_sew_54 ?_
  refine x_iload_n rfl d_X8_sew_56 ?_
  refine x_imulN d_X8_sew_57 ?_
  refine x_aload_n rfl d_X8_sew_58 ?_
  refine x_getf co_all (v := .ref (b + 1)) d_X8_sew_59 fk_8_13 (o8_o H) rfl ?_
  refine x_iload_n rfl d_X8_sew_62 ?_
  refine x_iaload d_X8_sew_63 (o8_2 H) (nIx_nI (j := p) (by omega) (by decide)) ?_
  refine x_iaddN d_X8_sew_64 ?_
  refine x_iconst (v := nI 1) (by decide) d_X8_sew_65 ?_
  refine x_isubN d_X8_sew_66 (by omega) ?_
  rw [show 20 * p + M 2 p - 1 = 20 * p + a by omega]
  refine x_iaload d_X8_sew_67 (o8_8 H) (nIx_nI (j := 20 * p + a) (by omega) (by decide)) ?_
  rw [r3]
  refine x_istore_n d_X8_sew_68 (Nat.le_of_ble_eq_true rfl) ?_
  refine x_aload_n rfl d_X8_sew_69 ?_
  refine x_getf co_all (v := .ref (b + 7)) d_X8_sew_70 fk_8_32 (o8_o H) rfl ?_
  refine x_bipush (v := nI 20) (by decide) d_X8_sew_73 ?_
  refine x_iload_n rfl d_X8_sew_75 ?_
  refine x_imulN d_X8_sew_76 ?_
  refine x_iaload d_X8_sew_77 (o8_8 H) (nIx_nI (j := 20 * q) (by omega) (by decide)) ?_
  rw [show 20 * q = 20 * q + 0 from rfl, t3]
  refine x_istore d_X8_sew_78 (Nat.le_of_ble_eq_true rfl) ?_
  refine x_iload_n rfl d_X8_sew_80 ?_
  refine x_if_eqN (tgt := 105) d_X8_sew_81 (by decide) (by omega) (fun c_6 => ?_) (fun c_6 => ?_)
  · refine x_iconst (v := -1) (by decide) d_X8_sew_105 ?_
    exact x_ireturn d_X8_sew_106 rfl rfl rfl rfl (Nat.zero_le _) (Nat.zero_le _) (⟨rfl, rfl⟩)
  · refine x_iload rfl d_X8_sew_84 ?_
    refine x_if_eqN (tgt := 105) d_X8_sew_86 (by decide) (by omega) (fun c_7 => ?_) (fun c_7 => ?_)
    · refine x_iconst (v := -1) (by decide) d_X8_sew_105 ?_
      exact x_ireturn d_X8_sew_106 rfl rfl rfl rfl (Nat.zero_le _) (Nat.zero_le _) (⟨rfl, rfl⟩)
    · refine x_iload_n rfl d_X8_sew_89 ?_
      refine x_iconst (v := nI 2) (by decide) d_X8_sew_90 ?_
      refine x_iload rfl d_X8_sew_91 ?_
      refine x_imulN d_X8_sew_93 ?_
      refine x_icmp_gtN (tgt := 105) d_X8_sew_94 (by decide) (by omega) (by omega) (fun c_8 => ?_) (fun c_8 => ?_)
      · refine x_iconst (v := -1) (by decide) d_X8_sew_105 ?_
        exact x_ireturn d_X8_sew_106 rfl rfl rfl rfl (Nat.zero_le _) (Nat.zero_le _) (⟨rfl, rfl⟩)
      · refine x_iload rfl d_X8_sew_97 ?_
        refine x_iconst (v := nI 2) (by decide) d_X8_sew_99 ?_
        refine x_iload_n rfl d_X8_sew_100 ?_
        refine x_imulN d_X8_sew_101 ?_
        refine x_icmp_leN (tgt := 107) d_X8_sew_102 (by decide) (by omega) (by omega) (fun c_9 => by exfalso; exact hu ⟨by omega, by omega, by omega, by omega⟩) (fun c_9 => ?_)
        refine x_iconst (v := -1) (by decide) d_X8_sew_105 ?_
        exact x_ireturn d_X8_sew_106 rfl rfl rfl rfl (Nat.zero_le _) (Nat.zero_le _) (⟨rfl, rfl⟩)
def mSk (M : Nat → Nat → Nat) (l m k : Nat) : Nat → Nat → Nat := fun f i => if f = 34 ∧ i = 0 then l else if f = 35 ∧ i < k then tkn l m i else M f i
theorem mSk_0 (M : Nat → Nat → Nat) (l m f i : Nat) : mSk M l m 0 f i = u2 M 34 0 l f i := by
  unfold mSk u2
  by_cases e : f = 34 ∧ i = 0
  · rw [if_pos e, if_pos e]
  · rw [if_neg e, if_neg e, if_neg (by omega)]
theorem mSk_s (M : Nat → Nat → Nat) (l m k f i : Nat) : mSk M l m (k + 1) f i = u2 (mSk M l m k) 35 k (tkn l m k) f i := by
  by_cases e : f = 35 ∧ i = k
  · obtain ⟨rfl, rfl⟩ := e
    rw [u2_eq]
    unfold mSk
    rw [if_neg (by omega), if_pos (by omega)]
  · rw [u2_ne e]
    unfold mSk
    by_cases h1 : f = 34 ∧ i = 0
    · rw [if_pos h1, if_pos h1]
    · rw [if_neg h1, if_neg h1]
      by_cases h2 : f = 35 ∧ i < k
      · rw [if_pos h2, if_pos (by omega)]
      · rw [if_neg h2, if_neg (by omega)]
theorem mSk_o {M : Nat → Nat → Nat} {l m k f i : Nat} (h : f ≠ 34) (h2 : f ≠ 35) : mSk M l m k f i = M f i := by
  unfold mSk
  rw [if_neg (by omega), if_neg (by omega)]
theorem rW_sk {M V : Nat → Nat → Nat} {P : Nat → Nat → Nat → Nat} {R : Nat → Nat → Nat → Nat → Nat} {E Y T S : Nat → Nat → Nat} (W : rW M V P R E Y T S) (l m : Nat) : rW (mSk M l m l) V P R E Y T (sSk l m l S) := by
  refine rW_out W (fun f i h1 h2 => mSk_o (by omega) (by omega)) (mSk_o (by decide) (by decide)) rfl ⟨(mSk_o (by decide) (by decide)).trans W.1.2.1, fun i hi => (mSk_o (by decide) (by decide)).trans (W.1.2.2 i hi)⟩ ?_ ?_ ?_ ?_
  · rw [mSk_o (f := 22) (by decide) (by decide), mSk_o (f := 23) (by decide) (by decide), mSk_o (f := 24) (by decide) (by decide), mSk_o (f := 25) (by decide) (by decide)]
    exact ⟨W.2.2.1.1, fun z => ⟨(W.2.2.1.2 z).1, (W.2.2.1.2 z).2.1, (W.2.2.1.2 z).2.2.1, fun i hi => by rw [mSk_o (f := 26) (by decide) (by decide), mSk_o (f := 27) (by decide) (by decide)]; exact (W.2.2.1.2 z).2.2.2 i hi⟩⟩
  · exact ⟨(mSk_o (by decide) (by decide)).trans W.2.2.2.1.1, fun i hi => (mSk_o (by decide) (by decide)).trans (W.2.2.2.1.2 i hi)⟩
  · rw [mSk_o (f := 31) (by decide) (by decide), mSk_o (f := 32) (by decide) (by decide), mSk_o (f := 33) (by decide) (by decide)]
    exact W.2.2.2.2.1
  · have e0 : sSk l m l S 0 0 = l := if_pos ⟨rfl, rfl⟩
    have e1 : ∀ i, i < l → sSk l m l S 1 i = tkn l m i := fun i hi => by
      unfold sSk
      rw [if_neg (by omega), if_pos ⟨rfl, hi⟩]
    refine ⟨by rw [e0]; exact if_pos ⟨rfl, rfl⟩, fun i hi => ?_⟩
    rw [e0] at hi
    rw [e1 i hi]
    unfold mSk
    rw [if_neg (by omega), if_pos ⟨rfl, hi⟩]
theorem gA {pl ql k : Nat} {D : Nat → Nat → Nat} (hD : D 0 0 = pl) (h : pl ≤ ql) (hk : k < pl) : rJn ql D 2 k = tkn pl ql k := by
  unfold rJn
  rw [hD, if_pos h, if_pos ⟨rfl, hk⟩]
theorem gB {pl ql k : Nat} {D : Nat → Nat → Nat} (hD : D 0 0 = pl) (h : ql < pl) (hk : k < pl) : rJn ql D 2 k = if g1 ql pl ql k = true then 1 else 0 := by
  unfold rJn rG1
  rw [hD, if_neg (by omega)]
  by_cases e : g1 ql pl ql k = true
  · rw [if_pos ⟨rfl, e⟩, if_pos e]
  · rw [if_neg (fun z => e z.2), if_neg e]
    unfold rSe
    rw [if_neg (by omega), if_pos ⟨rfl, hk⟩]
theorem g1_j {pl ql i j : Nat} (hi : i < ql) (hj : j < tkn ql pl i) : g1 ql pl ql (i * pl / ql + j) = true ↔ j = 0 := by
  rw [g1_iff]
  have hm : i * pl / ql ≤ (i + 1) * pl / ql := dv_mono (by omega)
  unfold tkn at hj
  constructor
  · rintro ⟨x, hx, e⟩
    by_cases h : x ≤ i
    · have : x * pl / ql ≤ i * pl / ql := dv_mono h
      omega
    · have : (i + 1) * pl / ql ≤ x * pl / ql := dv_mono (by omega)
      omega
  · intro e
    exact ⟨i, hi, by rw [e, Nat.add_zero]⟩
theorem mSm_o {N : Nat → Nat → Nat} {y k f x : Nat} {G : Nat → Nat} (h : f ≠ 10) (h2 : f ≠ 11) : mSm N y k G f x = N f x := by
  unfold mSm
  rw [if_neg (by omega), if_neg (by omega)]
theorem lp_sw1 {h0 : nPH} {Post : Option Value → nPH → Prop} {b p q pl ql l m : Nat} {M : Nat → Nat → Nat} (hl1 : 1 ≤ l) (hl : l ≤ 24) (hm : m ≤ 24) (kk : ∀ h : nPH, nFr (nIv b 24) h0 h → o8 h b (mSk M l m l) → nG YX8_sew (nKy YX8_sew h0.1 h0.2.1 Post) 0 0 183 [some (.ref (b)), some (.int (nI (p))), some (.int (nI (q))), some (.int (nI (pl))), some (.int (nI (ql))), some (.int (nI (l))), some (.int (nI (m))), none, none, none, none, none, none] [] h) : ∀ d k : Nat, k + d = l → ∀ h : nPH, nFr (nIv b 24) h0 h → o8 h b (mSk M l m k) → nG YX8_sew (nKy YX8_sew h0.1 h0.2.1 Post) 0 0 144 [some (.ref (b)), some (.int (nI (p))), some (.int (nI (q))), some (.int (nI (pl))), some (.int (nI (ql))), some (.int (nI (l))), some (.int (nI (m))), some (.int (nI (k))), none, none, none, none, none] [] h := by
  intro d
  induction d with
  | zero =>
    intro k hk h F H
    refine x_iload rfl d_X8_sew_144 ?_
    refine x_iload rfl d_X8_sew_146 ?_
    refine x_icmp_geN (tgt := 183) d_X8_sew_148 (by decide) (by omega) (by omega) (fun c_1 => ?_) (fun c_1 => by exfalso; omega)
    have e : k = l := by omega
    subst e
    exact nG.sub (by exact (And.intro rfl (And.intro rfl (And.intro rfl (And.intro rfl (And.intro rfl (And.intro rfl (And.intro rfl True.intro)))))))) (kk h F H)
  | succ d ih =>
    intro k hk h F H
    have b1 : (k + 1) * m ≤ 24 * 24 := Nat.mul_le_mul (by omega) hm
    have b2 : k * m ≤ 24 * 24 := Nat.mul_le_mul (by omega) hm
    refine x_iload rfl d_X8_sew_144 ?_
    refine x_iload rfl d_X8_sew_146 ?_
    refine x_icmp_geN (tgt := 183) d_X8_sew_148 (by decide) (by omega) (by omega) (fun c_1 => by exfalso; omega) (fun c_1 => ?_)
    refine x_aload_n rfl d_X8_sew_151 ?_
    refine x_getf co_all (v := .ref (b + 22)) d_X8_sew_152 fk_8_78 (o8_o H) rfl ?_
    refine x_iload rfl d_X8_sew_155 ?_
    refine x_iload rfl d_X8_sew_157 ?_
    refine x_iconst (v := nI 1) (by decide) d_X8_sew_159 ?_
    refine x_iaddN d_X8_sew_160 ?_
    refine x_iload rfl d_X8_sew_161 ?_
    refine x_imulN d_X8_sew_163 ?_
    refine x_iload rfl d_X8_sew_164 ?_
    refine x_idivN d_X8_sew_166 (by omega) (by omega) (by omega) ?_
    refine x_iload rfl d_X8_sew_167 ?_
    refine x_iload rfl d_X8_sew_169 ?_
    refine x_imulN d_X8_sew_171 ?_
    refine x_iload rfl d_X8_sew_172 ?_
    refine x_idivN d_X8_sew_174 (by omega) (by omega) (by omega) ?_
    refine x_isubN d_X8_sew_175 (dv_mono (by omega)) ?_
    rw [show (k + 1) * m / l - k * m / l = tkn l m k from rfl]
    refine x_iastore d_X8_sew_176 (o8_35 H) (nIx_nI (j := k) (by omega) (by decide)) (Nat.le_trans (o8_B H) (Nat.le_add_right _ _)) ?_
    have H2_8 := o8_ast35 (k) (tkn l m k) H
    have f_3 := o8_f35 (k) (tkn l m k) H (F) (by exact ⟨by omega, by omega⟩)
    refine x_iincN (m := 1) d_X8_sew_177 rfl (by decide) (Nat.le_of_ble_eq_true rfl) ?_
    refine x_goto (tgt := 144) d_X8_sew_180 (by decide) ?_
    exact ih (k + 1) (by omega) _ f_3 (o8_cg H2_8 (mSk_s M l m k))
theorem lp_sw2 {h0 : nPH} {Post : Option Value → nPH → Prop} {b p q pl ql l m : Nat} {n a : Nat} {N : Nat → Nat → Nat} (hp : p < n) (hn : n < 12) (ha : a + 1 ≤ 20) (h2 : N 2 p = a + 1) (hnd : ∀ r k, r < a + 1 → k < 24 → N 15 (24 * (20 * p + r) + k) ≤ 1) (h9 : ∀ r, r < a + 1 → N 9 (20 * p + r) ≤ 1) (kk : ∀ h : nPH, nFr (nIv b 24) h0 h → o8 h b (mBk N (20 * p) (20 * n) (a + 1)) → nG YX8_sew (nKy YX8_sew h0.1 h0.2.1 Post) 0 0 258 [some (.ref (b)), some (.int (nI (p))), some (.int (nI (q))), some (.int (nI (pl))), some (.int (nI (ql))), some (.int (nI (l))), some (.int (nI (m))), some (.int (nI (n))), none, none, none, none, none] [] h) : ∀ d i : Nat, i + d = a + 1 → ∀ h : nPH, nFr (nIv b 24) h0 h → o8 h b (mBk N (20 * p) (20 * n) i) → nG YX8_sew (nKy YX8_sew h0.1 h0.2.1 Post) 0 0 230 [some (.ref (b)), some (.int (nI (p))), some (.int (nI (q))), some (.int (nI (pl))), some (.int (nI (ql))), some (.int (nI (l))), some (.int (nI (m))), some (.int (nI (n))), some (.int (nI (i))), none, none, none, none] [] h := by
  intro d
  induction d with
  | zero =>
    intro i hi h F H
    have e2 : mBk N (20 * p) (20 * n) i 2 p = a + 1 := (mBk_o (by omega) (by omega)).trans h2
    refine x_iload rfl d_X8_sew_230 ?_
    refine x_aload_n rfl d_X8_sew_232 ?_
    refine x_getf co_all (v := .ref (b + 1)) d_X8_sew_233 fk_8_13 (o8_o H) rfl ?_
    refine x_iload_n rfl d_X8_sew_236 ?_
    refine x_iaload d_X8_sew_237 (o8_2 H) (nIx_nI (j := p) (by omega) (by decide)) ?_
    rw [e2]
    refine x_icmp_geN (tgt := 258) d_X8_sew_238 (by decide) (by omega) (by omega) (fun c_1 => ?_) (fun c_1 => by exfalso; omega)
    have e : i = a + 1 := by omega
    rw [e] at H
    exact nG.sub (by exact (And.intro rfl (And.intro rfl (And.intro rfl (And.intro rfl (And.intro rfl (And.intro rfl (And.intro rfl (And.intro rfl True.intro))))))))) (kk h F H)
  | succ d ih =>
    intro i hi h F H
    have e2 : mBk N (20 * p) (20 * n) i 2 p = a + 1 := (mBk_o (by omega) (by omega)).trans h2
    refine x_iload rfl d_X8_sew_230 ?_
    refine x_aload_n rfl d_X8_sew_232 ?_
    refine x_getf co_all (v := .ref (b + 1)) d_X8_sew_233 fk_8_13 (o8_o H) rfl ?_
    refine x_iload_n rfl d_X8_sew_236 ?_
    refine x_iaload d_X8_sew_237 (o8_2 H) (nIx_nI (j := p) (by omega) (by decide)) ?_
    rw [e2]
    refine x_icmp_geN (tgt := 258) d_X8_sew_238 (by decide) (by omega) (by omega) (fun c_1 => by exfalso; omega) (fun c_1 => ?_)
    refine x_aload_n rfl d_X8_sew_241 ?_
    refine x_iload_n rfl d_X8_sew_242 ?_
    refine x_iload rfl d_X8_sew_243 ?_
    refine x_iload rfl d_X8_sew_245 ?_
    refine x_iload rfl d_X8_sew_247 ?_
    refine x_wvV d_X8_sew_249 lk_8_209 mo_X8_copies vi_X8_copies (sp_mcopies (N := mBk N (20 * p) (20 * n) i) (p := p) (r := i) (n := n) (s := i) (by omega) (by omega) hn (by omega) (by omega) (fun k hk => by rw [mBk_o (by omega) (by omega)]; exact hnd i k (by omega) hk) (by rw [mBk_o (by omega) (by omega)]; exact h9 i (by omega)) H) (o8_o H) ⟨_, rfl, rfl⟩ rfl ⟨Nat.le_of_ble_eq_true rfl, Nat.le_of_ble_eq_true rfl⟩ (Nat.zero_le _) (Nat.zero_le _) (Nat.le_of_ble_eq_true rfl) rfl (fun h3 hq_ e3a e3b => ?_)
    obtain ⟨G3, H3⟩ := hq_
    have F3 := (F).tr G3
    refine x_iincN (m := 1) d_X8_sew_252 rfl (by decide) (Nat.le_of_ble_eq_true rfl) ?_
    refine x_goto (tgt := 230) d_X8_sew_255 (by decide) ?_
    rw [mBk_n N (by omega)] at H3
    exact ih (i + 1) (by omega) _ F3 H3
theorem lp_sw3 {h0 : nPH} {Post : Option Value → nPH → Prop} {b p q pl ql l m : Nat} {n a c : Nat} {N : Nat → Nat → Nat} (hp : p < n) (hq : q < n) (hn : n < 12) (hac : a + 1 + c ≤ 20) (h2p : N 2 p = a + 1) (h2 : N 2 q = c) (hnd : ∀ r k, r < c → k < 24 → N 15 (24 * (20 * q + r) + k) ≤ 1) (h9 : ∀ r, r < c → N 9 (20 * q + r) ≤ 1) (kk : ∀ h : nPH, nFr (nIv b 24) h0 h → o8 h b (mBk N (20 * q) (20 * n + (a + 1)) c) → nG YX8_sew (nKy YX8_sew h0.1 h0.2.1 Post) 0 0 296 [some (.ref (b)), some (.int (nI (p))), some (.int (nI (q))), some (.int (nI (pl))), some (.int (nI (ql))), some (.int (nI (l))), some (.int (nI (m))), some (.int (nI (n))), none, none, none, none, none] [] h) : ∀ d i : Nat, i + d = c → ∀ h : nPH, nFr (nIv b 24) h0 h → o8 h b (mBk N (20 * q) (20 * n + (a + 1)) i) → nG YX8_sew (nKy YX8_sew h0.1 h0.2.1 Post) 0 0 261 [some (.ref (b)), some (.int (nI (p))), some (.int (nI (q))), some (.int (nI (pl))), some (.int (nI (ql))), some (.int (nI (l))), some (.int (nI (m))), some (.int (nI (n))), some (.int (nI (i))), none, none, none, none] [] h := by
  intro d
  induction d with
  | zero =>
    intro i hi h F H
    have e2 : (mBk N (20 * q) (20 * n + (a + 1)) i) 2 q = c := (mBk_o (by omega) (by omega)).trans h2
    have e2p : (mBk N (20 * q) (20 * n + (a + 1)) i) 2 p = a + 1 := (mBk_o (by omega) (by omega)).trans h2p
    refine x_iload rfl d_X8_sew_261 ?_
    refine x_aload_n rfl d_X8_sew_263 ?_
    refine x_getf co_all (v := .ref (b + 1)) d_X8_sew_264 fk_8_13 (o8_o H) rfl ?_
    refine x_iload_n rfl d_X8_sew_267 ?_
    refine x_iaload d_X8_sew_268 (o8_2 H) (nIx_nI (j := q) (by omega) (by decide)) ?_
    rw [e2]
    refine x_icmp_geN (tgt := 296) d_X8_sew_269 (by decide) (by omega) (by omega) (fun c_1 => ?_) (fun c_1 => by exfalso; omega)
    have e : i = c := by omega
    rw [e] at H
    exact nG.sub (by exact (And.intro rfl (And.intro rfl (And.intro rfl (And.intro rfl (And.intro rfl (And.intro rfl (And.intro rfl (And.intro rfl True.intro))))))))) (kk h F H)
  | succ d ih =>
    intro i hi h F H
    have e2 : (mBk N (20 * q) (20 * n + (a + 1)) i) 2 q = c := (mBk_o (by omega) (by omega)).trans h2
    have e2p : (mBk N (20 * q) (20 * n + (a + 1)) i) 2 p = a + 1 := (mBk_o (by omega) (by omega)).trans h2p
    refine x_iload rfl d_X8_sew_261 ?_
    refine x_aload_n rfl d_X8_sew_263 ?_
    refine x_getf co_all (v := .ref (b + 1)) d_X8_sew_264 fk_8_13 (o8_o H) rfl ?_
    refine x_iload_n rfl d_X8_sew_267 ?_
    refine x_iaload d_X8_sew_268 (o8_2 H) (nIx_nI (j := q) (by omega) (by decide)) ?_
    rw [e2]
    refine x_icmp_geN (tgt := 296) d_X8_sew_269 (by decide) (by omega) (by omega) (fun c_1 => by exfalso; omega) (fun c_1 => ?_)
    refine x_aload_n rfl d_X8_sew_272 ?_
    refine x_iload_n rfl d_X8_sew_273 ?_
    refine x_iload rfl d_X8_sew_274 ?_
    refine x_iload rfl d_X8_sew_276 ?_
    refine x_aload_n rfl d_X8_sew_278 ?_
    refine x_getf co_all (v := .ref (b + 1)) d_X8_sew_279 fk_8_13 (o8_o H) rfl ?_
    refine x_iload_n rfl d_X8_sew_282 ?_
    refine x_iaload d_X8_sew_283 (o8_2 H) (nIx_nI (j := p) (by omega) (by decide)) ?_
    rw [e2p]
    refine x_iload rfl d_X8_sew_284 ?_
    refine x_iaddN d_X8_sew_286 ?_
    refine x_wvV d_X8_sew_287 lk_8_209 mo_X8_copies vi_X8_copies (sp_mcopies (N := (mBk N (20 * q) (20 * n + (a + 1)) i)) (p := q) (r := i) (n := n) (s := a + 1 + i) (by omega) (by omega) hn (by omega) (by omega) (fun k hk => by rw [mBk_o (by omega) (by omega)]; exact hnd i k (by omega) hk) (by rw [mBk_o (by omega) (by omega)]; exact h9 i (by omega)) H) (o8_o H) ⟨_, rfl, rfl⟩ rfl ⟨Nat.le_of_ble_eq_true rfl, Nat.le_of_ble_eq_true rfl⟩ (Nat.zero_le _) (Nat.zero_le _) (Nat.le_of_ble_eq_true rfl) rfl (fun h3 hq_ e3a e3b => ?_)
    obtain ⟨G3, H3⟩ := hq_
    have F3 := (F).tr G3
    refine x_iincN (m := 1) d_X8_sew_290 rfl (by decide) (Nat.le_of_ble_eq_true rfl) ?_
    refine x_goto (tgt := 261) d_X8_sew_293 (by decide) ?_
    rw [show 20 * n + (a + 1 + i) = (20 * n + (a + 1)) + i by omega, mBk_n N (by omega)] at H3
    exact ih (i + 1) (by omega) _ F3 H3
theorem lp_sw4A {h0 : nPH} {Post : Option Value → nPH → Prop} {b p q pl ql l m : Nat} {n a : Nat} {N : Nat → Nat → Nat} {G : Nat → Nat} (hn : n < 12) (ha : a < 20) (hpl : pl ≤ 24) (hql : ql ≤ 24) (hl : l ≤ 24) (h35 : ∀ i, i < l → N 35 i = tkn l m i) (hlp : l = pl) (hmq : m = ql) (hle : pl ≤ ql) (hG : ∀ k, k < pl → G k = tkn l m k) (kk : ∀ h : nPH, nFr (nIv b 24) h0 h → o8 h b (mSm N (20 * n + a) pl G) → nG YX8_sew (nKy YX8_sew h0.1 h0.2.1 Post) 0 0 438 [some (.ref (b)), some (.int (nI (p))), some (.int (nI (q))), some (.int (nI (pl))), some (.int (nI (ql))), some (.int (nI (l))), some (.int (nI (m))), some (.int (nI (n))), some (.int (nI (a))), none, none, none, none] [] h) : ∀ d i : Nat, i + d = pl → ∀ h : nPH, nFr (nIv b 24) h0 h → o8 h b (mSm N (20 * n + a) i G) → nG YX8_sew (nKy YX8_sew h0.1 h0.2.1 Post) 0 0 332 [some (.ref (b)), some (.int (nI (p))), some (.int (nI (q))), some (.int (nI (pl))), some (.int (nI (ql))), some (.int (nI (l))), some (.int (nI (m))), some (.int (nI (n))), some (.int (nI (a))), some (.int (nI (i))), some (.int (nI (i))), none, none] [] h := by
  intro d
  induction d with
  | zero =>
    intro i hi h F H
    refine x_iload rfl d_X8_sew_332 ?_
    refine x_iload rfl d_X8_sew_334 ?_
    refine x_icmp_geN (tgt := 438) d_X8_sew_336 (by decide) (by omega) (by omega) (fun c_1 => ?_) (fun c_1 => by exfalso; omega)
    have e : i = pl := by omega
    rw [e] at H
    exact nG.sub (by exact (And.intro rfl (And.intro rfl (And.intro rfl (And.intro rfl (And.intro rfl (And.intro rfl (And.intro rfl (And.intro rfl (And.intro rfl True.intro)))))))))) (kk h F H)
  | succ d ih =>
    intro i hi h F H
    have e35 : (mSm N (20 * n + a) i G) 35 i = tkn l m i := (mSm_o (by decide) (by decide)).trans (h35 i (by omega))
    refine x_iload rfl d_X8_sew_332 ?_
    refine x_iload rfl d_X8_sew_334 ?_
    refine x_icmp_geN (tgt := 438) d_X8_sew_336 (by decide) (by omega) (by omega) (fun c_1 => by exfalso; omega) (fun c_1 => ?_)
    refine x_iload_n rfl d_X8_sew_339 ?_
    refine x_iload rfl d_X8_sew_340 ?_
    refine x_icmp_gtN (tgt := 349) d_X8_sew_342 (by decide) (by omega) (by omega) (fun c_2 => by exfalso; omega) (fun c_2 => ?_)
    refine x_iconst (v := nI 1) (by decide) d_X8_sew_345 ?_
    refine x_goto (tgt := 356) d_X8_sew_346 (by decide) ?_
    refine x_istore d_X8_sew_356 (Nat.le_of_ble_eq_true rfl) ?_
    refine x_iconst (v := nI 0) (by decide) d_X8_sew_358 ?_
    refine x_istore d_X8_sew_359 (Nat.le_of_ble_eq_true rfl) ?_
    refine x_iload rfl d_X8_sew_361 ?_
    refine x_iload rfl d_X8_sew_363 ?_
    refine x_icmp_geN (tgt := 432) d_X8_sew_365 (by decide) (by omega) (by omega) (fun c_3 => by exfalso; omega) (fun c_3 => ?_)
    refine x_aload_n rfl d_X8_sew_368 ?_
    refine x_getf co_all (v := .ref (b + 9)) d_X8_sew_369 fk_8_39 (o8_o H) rfl ?_
    refine x_iload rfl d_X8_sew_372 ?_
    refine x_iload rfl d_X8_sew_374 ?_
    refine x_iload rfl d_X8_sew_376 ?_
    refine x_rdS d_X8_sew_378 lk_8_99 mo_X8_at sc_X8_at (sp_at) rfl ⟨Nat.le_of_ble_eq_true rfl, Nat.le_of_ble_eq_true rfl⟩ rfl rfl (Nat.zero_le _) (Nat.zero_le _) (Nat.le_of_ble_eq_true rfl) rfl ?_
    refine x_iconst (v := nI 3) (by decide) d_X8_sew_381 ?_
    refine x_iastore d_X8_sew_382 (o8_10 H) (nIx_nI (j := 24 * (20 * n + a) + i) (by omega) (by decide)) (Nat.le_trans (o8_B H) (Nat.le_add_right _ _)) ?_
    have H4_8 := o8_ast10 (24 * (20 * n + a) + i) (3) H
    have f_5 := o8_f10 (24 * (20 * n + a) + i) (3) H (F) (by exact ⟨by omega, by omega⟩)
    refine x_aload_n rfl d_X8_sew_383 ?_
    refine x_getf co_all (v := .ref (b + 10)) d_X8_sew_384 fk_8_42 (o8_o H4_8) rfl ?_
    refine x_iload rfl d_X8_sew_387 ?_
    refine x_iload rfl d_X8_sew_389 ?_
    refine x_iload rfl d_X8_sew_391 ?_
    refine x_rdS d_X8_sew_393 lk_8_99 mo_X8_at sc_X8_at (sp_at) rfl ⟨Nat.le_of_ble_eq_true rfl, Nat.le_of_ble_eq_true rfl⟩ rfl rfl (Nat.zero_le _) (Nat.zero_le _) (Nat.le_of_ble_eq_true rfl) rfl ?_
    refine x_iload_n rfl d_X8_sew_396 ?_
    refine x_iload rfl d_X8_sew_397 ?_
    refine x_icmp_gtN (tgt := 412) d_X8_sew_399 (by decide) (by omega) (by omega) (fun c_6 => by exfalso; omega) (fun c_6 => ?_)
    refine x_aload_n rfl d_X8_sew_402 ?_
    refine x_getf co_all (v := .ref (b + 22)) d_X8_sew_403 fk_8_78 (o8_o H4_8) rfl ?_
    refine x_iload rfl d_X8_sew_406 ?_
    refine x_iaload d_X8_sew_408 (o8_35 H4_8) (nIx_nI (j := i) (by omega) (by decide)) ?_
    show nG _ _ _ _ _ _ (.int (nI ((mSm N (20 * n + a) i G) 35 i)) :: _) _
    rw [e35]
    refine x_goto (tgt := 422) d_X8_sew_409 (by decide) ?_
    refine x_iastore d_X8_sew_422 (o8_11 H4_8) (nIx_nI (j := 24 * (20 * n + a) + i) (by omega) (by decide)) (Nat.le_trans (o8_B H4_8) (Nat.le_add_right _ _)) ?_
    have H7_8 := o8_ast11 (24 * (20 * n + a) + i) (tkn l m i) H4_8
    have f_8 := o8_f11 (24 * (20 * n + a) + i) (tkn l m i) H4_8 (f_5) (by exact ⟨by omega, by omega⟩)
    refine x_iincN (m := 1) d_X8_sew_423 rfl (by decide) (Nat.le_of_ble_eq_true rfl) ?_
    refine x_iincN (m := 1) d_X8_sew_426 rfl (by decide) (Nat.le_of_ble_eq_true rfl) ?_
    refine x_goto (tgt := 361) d_X8_sew_429 (by decide) ?_
    refine x_iload rfl d_X8_sew_361 ?_
    refine x_iload rfl d_X8_sew_363 ?_
    refine x_icmp_geN (tgt := 432) d_X8_sew_365 (by decide) (by omega) (by omega) (fun c_9 => ?_) (fun c_9 => by exfalso; omega)
    refine x_iincN (m := 1) d_X8_sew_432 rfl (by decide) (Nat.le_of_ble_eq_true rfl) ?_
    refine x_goto (tgt := 332) d_X8_sew_435 (by decide) ?_
    refine nG.eq (ls2 := [some (.ref (b)), some (.int (nI (p))), some (.int (nI (q))), some (.int (nI (pl))), some (.int (nI (ql))), some (.int (nI (l))), some (.int (nI (m))), some (.int (nI (n))), some (.int (nI (a))), some (.int (nI (i + 1))), some (.int (nI (i + 1))), some (.int (nI (1))), some (.int (nI (0 + 1)))]) rfl rfl rfl rfl rfl ?_
    exact nG.sub (by exact (And.intro rfl (And.intro rfl (And.intro rfl (And.intro rfl (And.intro rfl (And.intro rfl (And.intro rfl (And.intro rfl (And.intro rfl (And.intro rfl (And.intro rfl True.intro)))))))))))) (ih (i + 1) (by omega) _ f_8 (o8_cg H7_8 (mSm_s (hG i (by omega)))))
theorem lp_sw5 {h0 : nPH} {Post : Option Value → nPH → Prop} {b p q pl ql l m : Nat} {n a : Nat} {N : Nat → Nat → Nat} {G : Nat → Nat} (hn : n < 12) (ha : a < 20) (hpl : pl ≤ 24) (hql : ql ≤ 24) (hl : l ≤ 24) (h35 : ∀ i, i < l → N 35 i = tkn l m i) (hlq : l = ql) (hmp : m = pl) (hlt : ql < pl) (hG : ∀ i j, i < ql → j < tkn l m i → G (i * m / l + j) = nB (j = 0)) {i : Nat} (hi : i < l) (hb : i * m / l + tkn l m i ≤ 24) (kk : ∀ h : nPH, nFr (nIv b 24) h0 h → o8 h b (mSm N (20 * n + a) (i * m / l + tkn l m i) G) → nG YX8_sew (nKy YX8_sew h0.1 h0.2.1 Post) 0 0 432 [some (.ref (b)), some (.int (nI (p))), some (.int (nI (q))), some (.int (nI (pl))), some (.int (nI (ql))), some (.int (nI (l))), some (.int (nI (m))), some (.int (nI (n))), some (.int (nI (a))), some (.int (nI (i * m / l + tkn l m i))), some (.int (nI (i))), none, none] [] h) : ∀ d j : Nat, j + d = tkn l m i → ∀ h : nPH, nFr (nIv b 24) h0 h → o8 h b (mSm N (20 * n + a) (i * m / l + j) G) → nG YX8_sew (nKy YX8_sew h0.1 h0.2.1 Post) 0 0 361 [some (.ref (b)), some (.int (nI (p))), some (.int (nI (q))), some (.int (nI (pl))), some (.int (nI (ql))), some (.int (nI (l))), some (.int (nI (m))), some (.int (nI (n))), some (.int (nI (a))), some (.int (nI (i * m / l + j))), some (.int (nI (i))), some (.int (nI (tkn l m i))), some (.int (nI (j)))] [] h := by
  intro d
  generalize hx : i * m / l = x at *
  induction d with
  | zero =>
    intro j hj h F H
    refine x_iload rfl d_X8_sew_361 ?_
    refine x_iload rfl d_X8_sew_363 ?_
    refine x_icmp_geN (tgt := 432) d_X8_sew_365 (by decide) (by omega) (by omega) (fun c_1 => ?_) (fun c_1 => by exfalso; omega)
    have e : j = tkn l m i := by omega
    rw [← e] at kk
    exact nG.sub (by exact (And.intro rfl (And.intro rfl (And.intro rfl (And.intro rfl (And.intro rfl (And.intro rfl (And.intro rfl (And.intro rfl (And.intro rfl (And.intro rfl (And.intro rfl True.intro)))))))))))) (kk h F H)
  | succ d ih =>
    intro j hj h F H
    refine x_iload rfl d_X8_sew_361 ?_
    refine x_iload rfl d_X8_sew_363 ?_
    refine x_icmp_geN (tgt := 432) d_X8_sew_365 (by decide) (by omega) (by omega) (fun c_1 => by exfalso; omega) (fun c_1 => ?_)
    refine x_aload_n rfl d_X8_sew_368 ?_
    refine x_getf co_all (v := .ref (b + 9)) d_X8_sew_369 fk_8_39 (o8_o H) rfl ?_
    refine x_iload rfl d_X8_sew_372 ?_
    refine x_iload rfl d_X8_sew_374 ?_
    refine x_iload rfl d_X8_sew_376 ?_
    refine x_rdS d_X8_sew_378 lk_8_99 mo_X8_at sc_X8_at (sp_at) rfl ⟨Nat.le_of_ble_eq_true rfl, Nat.le_of_ble_eq_true rfl⟩ rfl rfl (Nat.zero_le _) (Nat.zero_le _) (Nat.le_of_ble_eq_true rfl) rfl ?_
    refine x_iconst (v := nI 3) (by decide) d_X8_sew_381 ?_
    refine x_iastore d_X8_sew_382 (o8_10 H) (nIx_nI (j := 24 * (20 * n + a) + (x + j)) (by omega) (by decide)) (Nat.le_trans (o8_B H) (Nat.le_add_right _ _)) ?_
    have H2_8 := o8_ast10 (24 * (20 * n + a) + (x + j)) (3) H
    have f_3 := o8_f10 (24 * (20 * n + a) + (x + j)) (3) H (F) (by exact ⟨by omega, by omega⟩)
    refine x_aload_n rfl d_X8_sew_383 ?_
    refine x_getf co_all (v := .ref (b + 10)) d_X8_sew_384 fk_8_42 (o8_o H2_8) rfl ?_
    refine x_iload rfl d_X8_sew_387 ?_
    refine x_iload rfl d_X8_sew_389 ?_
    refine x_iload rfl d_X8_sew_391 ?_
    refine x_rdS d_X8_sew_393 lk_8_99 mo_X8_at sc_X8_at (sp_at) rfl ⟨Nat.le_of_ble_eq_true rfl, Nat.le_of_ble_eq_true rfl⟩ rfl rfl (Nat.zero_le _) (Nat.zero_le _) (Nat.le_of_ble_eq_true rfl) rfl ?_
    refine x_iload_n rfl d_X8_sew_396 ?_
    refine x_iload rfl d_X8_sew_397 ?_
    refine x_icmp_gtN (tgt := 412) d_X8_sew_399 (by decide) (by omega) (by omega) (fun c_4 => ?_) (fun c_4 => by exfalso; omega)
    refine x_iload rfl d_X8_sew_412 ?_
    refine x_if_neN (tgt := 421) d_X8_sew_414 (by decide) (by omega) (fun c_5 => ?_) (fun c_5 => ?_)
    · refine x_iconst (v := nI 0) (by decide) d_X8_sew_421 ?_
      refine x_iastore d_X8_sew_422 (o8_11 H2_8) (nIx_nI (j := 24 * (20 * n + a) + (x + j)) (by omega) (by decide)) (Nat.le_trans (o8_B H2_8) (Nat.le_add_right _ _)) ?_
      have H6_8 := o8_ast11 (24 * (20 * n + a) + (x + j)) (0) H2_8
      have f_7 := o8_f11 (24 * (20 * n + a) + (x + j)) (0) H2_8 (f_3) (by exact ⟨by omega, by omega⟩)
      refine x_iincN (m := 1) d_X8_sew_423 rfl (by decide) (Nat.le_of_ble_eq_true rfl) ?_
      refine x_iincN (m := 1) d_X8_sew_426 rfl (by decide) (Nat.le_of_ble_eq_true rfl) ?_
      refine x_goto (tgt := 361) d_X8_sew_429 (by decide) ?_
      have gk : G (x + j) = 0 := by rw [← hx, hG i j (by omega) (by omega)]; exact nB_F (by omega)
      refine nG.eq (ls2 := [some (.ref (b)), some (.int (nI (p))), some (.int (nI (q))), some (.int (nI (pl))), some (.int (nI (ql))), some (.int (nI (l))), some (.int (nI (m))), some (.int (nI (n))), some (.int (nI (a))), some (.int (nI (x + j + 1))), some (.int (nI (i))), some (.int (nI (tkn l m i))), some (.int (nI (j + 1)))]) rfl rfl rfl rfl rfl ?_
      exact ih (j + 1) (by omega) _ f_7 (o8_cg H6_8 (mSm_s (k := x + j) gk))
    · refine x_iconst (v := nI 1) (by decide) d_X8_sew_417 ?_
      refine x_goto (tgt := 422) d_X8_sew_418 (by decide) ?_
      refine x_iastore d_X8_sew_422 (o8_11 H2_8) (nIx_nI (j := 24 * (20 * n + a) + (x + j)) (by omega) (by decide)) (Nat.le_trans (o8_B H2_8) (Nat.le_add_right _ _)) ?_
      have H8_8 := o8_ast11 (24 * (20 * n + a) + (x + j)) (1) H2_8
      have f_9 := o8_f11 (24 * (20 * n + a) + (x + j)) (1) H2_8 (f_3) (by exact ⟨by omega, by omega⟩)
      refine x_iincN (m := 1) d_X8_sew_423 rfl (by decide) (Nat.le_of_ble_eq_true rfl) ?_
      refine x_iincN (m := 1) d_X8_sew_426 rfl (by decide) (Nat.le_of_ble_eq_true rfl) ?_
      refine x_goto (tgt := 361) d_X8_sew_429 (by decide) ?_
      have gk : G (x + j) = 1 := by rw [← hx, hG i j (by omega) (by omega)]; exact nB_T (by omega)
      refine nG.eq (ls2 := [some (.ref (b)), some (.int (nI (p))), some (.int (nI (q))), some (.int (nI (pl))), some (.int (nI (ql))), some (.int (nI (l))), some (.int (nI (m))), some (.int (nI (n))), some (.int (nI (a))), some (.int (nI (x + j + 1))), some (.int (nI (i))), some (.int (nI (tkn l m i))), some (.int (nI (j + 1)))]) rfl rfl rfl rfl rfl ?_
      exact ih (j + 1) (by omega) _ f_9 (o8_cg H8_8 (mSm_s (k := x + j) gk))
theorem lp_sw4B {h0 : nPH} {Post : Option Value → nPH → Prop} {b p q pl ql l m : Nat} {n a : Nat} {N : Nat → Nat → Nat} {G : Nat → Nat} (hn : n < 12) (ha : a < 20) (hpl : pl ≤ 24) (hql : ql ≤ 24) (hl : l ≤ 24) (h35 : ∀ i, i < l → N 35 i = tkn l m i) (hlq : l = ql) (hmp : m = pl) (hlt : ql < pl) (hl1 : 1 ≤ l) (hG : ∀ i j, i < ql → j < tkn l m i → G (i * m / l + j) = nB (j = 0)) (kk : ∀ h : nPH, nFr (nIv b 24) h0 h → o8 h b (mSm N (20 * n + a) pl G) → nG YX8_sew (nKy YX8_sew h0.1 h0.2.1 Post) 0 0 438 [some (.ref (b)), some (.int (nI (p))), some (.int (nI (q))), some (.int (nI (pl))), some (.int (nI (ql))), some (.int (nI (l))), some (.int (nI (m))), some (.int (nI (n))), some (.int (nI (a))), none, none, none, none] [] h) : ∀ d i : Nat, i + d = l → ∀ h : nPH, nFr (nIv b 24) h0 h → o8 h b (mSm N (20 * n + a) (i * m / l) G) → nG YX8_sew (nKy YX8_sew h0.1 h0.2.1 Post) 0 0 332 [some (.ref (b)), some (.int (nI (p))), some (.int (nI (q))), some (.int (nI (pl))), some (.int (nI (ql))), some (.int (nI (l))), some (.int (nI (m))), some (.int (nI (n))), some (.int (nI (a))), some (.int (nI (i * m / l))), some (.int (nI (i))), none, none] [] h := by
  intro d
  induction d with
  | zero =>
    intro i hi h F H
    refine x_iload rfl d_X8_sew_332 ?_
    refine x_iload rfl d_X8_sew_334 ?_
    refine x_icmp_geN (tgt := 438) d_X8_sew_336 (by decide) (by omega) (by omega) (fun c_1 => ?_) (fun c_1 => by exfalso; omega)
    have e : i * m / l = pl := by rw [show i = l by omega, hmp]; exact Nat.mul_div_cancel_left pl (by omega)
    rw [e] at H
    exact nG.sub (by exact (And.intro rfl (And.intro rfl (And.intro rfl (And.intro rfl (And.intro rfl (And.intro rfl (And.intro rfl (And.intro rfl (And.intro rfl True.intro)))))))))) (kk h F H)
  | succ d ih =>
    intro i hi h F H
    have e35 : (mSm N (20 * n + a) (i * m / l) G) 35 i = tkn l m i := (mSm_o (by decide) (by decide)).trans (h35 i (by omega))
    have hs : i * m / l + tkn l m i = (i + 1) * m / l := by
      have := dv_mono (n := l) (g := m) (show i ≤ i + 1 by omega)
      unfold tkn
      omega
    have hb : i * m / l + tkn l m i ≤ 24 := by
      rw [hs]
      have h1 : (i + 1) * m / l ≤ l * m / l := dv_mono (by omega)
      rw [Nat.mul_div_cancel_left m (by omega)] at h1
      omega
    refine x_iload rfl d_X8_sew_332 ?_
    refine x_iload rfl d_X8_sew_334 ?_
    refine x_icmp_geN (tgt := 438) d_X8_sew_336 (by decide) (by omega) (by omega) (fun c_1 => by exfalso; omega) (fun c_1 => ?_)
    refine x_iload_n rfl d_X8_sew_339 ?_
    refine x_iload rfl d_X8_sew_340 ?_
    refine x_icmp_gtN (tgt := 349) d_X8_sew_342 (by decide) (by omega) (by omega) (fun c_2 => ?_) (fun c_2 => by exfalso; omega)
    refine x_aload_n rfl d_X8_sew_349 ?_
    refine x_getf co_all (v := .ref (b + 22)) d_X8_sew_350 fk_8_78 (o8_o H) rfl ?_
    refine x_iload rfl d_X8_sew_353 ?_
    refine x_iaload d_X8_sew_355 (o8_35 H) (nIx_nI (j := i) (by omega) (by decide)) ?_
    rw [e35]
    refine x_istore d_X8_sew_356 (Nat.le_of_ble_eq_true rfl) ?_
    refine x_iconst (v := nI 0) (by decide) d_X8_sew_358 ?_
    refine x_istore d_X8_sew_359 (Nat.le_of_ble_eq_true rfl) ?_
    refine lp_sw5 hn ha hpl hql hl h35 hlq hmp hlt hG (by omega) hb ?_ (tkn l m i) 0 (Nat.zero_add _) h F H
    intro h F H
    refine x_iincN (m := 1) d_X8_sew_432 rfl (by decide) (Nat.le_of_ble_eq_true rfl) ?_
    refine x_goto (tgt := 332) d_X8_sew_435 (by decide) ?_
    rw [hs] at H
    refine nG.eq (ls2 := [some (.ref (b)), some (.int (nI (p))), some (.int (nI (q))), some (.int (nI (pl))), some (.int (nI (ql))), some (.int (nI (l))), some (.int (nI (m))), some (.int (nI (n))), some (.int (nI (a))), some (.int (nI (i * m / l + tkn l m i))), some (.int (nI (i + 1))), none, none]) rfl rfl rfl rfl rfl ?_
    rw [hs]
    exact nG.sub (by exact (And.intro rfl (And.intro rfl (And.intro rfl (And.intro rfl (And.intro rfl (And.intro rfl (And.intro rfl (And.intro rfl (And.intro rfl (And.intro rfl (And.intro rfl True.intro)))))))))))) (ih (i + 1) (by omega) h F H)
