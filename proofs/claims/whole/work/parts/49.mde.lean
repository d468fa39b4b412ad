/-! the model: cycle, edge, open, slips -/
theorem md_cycle0 {h : nPH} {b : Nat} {M V : Nat → Nat → Nat} {P : Nat → Nat → Nat → Nat} {R : Nat → Nat → Nat → Nat → Nat} {E Y T S : Nat → Nat → Nat} (H : o8 h b M) (W : rW M V P R E Y T S) (O : kO V P R) (ht : T 1 0 ≠ 0 → 1 ≤ T 0 0 ∧ T 1 0 ≤ T 0 0 ∧ T 0 0 ≤ 400 ∧ T 2 0 ≤ 1000) {c : Int32} (hn : T 1 0 = 0) : nRd YX8_cycle [.ref (b), .int (c)] h (.int (-1)) := by
  obtain ⟨t1, t2⟩ := W.2.2.2.2.1
  refine nSp_of (by decide +kernel) rfl (Nat.le_of_ble_eq_true rfl) (ls := [some (.ref (b)), some (.int (c))]) (by exact (And.intro rfl (And.intro rfl True.intro))) ?_
  refine x_aload_n rfl d_X8_cycle_0 ?_
  refine x_getf co_all (v := .int (nI (M 33 0))) d_X8_cycle_1 fk_8_203 (o8_o H) rfl ?_
  refine x_if_neN (tgt := 9) d_X8_cycle_4 (by decide) (by have := t1.mp hn; omega) (fun c_1 => by exfalso; exact c_1 (t1.mp hn)) (fun c_1 => ?_)
  refine x_iconst (v := -1) (by decide) d_X8_cycle_7 ?_
  exact x_ireturn d_X8_cycle_8 rfl rfl rfl rfl (Nat.zero_le _) (Nat.zero_le _) (⟨rfl, rfl⟩)
theorem md_cycle_0 {h : nPH} {b : Nat} {M V : Nat → Nat → Nat} {P : Nat → Nat → Nat → Nat} {R : Nat → Nat → Nat → Nat → Nat} {E Y T S : Nat → Nat → Nat} (H : o8 h b M) (W : rW M V P R E Y T S) (O : kO V P R) (ht : T 1 0 ≠ 0 → 1 ≤ T 0 0 ∧ T 1 0 ≤ T 0 0 ∧ T 0 0 ≤ 400 ∧ T 2 0 ≤ 1000) (hn : T 1 0 ≠ 0) : nRd YX8_cycle [.ref (b), .int (nI (0))] h (.int (nI (T 1 0))) := by
  obtain ⟨t1, t2⟩ := W.2.2.2.2.1
  obtain ⟨t3, t4, t5⟩ := t2 hn
  obtain ⟨t6, t7, t8, t9⟩ := ht hn
  refine nSp_of (by decide +kernel) rfl (Nat.le_of_ble_eq_true rfl) (ls := [some (.ref (b)), some (.int (nI (0)))]) (by exact (And.intro rfl (And.intro rfl True.intro))) ?_
  refine x_aload_n rfl d_X8_cycle_0 ?_
  refine x_getf co_all (v := .int (nI (M 33 0))) d_X8_cycle_1 fk_8_203 (o8_o H) rfl ?_
  refine x_if_neN (tgt := 9) d_X8_cycle_4 (by decide) (by omega) (fun c_1 => ?_) (fun c_1 => by exfalso; omega)
  refine x_iload_n rfl d_X8_cycle_9 ?_
  refine x_tableIn (off := 30) (tgt := 40) d_X8_cycle_10 (by decide) (by decide) (by decide) (by decide) ?_
  refine x_aload_n rfl d_X8_cycle_40 ?_
  refine x_getf co_all (v := .int (nI (M 31 0))) d_X8_cycle_41 fk_8_197 (o8_o H) rfl ?_
  exact x_ireturn d_X8_cycle_44 rfl rfl rfl rfl (Nat.zero_le _) (Nat.zero_le _) (⟨by rw [t3], rfl⟩)
theorem md_cycle_1 {h : nPH} {b : Nat} {M V : Nat → Nat → Nat} {P : Nat → Nat → Nat → Nat} {R : Nat → Nat → Nat → Nat → Nat} {E Y T S : Nat → Nat → Nat} (H : o8 h b M) (W : rW M V P R E Y T S) (O : kO V P R) (ht : T 1 0 ≠ 0 → 1 ≤ T 0 0 ∧ T 1 0 ≤ T 0 0 ∧ T 0 0 ≤ 400 ∧ T 2 0 ≤ 1000) (hn : T 1 0 ≠ 0) : nRd YX8_cycle [.ref (b), .int (nI (1))] h (.int (nI (T 2 0))) := by
  obtain ⟨t1, t2⟩ := W.2.2.2.2.1
  obtain ⟨t3, t4, t5⟩ := t2 hn
  obtain ⟨t6, t7, t8, t9⟩ := ht hn
  refine nSp_of (by decide +kernel) rfl (Nat.le_of_ble_eq_true rfl) (ls := [some (.ref (b)), some (.int (nI (1)))]) (by exact (And.intro rfl (And.intro rfl True.intro))) ?_
  refine x_aload_n rfl d_X8_cycle_0 ?_
  refine x_getf co_all (v := .int (nI (M 33 0))) d_X8_cycle_1 fk_8_203 (o8_o H) rfl ?_
  refine x_if_neN (tgt := 9) d_X8_cycle_4 (by decide) (by omega) (fun c_1 => ?_) (fun c_1 => by exfalso; omega)
  refine x_iload_n rfl d_X8_cycle_9 ?_
  refine x_tableIn (off := 35) (tgt := 45) d_X8_cycle_10 (by decide) (by decide) (by decide) (by decide) ?_
  refine x_aload_n rfl d_X8_cycle_45 ?_
  refine x_getf co_all (v := .int (nI (M 32 0))) d_X8_cycle_46 fk_8_200 (o8_o H) rfl ?_
  exact x_ireturn d_X8_cycle_49 rfl rfl rfl rfl (Nat.zero_le _) (Nat.zero_le _) (⟨by rw [t4], rfl⟩)
theorem md_cycle_2 {h : nPH} {b : Nat} {M V : Nat → Nat → Nat} {P : Nat → Nat → Nat → Nat} {R : Nat → Nat → Nat → Nat → Nat} {E Y T S : Nat → Nat → Nat} (H : o8 h b M) (W : rW M V P R E Y T S) (O : kO V P R) (ht : T 1 0 ≠ 0 → 1 ≤ T 0 0 ∧ T 1 0 ≤ T 0 0 ∧ T 0 0 ≤ 400 ∧ T 2 0 ≤ 1000) (hn : T 1 0 ≠ 0) : nRd YX8_cycle [.ref (b), .int (nI (2))] h (.int (nI (T 0 0 / T 1 0))) := by
  obtain ⟨t1, t2⟩ := W.2.2.2.2.1
  obtain ⟨t3, t4, t5⟩ := t2 hn
  obtain ⟨t6, t7, t8, t9⟩ := ht hn
  refine nSp_of (by decide +kernel) rfl (Nat.le_of_ble_eq_true rfl) (ls := [some (.ref (b)), some (.int (nI (2)))]) (by exact (And.intro rfl (And.intro rfl True.intro))) ?_
  refine x_aload_n rfl d_X8_cycle_0 ?_
  refine x_getf co_all (v := .int (nI (M 33 0))) d_X8_cycle_1 fk_8_203 (o8_o H) rfl ?_
  refine x_if_neN (tgt := 9) d_X8_cycle_4 (by decide) (by omega) (fun c_1 => ?_) (fun c_1 => by exfalso; omega)
  refine x_iload_n rfl d_X8_cycle_9 ?_
  refine x_tableIn (off := 40) (tgt := 50) d_X8_cycle_10 (by decide) (by decide) (by decide) (by decide) ?_
  refine x_aload_n rfl d_X8_cycle_50 ?_
  refine x_getf co_all (v := .int (nI (M 33 0))) d_X8_cycle_51 fk_8_203 (o8_o H) rfl ?_
  refine x_aload_n rfl d_X8_cycle_54 ?_
  refine x_getf co_all (v := .int (nI (M 31 0))) d_X8_cycle_55 fk_8_197 (o8_o H) rfl ?_
  refine x_idivN d_X8_cycle_58 (by omega) (by omega) (by omega) ?_
  exact x_ireturn d_X8_cycle_59 rfl rfl rfl rfl (Nat.zero_le _) (Nat.zero_le _) (⟨by rw [t5, t3], rfl⟩)
theorem md_cycle_3 {h : nPH} {b : Nat} {M V : Nat → Nat → Nat} {P : Nat → Nat → Nat → Nat} {R : Nat → Nat → Nat → Nat → Nat} {E Y T S : Nat → Nat → Nat} (H : o8 h b M) (W : rW M V P R E Y T S) (O : kO V P R) (ht : T 1 0 ≠ 0 → 1 ≤ T 0 0 ∧ T 1 0 ≤ T 0 0 ∧ T 0 0 ≤ 400 ∧ T 2 0 ≤ 1000) (hn : T 1 0 ≠ 0) : nRd YX8_cycle [.ref (b), .int (nI (3))] h (.int (nI (T 0 0 % T 1 0))) := by
  obtain ⟨t1, t2⟩ := W.2.2.2.2.1
  obtain ⟨t3, t4, t5⟩ := t2 hn
  obtain ⟨t6, t7, t8, t9⟩ := ht hn
  refine nSp_of (by decide +kernel) rfl (Nat.le_of_ble_eq_true rfl) (ls := [some (.ref (b)), some (.int (nI (3)))]) (by exact (And.intro rfl (And.intro rfl True.intro))) ?_
  refine x_aload_n rfl d_X8_cycle_0 ?_
  refine x_getf co_all (v := .int (nI (M 33 0))) d_X8_cycle_1 fk_8_203 (o8_o H) rfl ?_
  refine x_if_neN (tgt := 9) d_X8_cycle_4 (by decide) (by omega) (fun c_1 => ?_) (fun c_1 => by exfalso; omega)
  refine x_iload_n rfl d_X8_cycle_9 ?_
  refine x_tableIn (off := 50) (tgt := 60) d_X8_cycle_10 (by decide) (by decide) (by decide) (by decide) ?_
  refine x_aload_n rfl d_X8_cycle_60 ?_
  refine x_getf co_all (v := .int (nI (M 33 0))) d_X8_cycle_61 fk_8_203 (o8_o H) rfl ?_
  refine x_aload_n rfl d_X8_cycle_64 ?_
  refine x_getf co_all (v := .int (nI (M 31 0))) d_X8_cycle_65 fk_8_197 (o8_o H) rfl ?_
  refine x_iremN d_X8_cycle_68 (by omega) (by omega) (by omega) ?_
  exact x_ireturn d_X8_cycle_69 rfl rfl rfl rfl (Nat.zero_le _) (Nat.zero_le _) (⟨by rw [t5, t3], rfl⟩)
theorem md_cycle_n {h : nPH} {b : Nat} {M V : Nat → Nat → Nat} {P : Nat → Nat → Nat → Nat} {R : Nat → Nat → Nat → Nat → Nat} {E Y T S : Nat → Nat → Nat} (H : o8 h b M) (W : rW M V P R E Y T S) (O : kO V P R) (ht : T 1 0 ≠ 0 → 1 ≤ T 0 0 ∧ T 1 0 ≤ T 0 0 ∧ T 0 0 ≤ 400 ∧ T 2 0 ≤ 1000) {c : Int32} (hn : T 1 0 ≠ 0) (hq : c.toInt < 0 ∨ 3 < c.toInt) : nRd YX8_cycle [.ref (b), .int (c)] h (.int (-1)) := by
  obtain ⟨t1, t2⟩ := W.2.2.2.2.1
  obtain ⟨t3, t4, t5⟩ := t2 hn
  obtain ⟨t6, t7, t8, t9⟩ := ht hn
  refine nSp_of (by decide +kernel) rfl (Nat.le_of_ble_eq_true rfl) (ls := [some (.ref (b)), some (.int (c))]) (by exact (And.intro rfl (And.intro rfl True.intro))) ?_
  refine x_aload_n rfl d_X8_cycle_0 ?_
  refine x_getf co_all (v := .int (nI (M 33 0))) d_X8_cycle_1 fk_8_203 (o8_o H) rfl ?_
  refine x_if_neN (tgt := 9) d_X8_cycle_4 (by decide) (by omega) (fun c_1 => ?_) (fun c_1 => by exfalso; omega)
  refine x_iload_n rfl d_X8_cycle_9 ?_
  refine x_tableOut (tgt := 70) d_X8_cycle_10 hq (by decide) ?_
  refine x_iconst (v := -1) (by decide) d_X8_cycle_70 ?_
  exact x_ireturn d_X8_cycle_71 rfl rfl rfl rfl (Nat.zero_le _) (Nat.zero_le _) (⟨rfl, rfl⟩)
theorem md_edge0 {h : nPH} {b : Nat} {M V : Nat → Nat → Nat} {P : Nat → Nat → Nat → Nat} {R : Nat → Nat → Nat → Nat → Nat} {E Y T S : Nat → Nat → Nat} (H : o8 h b M) (W : rW M V P R E Y T S) (O : kO V P R) (he : E 0 0 ≤ 1 ∧ E 1 0 ≤ 480 ∧ E 3 0 ≤ 480) {i c : Int32} (hn : E 0 0 = 0) : nRd YX8_edge [.ref (b), .int (i), .int (c)] h (.int (-1)) := by
  have e1 := W.2.2.1.1
  refine nSp_of (by decide +kernel) rfl (Nat.le_of_ble_eq_true rfl) (ls := [some (.ref (b)), some (.int (i)), some (.int (c))]) (by exact (And.intro rfl (And.intro rfl (And.intro rfl True.intro)))) ?_
  refine x_aload_n rfl d_X8_edge_0 ?_
  refine x_getf co_all (v := .int (nI (M 22 0))) d_X8_edge_1 fk_8_162 (o8_o H) rfl ?_
  refine x_if_neN (tgt := 9) d_X8_edge_4 (by decide) (by omega) (fun c_1 => by exfalso; omega) (fun c_1 => ?_)
  refine x_iconst (v := -1) (by decide) d_X8_edge_7 ?_
  exact x_ireturn d_X8_edge_8 rfl rfl rfl rfl (Nat.zero_le _) (Nat.zero_le _) (⟨rfl, rfl⟩)
theorem md_edge_2 {h : nPH} {b : Nat} {M V : Nat → Nat → Nat} {P : Nat → Nat → Nat → Nat} {R : Nat → Nat → Nat → Nat → Nat} {E Y T S : Nat → Nat → Nat} (H : o8 h b M) (W : rW M V P R E Y T S) (O : kO V P R) (he : E 0 0 ≤ 1 ∧ E 1 0 ≤ 480 ∧ E 3 0 ≤ 480) {i : Int32} (hy : ¬ E 0 0 = 0) : nRd YX8_edge [.ref (b), .int (i), .int (nI (2))] h (.int (nI (E 2 0))) := by
  have e1 := W.2.2.1.1
  obtain ⟨e2, e3, e4, e5⟩ := W.2.2.1.2 (by omega)
  refine nSp_of (by decide +kernel) rfl (Nat.le_of_ble_eq_true rfl) (ls := [some (.ref (b)), some (.int (i)), some (.int (nI (2)))]) (by exact (And.intro rfl (And.intro rfl (And.intro rfl True.intro)))) ?_
  refine x_aload_n rfl d_X8_edge_0 ?_
  refine x_getf co_all (v := .int (nI (M 22 0))) d_X8_edge_1 fk_8_162 (o8_o H) rfl ?_
  refine x_if_neN (tgt := 9) d_X8_edge_4 (by decide) (by omega) (fun c_1 => ?_) (fun c_1 => by exfalso; omega)
  refine x_iload_n rfl d_X8_edge_9 ?_
  refine x_tableIn (off := 34) (tgt := 44) d_X8_edge_10 (by decide) (by decide) (by decide) (by decide) ?_
  refine x_aload_n rfl d_X8_edge_44 ?_
  refine x_getf co_all (v := .int (nI (M 24 0))) d_X8_edge_45 fk_8_169 (o8_o H) rfl ?_
  exact x_ireturn d_X8_edge_48 rfl rfl rfl rfl (Nat.zero_le _) (Nat.zero_le _) (⟨by rw [e3], rfl⟩)
theorem md_edge_3 {h : nPH} {b : Nat} {M V : Nat → Nat → Nat} {P : Nat → Nat → Nat → Nat} {R : Nat → Nat → Nat → Nat → Nat} {E Y T S : Nat → Nat → Nat} (H : o8 h b M) (W : rW M V P R E Y T S) (O : kO V P R) (he : E 0 0 ≤ 1 ∧ E 1 0 ≤ 480 ∧ E 3 0 ≤ 480) {i : Int32} (hy : ¬ E 0 0 = 0) : nRd YX8_edge [.ref (b), .int (i), .int (nI (3))] h (.int (nI (E 3 0))) := by
  have e1 := W.2.2.1.1
  obtain ⟨e2, e3, e4, e5⟩ := W.2.2.1.2 (by omega)
  refine nSp_of (by decide +kernel) rfl (Nat.le_of_ble_eq_true rfl) (ls := [some (.ref (b)), some (.int (i)), some (.int (nI (3)))]) (by exact (And.intro rfl (And.intro rfl (And.intro rfl True.intro)))) ?_
  refine x_aload_n rfl d_X8_edge_0 ?_
  refine x_getf co_all (v := .int (nI (M 22 0))) d_X8_edge_1 fk_8_162 (o8_o H) rfl ?_
  refine x_if_neN (tgt := 9) d_X8_edge_4 (by decide) (by omega) (fun c_1 => ?_) (fun c_1 => by exfalso; omega)
  refine x_iload_n rfl d_X8_edge_9 ?_
  refine x_tableIn (off := 39) (tgt := 49) d_X8_edge_10 (by decide) (by decide) (by decide) (by decide) ?_
  refine x_aload_n rfl d_X8_edge_49 ?_
  refine x_getf co_all (v := .int (nI (M 25 0))) d_X8_edge_50 fk_8_175 (o8_o H) rfl ?_
  exact x_ireturn d_X8_edge_53 rfl rfl rfl rfl (Nat.zero_le _) (Nat.zero_le _) (⟨by rw [e4], rfl⟩)
theorem md_edge_4 {h : nPH} {b : Nat} {M V : Nat → Nat → Nat} {P : Nat → Nat → Nat → Nat} {R : Nat → Nat → Nat → Nat → Nat} {E Y T S : Nat → Nat → Nat} (H : o8 h b M) (W : rW M V P R E Y T S) (O : kO V P R) (he : E 0 0 ≤ 1 ∧ E 1 0 ≤ 480 ∧ E 3 0 ≤ 480) {i : Int32} (hy : ¬ E 0 0 = 0) : nRd YX8_edge [.ref (b), .int (i), .int (nI (4))] h (.int (nI (twn (E 1 0) (E 3 0)))) := by
  have e1 := W.2.2.1.1
  obtain ⟨e2, e3, e4, e5⟩ := W.2.2.1.2 (by omega)
  refine nSp_of (by decide +kernel) rfl (Nat.le_of_ble_eq_true rfl) (ls := [some (.ref (b)), some (.int (i)), some (.int (nI (4)))]) (by exact (And.intro rfl (And.intro rfl (And.intro rfl True.intro)))) ?_
  refine x_aload_n rfl d_X8_edge_0 ?_
  refine x_getf co_all (v := .int (nI (M 22 0))) d_X8_edge_1 fk_8_162 (o8_o H) rfl ?_
  refine x_if_neN (tgt := 9) d_X8_edge_4 (by decide) (by omega) (fun c_1 => ?_) (fun c_1 => by exfalso; omega)
  refine x_iload_n rfl d_X8_edge_9 ?_
  refine x_tableIn (off := 44) (tgt := 54) d_X8_edge_10 (by decide) (by decide) (by decide) (by decide) ?_
  refine x_aload_n rfl d_X8_edge_54 ?_
  refine x_getf co_all (v := .int (nI (M 23 0))) d_X8_edge_55 fk_8_166 (o8_o H) rfl ?_
  refine x_aload_n rfl d_X8_edge_58 ?_
  refine x_getf co_all (v := .int (nI (M 25 0))) d_X8_edge_59 fk_8_175 (o8_o H) rfl ?_
  refine x_rdS d_X8_edge_62 lk_8_178 mo_X8_twines sc_X8_twines (sp_mtwn (s := M 23 0) (o := M 25 0) (by omega) (by omega)) rfl ⟨Nat.le_of_ble_eq_true rfl, Nat.le_of_ble_eq_true rfl⟩ rfl rfl (Nat.zero_le _) (Nat.zero_le _) (Nat.le_of_ble_eq_true rfl) rfl ?_
  exact x_ireturn d_X8_edge_65 rfl rfl rfl rfl (Nat.zero_le _) (Nat.zero_le _) (⟨by rw [e2, e4], rfl⟩)
theorem md_edge_n {h : nPH} {b : Nat} {M V : Nat → Nat → Nat} {P : Nat → Nat → Nat → Nat} {R : Nat → Nat → Nat → Nat → Nat} {E Y T S : Nat → Nat → Nat} (H : o8 h b M) (W : rW M V P R E Y T S) (O : kO V P R) (he : E 0 0 ≤ 1 ∧ E 1 0 ≤ 480 ∧ E 3 0 ≤ 480) {i c : Int32} (hq : c.toInt < 0 ∨ 4 < c.toInt) (hy : ¬ E 0 0 = 0) : nRd YX8_edge [.ref (b), .int (i), .int (c)] h (.int (-1)) := by
  have e1 := W.2.2.1.1
  obtain ⟨e2, e3, e4, e5⟩ := W.2.2.1.2 (by omega)
  refine nSp_of (by decide +kernel) rfl (Nat.le_of_ble_eq_true rfl) (ls := [some (.ref (b)), some (.int (i)), some (.int (c))]) (by exact (And.intro rfl (And.intro rfl (And.intro rfl True.intro)))) ?_
  refine x_aload_n rfl d_X8_edge_0 ?_
  refine x_getf co_all (v := .int (nI (M 22 0))) d_X8_edge_1 fk_8_162 (o8_o H) rfl ?_
  refine x_if_neN (tgt := 9) d_X8_edge_4 (by decide) (by omega) (fun c_1 => ?_) (fun c_1 => by exfalso; omega)
  refine x_iload_n rfl d_X8_edge_9 ?_
  refine x_tableOut (tgt := 120) d_X8_edge_10 hq (by decide) ?_
  refine x_iconst (v := -1) (by decide) d_X8_edge_120 ?_
  exact x_ireturn d_X8_edge_121 rfl rfl rfl rfl (Nat.zero_le _) (Nat.zero_le _) (⟨rfl, rfl⟩)
theorem md_edge_k {h : nPH} {b : Nat} {M V : Nat → Nat → Nat} {P : Nat → Nat → Nat → Nat} {R : Nat → Nat → Nat → Nat → Nat} {E Y T S : Nat → Nat → Nat} (H : o8 h b M) (W : rW M V P R E Y T S) (O : kO V P R) (he : E 0 0 ≤ 1 ∧ E 1 0 ≤ 480 ∧ E 3 0 ≤ 480) {j : Nat} (hj : j < E 1 0) (hy : ¬ E 0 0 = 0) : nRd YX8_edge [.ref (b), .int (nI (j)), .int (nI (0))] h (.int (nI (E 4 j))) := by
  have e1 := W.2.2.1.1
  obtain ⟨e2, e3, e4, e5⟩ := W.2.2.1.2 (by omega)
  refine nSp_of (by decide +kernel) rfl (Nat.le_of_ble_eq_true rfl) (ls := [some (.ref (b)), some (.int (nI (j))), some (.int (nI (0)))]) (by exact (And.intro rfl (And.intro rfl (And.intro rfl True.intro)))) ?_
  refine x_aload_n rfl d_X8_edge_0 ?_
  refine x_getf co_all (v := .int (nI (M 22 0))) d_X8_edge_1 fk_8_162 (o8_o H) rfl ?_
  refine x_if_neN (tgt := 9) d_X8_edge_4 (by decide) (by omega) (fun c_1 => ?_) (fun c_1 => by exfalso; omega)
  refine x_iload_n rfl d_X8_edge_9 ?_
  refine x_tableIn (off := 56) (tgt := 66) d_X8_edge_10 (by decide) (by decide) (by decide) (by decide) ?_
  refine x_iload_n rfl d_X8_edge_66 ?_
  refine x_if_ltN (tgt := 87) d_X8_edge_67 (by decide) (by omega) (fun c_2 => by exfalso; omega) (fun c_2 => ?_)
  refine x_iload_n rfl d_X8_edge_70 ?_
  refine x_aload_n rfl d_X8_edge_71 ?_
  refine x_getf co_all (v := .int (nI (M 23 0))) d_X8_edge_72 fk_8_166 (o8_o H) rfl ?_
  refine x_icmp_geN (tgt := 87) d_X8_edge_75 (by decide) (by omega) (by omega) (fun c_3 => by exfalso; omega) (fun c_3 => ?_)
  refine x_aload_n rfl d_X8_edge_78 ?_
  refine x_getf co_all (v := .ref (b + 18)) d_X8_edge_79 fk_8_66 (o8_o H) rfl ?_
  refine x_iload_n rfl d_X8_edge_82 ?_
  refine x_iaload d_X8_edge_83 (o8_26 H) (nIx_nI (j := j) (by omega) (by decide)) ?_
  refine x_goto (tgt := 88) d_X8_edge_84 (by decide) ?_
  exact x_ireturn d_X8_edge_88 rfl rfl rfl rfl (Nat.zero_le _) (Nat.zero_le _) (⟨by rw [(e5 j hj).1], rfl⟩)
theorem md_edge_kN {h : nPH} {b : Nat} {M V : Nat → Nat → Nat} {P : Nat → Nat → Nat → Nat} {R : Nat → Nat → Nat → Nat → Nat} {E Y T S : Nat → Nat → Nat} (H : o8 h b M) (W : rW M V P R E Y T S) (O : kO V P R) (he : E 0 0 ≤ 1 ∧ E 1 0 ≤ 480 ∧ E 3 0 ≤ 480) {i : Int32} (hj : ¬ nIn i (E 1 0)) (hy : ¬ E 0 0 = 0) : nRd YX8_edge [.ref (b), .int (i), .int (nI (0))] h (.int (-1)) := by
  have e1 := W.2.2.1.1
  obtain ⟨e2, e3, e4, e5⟩ := W.2.2.1.2 (by omega)
  refine nSp_of (by decide +kernel) rfl (Nat.le_of_ble_eq_true rfl) (ls := [some (.ref (b)), some (.int (i)), some (.int (nI (0)))]) (by exact (And.intro rfl (And.intro rfl (And.intro rfl True.intro)))) ?_
  refine x_aload_n rfl d_X8_edge_0 ?_
  refine x_getf co_all (v := .int (nI (M 22 0))) d_X8_edge_1 fk_8_162 (o8_o H) rfl ?_
  refine x_if_neN (tgt := 9) d_X8_edge_4 (by decide) (by omega) (fun c_1 => ?_) (fun c_1 => by exfalso; omega)
  refine x_iload_n rfl d_X8_edge_9 ?_
  refine x_tableIn (off := 56) (tgt := 66) d_X8_edge_10 (by decide) (by decide) (by decide) (by decide) ?_
  refine x_iload_n rfl d_X8_edge_66 ?_
  refine x_if_lt (tgt := 87) d_X8_edge_67 (by decide) (fun c_5 => ?_) (fun c_5 => ?_)
  · refine x_iconst (v := -1) (by decide) d_X8_edge_87 ?_
    exact x_ireturn d_X8_edge_88 rfl rfl rfl rfl (Nat.zero_le _) (Nat.zero_le _) (⟨rfl, rfl⟩)
  · refine x_iload_n rfl d_X8_edge_70 ?_
    refine x_aload_n rfl d_X8_edge_71 ?_
    refine x_getf co_all (v := .int (nI (M 23 0))) d_X8_edge_72 fk_8_166 (o8_o H) rfl ?_
    refine x_icmp_ge (tgt := 87) d_X8_edge_75 (by decide) (fun c_6 => ?_) (fun c_6 => by exfalso; exact hj (by rw [← e2]; exact nIn_g2 c_5 c_6 (by omega)))
    refine x_iconst (v := -1) (by decide) d_X8_edge_87 ?_
    exact x_ireturn d_X8_edge_88 rfl rfl rfl rfl (Nat.zero_le _) (Nat.zero_le _) (⟨rfl, rfl⟩)
theorem md_edge_o {h : nPH} {b : Nat} {M V : Nat → Nat → Nat} {P : Nat → Nat → Nat → Nat} {R : Nat → Nat → Nat → Nat → Nat} {E Y T S : Nat → Nat → Nat} (H : o8 h b M) (W : rW M V P R E Y T S) (O : kO V P R) (he : E 0 0 ≤ 1 ∧ E 1 0 ≤ 480 ∧ E 3 0 ≤ 480) {j : Nat} (hj : j < E 1 0) (h1 : E 5 j ≤ 1) (hy : ¬ E 0 0 = 0) : nRd YX8_edge [.ref (b), .int (nI (j)), .int (nI (1))] h (.int (nI (E 5 j))) := by
  have e1 := W.2.2.1.1
  obtain ⟨e2, e3, e4, e5⟩ := W.2.2.1.2 (by omega)
  refine nSp_of (by decide +kernel) rfl (Nat.le_of_ble_eq_true rfl) (ls := [some (.ref (b)), some (.int (nI (j))), some (.int (nI (1)))]) (by exact (And.intro rfl (And.intro rfl (And.intro rfl True.intro)))) ?_
  refine x_aload_n rfl d_X8_edge_0 ?_
  refine x_getf co_all (v := .int (nI (M 22 0))) d_X8_edge_1 fk_8_162 (o8_o H) rfl ?_
  refine x_if_neN (tgt := 9) d_X8_edge_4 (by decide) (by omega) (fun c_1 => ?_) (fun c_1 => by exfalso; omega)
  refine x_iload_n rfl d_X8_edge_9 ?_
  refine x_tableIn (off := 79) (tgt := 89) d_X8_edge_10 (by decide) (by decide) (by decide) (by decide) ?_
  refine x_iload_n rfl d_X8_edge_89 ?_
  refine x_if_ltN (tgt := 101) d_X8_edge_90 (by decide) (by omega) (fun c_2 => by exfalso; omega) (fun c_2 => ?_)
  refine x_iload_n rfl d_X8_edge_93 ?_
  refine x_aload_n rfl d_X8_edge_94 ?_
  refine x_getf co_all (v := .int (nI (M 23 0))) d_X8_edge_95 fk_8_166 (o8_o H) rfl ?_
  refine x_icmp_ltN (tgt := 105) d_X8_edge_98 (by decide) (by omega) (by omega) (fun c_3 => ?_) (fun c_3 => by exfalso; omega)
  refine x_aload_n rfl d_X8_edge_105 ?_
  refine x_getf co_all (v := .ref (b + 19)) d_X8_edge_106 fk_8_69 (o8_o H) rfl ?_
  refine x_iload_n rfl d_X8_edge_109 ?_
  refine x_baload d_X8_edge_110 (o8_27 H) (nIx_nI (j := j) (by omega) (by decide)) ?_
  refine x_if_eqN (tgt := 118) d_X8_edge_111 (by decide) (by have := (e5 j hj).2; omega) (fun c_9 => ?_) (fun c_9 => ?_)
  · refine x_iconst (v := nI 0) (by decide) d_X8_edge_118 ?_
    exact x_ireturn d_X8_edge_119 rfl rfl rfl rfl (Nat.zero_le _) (Nat.zero_le _) (⟨by rw [← (e5 j hj).2, c_9], rfl⟩)
  · refine x_iconst (v := nI 1) (by decide) d_X8_edge_114 ?_
    refine x_goto (tgt := 119) d_X8_edge_115 (by decide) ?_
    exact x_ireturn d_X8_edge_119 rfl rfl rfl rfl (Nat.zero_le _) (Nat.zero_le _) (⟨by rw [← (e5 j hj).2, show M 27 j = 1 by have := (e5 j hj).2; omega], rfl⟩)
theorem md_edge_oN {h : nPH} {b : Nat} {M V : Nat → Nat → Nat} {P : Nat → Nat → Nat → Nat} {R : Nat → Nat → Nat → Nat → Nat} {E Y T S : Nat → Nat → Nat} (H : o8 h b M) (W : rW M V P R E Y T S) (O : kO V P R) (he : E 0 0 ≤ 1 ∧ E 1 0 ≤ 480 ∧ E 3 0 ≤ 480) {i : Int32} (hj : ¬ nIn i (E 1 0)) (hy : ¬ E 0 0 = 0) : nRd YX8_edge [.ref (b), .int (i), .int (nI (1))] h (.int (-1)) := by
  have e1 := W.2.2.1.1
  obtain ⟨e2, e3, e4, e5⟩ := W.2.2.1.2 (by omega)
  refine nSp_of (by decide +kernel) rfl (Nat.le_of_ble_eq_true rfl) (ls := [some (.ref (b)), some (.int (i)), some (.int (nI (1)))]) (by exact (And.intro rfl (And.intro rfl (And.intro rfl True.intro)))) ?_
  refine x_aload_n rfl d_X8_edge_0 ?_
  refine x_getf co_all (v := .int (nI (M 22 0))) d_X8_edge_1 fk_8_162 (o8_o H) rfl ?_
  refine x_if_neN (tgt := 9) d_X8_edge_4 (by decide) (by omega) (fun c_1 => ?_) (fun c_1 => by exfalso; omega)
  refine x_iload_n rfl d_X8_edge_9 ?_
  refine x_tableIn (off := 79) (tgt := 89) d_X8_edge_10 (by decide) (by decide) (by decide) (by decide) ?_
  refine x_iload_n rfl d_X8_edge_89 ?_
  refine x_if_lt (tgt := 101) d_X8_edge_90 (by decide) (fun c_5 => ?_) (fun c_5 => ?_)
  · refine x_iconst (v := -1) (by decide) d_X8_edge_101 ?_
    refine x_goto (tgt := 119) d_X8_edge_102 (by decide) ?_
    exact x_ireturn d_X8_edge_119 rfl rfl rfl rfl (Nat.zero_le _) (Nat.zero_le _) (⟨rfl, rfl⟩)
  · refine x_iload_n rfl d_X8_edge_93 ?_
    refine x_aload_n rfl d_X8_edge_94 ?_
    refine x_getf co_all (v := .int (nI (M 23 0))) d_X8_edge_95 fk_8_166 (o8_o H) rfl ?_
    refine x_icmp_lt (tgt := 105) d_X8_edge_98 (by decide) (fun c_6 => by exfalso; exact hj (by rw [← e2]; exact nIn_g2 c_5 (Int32.not_le.mpr c_6) (by omega))) (fun c_6 => ?_)
    refine x_iconst (v := -1) (by decide) d_X8_edge_101 ?_
    refine x_goto (tgt := 119) d_X8_edge_102 (by decide) ?_
    exact x_ireturn d_X8_edge_119 rfl rfl rfl rfl (Nat.zero_le _) (Nat.zero_le _) (⟨rfl, rfl⟩)
theorem md_openP {h : nPH} {b : Nat} {M V : Nat → Nat → Nat} {P : Nat → Nat → Nat → Nat} {R : Nat → Nat → Nat → Nat → Nat} {E Y T S : Nat → Nat → Nat} (H : o8 h b M) (W : rW M V P R E Y T S) (O : kO V P R) {p : Int32} (hp : ¬ nIn p (V 1 0)) : nRd YX8_open [.ref (b), .int (p)] h (.int (-1)) := by
  refine nSp_of (by decide +kernel) rfl (Nat.le_of_ble_eq_true rfl) (ls := [some (.ref (b)), some (.int (p)), none]) (by exact (And.intro rfl (And.intro rfl True.intro))) ?_
  refine x_aload_n rfl d_X8_open_0 ?_
  refine x_iload_n rfl d_X8_open_1 ?_
  refine x_rdV d_X8_open_2 lk_8_91 mo_X8_isPanel vi_X8_isPanel (sp_isPanelN H (rW_n W O) (rW_x W hp)) (o8_o H) ⟨_, rfl, rfl⟩ rfl ⟨Nat.le_of_ble_eq_true rfl, Nat.le_of_ble_eq_true rfl⟩ rfl rfl (Nat.zero_le _) (Nat.zero_le _) (Nat.le_of_ble_eq_true rfl) rfl ?_
  refine x_if_neN (tgt := 10) d_X8_open_5 (by decide) (by omega) (fun c_1 => by exfalso; omega) (fun c_1 => ?_)
  refine x_iconst (v := -1) (by decide) d_X8_open_8 ?_
  exact x_ireturn d_X8_open_9 rfl rfl rfl rfl (Nat.zero_le _) (Nat.zero_le _) (⟨rfl, rfl⟩)
theorem md_open {h : nPH} {b : Nat} {M V : Nat → Nat → Nat} {P : Nat → Nat → Nat → Nat} {R : Nat → Nat → Nat → Nat → Nat} {E Y T S : Nat → Nat → Nat} (H : o8 h b M) (W : rW M V P R E Y T S) (O : kO V P R) {p : Nat} (hp : p < V 1 0) : nRd YX8_open [.ref (b), .int (nI (p))] h (.int (opI V (P p))) := by
  obtain ⟨p1, p2, p3, p4, p5, p6, p7, p8⟩ := rW_p W O hp
  obtain ⟨-, -, -, -, -, ⟨⟨g1, g2⟩, ⟨g3, g4⟩, g5, g6, g7⟩, -⟩ := p7
  obtain ⟨-, b3, b4, b5, b6, -⟩ := (W.2.1 p hp).1
  have hdv : 100 * P p 2 0 / P p 3 0 ≤ 100 := (Nat.div_le_iff_le_mul_add_pred (by omega)).mpr (by have := Nat.mul_le_mul_right 100 g6; omega)
  have v1 := W.1.2.1
  have v2 := O.2.1
  have v3 := W.1.2.2 (100 * P p 2 0 / P p 3 0) (by omega)
  refine nSp_of (by decide +kernel) rfl (Nat.le_of_ble_eq_true rfl) (ls := [some (.ref (b)), some (.int (nI (p))), none]) (by exact (And.intro rfl (And.intro rfl True.intro))) ?_
  refine x_aload_n rfl d_X8_open_0 ?_
  refine x_iload_n rfl d_X8_open_1 ?_
  refine x_rdV d_X8_open_2 lk_8_91 mo_X8_isPanel vi_X8_isPanel (sp_isPanel H p2 p1) (o8_o H) ⟨_, rfl, rfl⟩ rfl ⟨Nat.le_of_ble_eq_true rfl, Nat.le_of_ble_eq_true rfl⟩ rfl rfl (Nat.zero_le _) (Nat.zero_le _) (Nat.le_of_ble_eq_true rfl) rfl ?_
  refine x_if_neN (tgt := 10) d_X8_open_5 (by decide) (by omega) (fun c_1 => ?_) (fun c_1 => by exfalso; omega)
  refine x_bipush (v := nI 100) (by decide) d_X8_open_10 ?_
  refine x_aload_n rfl d_X8_open_12 ?_
  refine x_getf co_all (v := .ref (b + 4)) d_X8_open_13 fk_8_23 (o8_o H) rfl ?_
  refine x_iload_n rfl d_X8_open_16 ?_
  refine x_iaload d_X8_open_17 (o8_5 H) (nIx_nI (j := p) (by omega) (by decide)) ?_
  refine x_imulN d_X8_open_18 ?_
  refine x_aload_n rfl d_X8_open_19 ?_
  refine x_getf co_all (v := .ref (b + 5)) d_X8_open_20 fk_8_26 (o8_o H) rfl ?_
  refine x_iload_n rfl d_X8_open_23 ?_
  refine x_iaload d_X8_open_24 (o8_6 H) (nIx_nI (j := p) (by omega) (by decide)) ?_
  refine x_idivN d_X8_open_25 (by omega) (by omega) (by omega) ?_
  rw [b5, b6]
  refine x_istore_n d_X8_open_26 (Nat.le_of_ble_eq_true rfl) ?_
  refine x_iload_n rfl d_X8_open_27 ?_
  refine x_aload_n rfl d_X8_open_28 ?_
  refine x_getf co_all (v := .int (nV (M 16 0))) d_X8_open_29 fk_8_85 (o8_o H) rfl ?_
  rw [v1]
  refine x_icmp_ge (tgt := 44) d_X8_open_32 (by decide) (fun c_4 => ?_) (fun c_4 => ?_)
  · refine x_bipush (v := -2) (by decide) d_X8_open_44 ?_
    exact x_ireturn d_X8_open_46 rfl rfl rfl rfl (Nat.zero_le _) (Nat.zero_le _) (⟨by unfold opI; rw [if_neg (by have := (le_V (by omega) (by omega)).mp c_4; omega)], rfl⟩)
  · refine x_aload_n rfl d_X8_open_35 ?_
    refine x_getf co_all (v := .ref (b + 15)) d_X8_open_36 fk_8_57 (o8_o H) rfl ?_
    refine x_iload_n rfl d_X8_open_39 ?_
    refine x_iaload d_X8_open_40 (o8_17 H) (nIx_nI (j := 100 * P p 2 0 / P p 3 0) (by omega) (by decide)) ?_
    refine x_goto (tgt := 46) d_X8_open_41 (by decide) ?_
    exact x_ireturn d_X8_open_46 rfl rfl rfl rfl (Nat.zero_le _) (Nat.zero_le _) (⟨by unfold opI; rw [if_pos (by have := mt (le_V (by omega) (by omega)).mpr c_4; omega), v3], rfl⟩)
theorem md_slipsP {h : nPH} {b : Nat} {M V : Nat → Nat → Nat} {P : Nat → Nat → Nat → Nat} {R : Nat → Nat → Nat → Nat → Nat} {E Y T S : Nat → Nat → Nat} (H : o8 h b M) (W : rW M V P R E Y T S) (O : kO V P R) {p : Int32} (hp : ¬ nIn p (V 1 0)) {g : Int32} : nRd YX8_slips [.ref (b), .int (p), .int (g)] h (.int (-1)) := by
  refine nSp_of (by decide +kernel) rfl (Nat.le_of_ble_eq_true rfl) (ls := [some (.ref (b)), some (.int (p)), some (.int (g)), none]) (by exact (And.intro rfl (And.intro rfl (And.intro rfl True.intro)))) ?_
  refine x_aload_n rfl d_X8_slips_0 ?_
  refine x_iload_n rfl d_X8_slips_1 ?_
  refine x_rdV d_X8_slips_2 lk_8_91 mo_X8_isPanel vi_X8_isPanel (sp_isPanelN H (rW_n W O) (rW_x W hp)) (o8_o H) ⟨_, rfl, rfl⟩ rfl ⟨Nat.le_of_ble_eq_true rfl, Nat.le_of_ble_eq_true rfl⟩ rfl rfl (Nat.zero_le _) (Nat.zero_le _) (Nat.le_of_ble_eq_true rfl) rfl ?_
  refine x_if_eqN (tgt := 18) d_X8_slips_5 (by decide) (by omega) (fun c_1 => ?_) (fun c_1 => by exfalso; omega)
  refine x_iconst (v := -1) (by decide) d_X8_slips_18 ?_
  exact x_ireturn d_X8_slips_19 rfl rfl rfl rfl (Nat.zero_le _) (Nat.zero_le _) (⟨rfl, rfl⟩)
theorem md_slipsG {h : nPH} {b : Nat} {M V : Nat → Nat → Nat} {P : Nat → Nat → Nat → Nat} {R : Nat → Nat → Nat → Nat → Nat} {E Y T S : Nat → Nat → Nat} (H : o8 h b M) (W : rW M V P R E Y T S) (O : kO V P R) {p : Nat} (hp : p < V 1 0) {g : Int32} (hg : ¬ (nI 0 ≤ g ∧ g ≤ nI 1000000)) : nRd YX8_slips [.ref (b), .int (nI (p)), .int (g)] h (.int (-1)) := by
  obtain ⟨p1, p2, p3, p4, p5, p6, p7, p8⟩ := rW_p W O hp
  refine nSp_of (by decide +kernel) rfl (Nat.le_of_ble_eq_true rfl) (ls := [some (.ref (b)), some (.int (nI (p))), some (.int (g)), none]) (by exact (And.intro rfl (And.intro rfl (And.intro rfl True.intro)))) ?_
  refine x_aload_n rfl d_X8_slips_0 ?_
  refine x_iload_n rfl d_X8_slips_1 ?_
  refine x_rdV d_X8_slips_2 lk_8_91 mo_X8_isPanel vi_X8_isPanel (sp_isPanel H p2 p1) (o8_o H) ⟨_, rfl, rfl⟩ rfl ⟨Nat.le_of_ble_eq_true rfl, Nat.le_of_ble_eq_true rfl⟩ rfl rfl (Nat.zero_le _) (Nat.zero_le _) (Nat.le_of_ble_eq_true rfl) rfl ?_
  refine x_if_eqN (tgt := 18) d_X8_slips_5 (by decide) (by omega) (fun c_1 => by exfalso; omega) (fun c_1 => ?_)
  refine x_iload_n rfl d_X8_slips_8 ?_
  refine x_if_lt (tgt := 18) d_X8_slips_9 (by decide) (fun c_2 => ?_) (fun c_2 => ?_)
  · refine x_iconst (v := -1) (by decide) d_X8_slips_18 ?_
    exact x_ireturn d_X8_slips_19 rfl rfl rfl rfl (Nat.zero_le _) (Nat.zero_le _) (⟨rfl, rfl⟩)
  · refine x_iload_n rfl d_X8_slips_12 ?_
    refine x_ldc (v := nI 1000000) d_X8_slips_13 ct_8_103 ?_
    refine x_icmp_le (tgt := 20) d_X8_slips_15 (by decide) (fun c_3 => by exfalso; exact hg ⟨Int32.not_lt.mp c_2, c_3⟩) (fun c_3 => ?_)
    refine x_iconst (v := -1) (by decide) d_X8_slips_18 ?_
    exact x_ireturn d_X8_slips_19 rfl rfl rfl rfl (Nat.zero_le _) (Nat.zero_le _) (⟨rfl, rfl⟩)
theorem md_slips0 {h : nPH} {b : Nat} {M V : Nat → Nat → Nat} {P : Nat → Nat → Nat → Nat} {R : Nat → Nat → Nat → Nat → Nat} {E Y T S : Nat → Nat → Nat} (H : o8 h b M) (W : rW M V P R E Y T S) (O : kO V P R) {p : Nat} (hp : p < V 1 0) {g : Nat} (hg : g ≤ 1000000) (hno : ¬ 100 * P p 2 0 / P p 3 0 + 1 < V 3 0) : nRd YX8_slips [.ref (b), .int (nI (p)), .int (nI (g))] h (.int (-2)) := by
  obtain ⟨p1, p2, p3, p4, p5, p6, p7, p8⟩ := rW_p W O hp
  have ho : opI V (P p) = -2 := if_neg hno
  refine nSp_of (by decide +kernel) rfl (Nat.le_of_ble_eq_true rfl) (ls := [some (.ref (b)), some (.int (nI (p))), some (.int (nI (g))), none]) (by exact (And.intro rfl (And.intro rfl (And.intro rfl True.intro)))) ?_
  refine x_aload_n rfl d_X8_slips_0 ?_
  refine x_iload_n rfl d_X8_slips_1 ?_
  refine x_rdV d_X8_slips_2 lk_8_91 mo_X8_isPanel vi_X8_isPanel (sp_isPanel H p2 p1) (o8_o H) ⟨_, rfl, rfl⟩ rfl ⟨Nat.le_of_ble_eq_true rfl, Nat.le_of_ble_eq_true rfl⟩ rfl rfl (Nat.zero_le _) (Nat.zero_le _) (Nat.le_of_ble_eq_true rfl) rfl ?_
  refine x_if_eqN (tgt := 18) d_X8_slips_5 (by decide) (by omega) (fun c_1 => by exfalso; omega) (fun c_1 => ?_)
  refine x_iload_n rfl d_X8_slips_8 ?_
  refine x_if_ltN (tgt := 18) d_X8_slips_9 (by decide) (by omega) (fun c_2 => by exfalso; omega) (fun c_2 => ?_)
  refine x_iload_n rfl d_X8_slips_12 ?_
  refine x_ldc (v := nI 1000000) d_X8_slips_13 ct_8_103 ?_
  refine x_icmp_leN (tgt := 20) d_X8_slips_15 (by decide) (by omega) (by omega) (fun c_3 => ?_) (fun c_3 => by exfalso; omega)
  refine x_aload_n rfl d_X8_slips_20 ?_
  refine x_iload_n rfl d_X8_slips_21 ?_
  refine x_rdV d_X8_slips_22 lk_8_213 mo_X8_open vi_X8_open (md_open H W O hp) (o8_o H) ⟨_, rfl, rfl⟩ rfl ⟨Nat.le_of_ble_eq_true rfl, Nat.le_of_ble_eq_true rfl⟩ rfl rfl (Nat.zero_le _) (Nat.zero_le _) (Nat.le_of_ble_eq_true rfl) rfl ?_
  rw [ho]
  refine x_istore_n d_X8_slips_25 (Nat.le_of_ble_eq_true rfl) ?_
  refine x_iload_n rfl d_X8_slips_26 ?_
  refine x_if_ge (tgt := 32) d_X8_slips_27 (by decide) (fun c_4 => by exfalso; exact absurd c_4 (by decide)) (fun c_4 => ?_)
  refine x_iload_n rfl d_X8_slips_30 ?_
  exact x_ireturn d_X8_slips_31 rfl rfl rfl rfl (Nat.zero_le _) (Nat.zero_le _) (⟨rfl, rfl⟩)
theorem md_slips {h : nPH} {b : Nat} {M V : Nat → Nat → Nat} {P : Nat → Nat → Nat → Nat} {R : Nat → Nat → Nat → Nat → Nat} {E Y T S : Nat → Nat → Nat} (H : o8 h b M) (W : rW M V P R E Y T S) (O : kO V P R) {p : Nat} (hp : p < V 1 0) {g : Nat} (hg : g ≤ 1000000) (hyes : 100 * P p 2 0 / P p 3 0 + 1 < V 3 0) : nRd YX8_slips [.ref (b), .int (nI (p)), .int (nI (g))] h (.int (nI (nB (100 * g < 4 * P p 0 0 * V 2 (100 * P p 2 0 / P p 3 0))))) := by
  obtain ⟨p1, p2, p3, p4, p5, p6, p7, p8⟩ := rW_p W O hp
  obtain ⟨-, -, -, -, -, ⟨⟨g1, g2⟩, ⟨g3, g4⟩, g5, g6, g7⟩, -⟩ := p7
  obtain ⟨-, b3, b4, b5, b6, -⟩ := (W.2.1 p hp).1
  have hdv : 100 * P p 2 0 / P p 3 0 ≤ 100 := (Nat.div_le_iff_le_mul_add_pred (by omega)).mpr (by have := Nat.mul_le_mul_right 100 g6; omega)
  have v1 := W.1.2.1
  have v2 := O.2.1
  have v3 := W.1.2.2 (100 * P p 2 0 / P p 3 0) (by omega)
  have ho : opI V (P p) = nI (V 2 (100 * P p 2 0 / P p 3 0)) := if_pos hyes
  have v4 := O.2.2.1 (100 * P p 2 0 / P p 3 0) (by omega)
  have hm2 : 4 * P p 0 0 * V 2 (100 * P p 2 0 / P p 3 0) ≤ 4000 * 100 := Nat.mul_le_mul (by omega) v4
  refine nSp_of (by decide +kernel) rfl (Nat.le_of_ble_eq_true rfl) (ls := [some (.ref (b)), some (.int (nI (p))), some (.int (nI (g))), none]) (by exact (And.intro rfl (And.intro rfl (And.intro rfl True.intro)))) ?_
  refine x_aload_n rfl d_X8_slips_0 ?_
  refine x_iload_n rfl d_X8_slips_1 ?_
  refine x_rdV d_X8_slips_2 lk_8_91 mo_X8_isPanel vi_X8_isPanel (sp_isPanel H p2 p1) (o8_o H) ⟨_, rfl, rfl⟩ rfl ⟨Nat.le_of_ble_eq_true rfl, Nat.le_of_ble_eq_true rfl⟩ rfl rfl (Nat.zero_le _) (Nat.zero_le _) (Nat.le_of_ble_eq_true rfl) rfl ?_
  refine x_if_eqN (tgt := 18) d_X8_slips_5 (by decide) (by omega) (fun c_1 => by exfalso; omega) (fun c_1 => ?_)
  refine x_iload_n rfl d_X8_slips_8 ?_
  refine x_if_ltN (tgt := 18) d_X8_slips_9 (by decide) (by omega) (fun c_2 => by exfalso; omega) (fun c_2 => ?_)
  refine x_iload_n rfl d_X8_slips_12 ?_
  refine x_ldc (v := nI 1000000) d_X8_slips_13 ct_8_103 ?_
  refine x_icmp_leN (tgt := 20) d_X8_slips_15 (by decide) (by omega) (by omega) (fun c_3 => ?_) (fun c_3 => by exfalso; omega)
  refine x_aload_n rfl d_X8_slips_20 ?_
  refine x_iload_n rfl d_X8_slips_21 ?_
  refine x_rdV d_X8_slips_22 lk_8_213 mo_X8_open vi_X8_open (md_open H W O hp) (o8_o H) ⟨_, rfl, rfl⟩ rfl ⟨Nat.le_of_ble_eq_true rfl, Nat.le_of_ble_eq_true rfl⟩ rfl rfl (Nat.zero_le _) (Nat.zero_le _) (Nat.le_of_ble_eq_true rfl) rfl ?_
  rw [ho]
  refine x_istore_n d_X8_slips_25 (Nat.le_of_ble_eq_true rfl) ?_
  refine x_iload_n rfl d_X8_slips_26 ?_
  refine x_if_geN (tgt := 32) d_X8_slips_27 (by decide) (by omega) (fun c_4 => ?_) (fun c_4 => by exfalso; omega)
  refine x_bipush (v := nI 100) (by decide) d_X8_slips_32 ?_
  refine x_iload_n rfl d_X8_slips_34 ?_
  refine x_imulN d_X8_slips_35 ?_
  refine x_iconst (v := nI 4) (by decide) d_X8_slips_36 ?_
  refine x_aload_n rfl d_X8_slips_37 ?_
  refine x_getf co_all (v := .ref (b + 2)) d_X8_slips_38 fk_8_17 (o8_o H) rfl ?_
  refine x_iload_n rfl d_X8_slips_41 ?_
  refine x_iaload d_X8_slips_42 (o8_3 H) (nIx_nI (j := p) (by omega) (by decide)) ?_
  refine x_imulN d_X8_slips_43 ?_
  refine x_iload_n rfl d_X8_slips_44 ?_
  refine x_imulN d_X8_slips_45 ?_
  refine x_icmp_geN (tgt := 53) d_X8_slips_46 (by decide) (by first | omega | (rw [b3]; omega)) (by first | omega | (rw [b3]; omega)) (fun c_7 => ?_) (fun c_7 => ?_)
  · refine x_iconst (v := nI 0) (by decide) d_X8_slips_53 ?_
    exact x_ireturn d_X8_slips_54 rfl rfl rfl rfl (Nat.zero_le _) (Nat.zero_le _) (⟨by rw [← b3, nB_F (Nat.not_lt_of_le c_7)], rfl⟩)
  · refine x_iconst (v := nI 1) (by decide) d_X8_slips_49 ?_
    refine x_goto (tgt := 54) d_X8_slips_50 (by decide) ?_
    exact x_ireturn d_X8_slips_54 rfl rfl rfl rfl (Nat.zero_le _) (Nat.zero_le _) (⟨by rw [← b3, nB_T (Nat.lt_of_not_le c_7)], rfl⟩)
