/-! the model: its knots -/
def mF (f : Nat) : Nat := if f = 1 then 10 else if f = 2 then 11 else if f = 3 then 15 else if f = 5 then 13 else 14
/-- a row of the model, as the class has it -/
def mR (M : Nat → Nat → Nat) (p r : Nat) : Nat → Nat → Nat := fun f k => if f = 0 then M 8 (20 * p + r) else if f = 4 then M 12 (24 * (20 * p + r) + k) - 1 else M (mF f) (24 * (20 * p + r) + k)
theorem mR_0 (M : Nat → Nat → Nat) (p r k : Nat) : mR M p r 0 k = M 8 (20 * p + r) := rfl
theorem mR_1 (M : Nat → Nat → Nat) (p r k : Nat) : mR M p r 1 k = M 10 (24 * (20 * p + r) + k) := rfl
theorem mR_2 (M : Nat → Nat → Nat) (p r k : Nat) : mR M p r 2 k = M 11 (24 * (20 * p + r) + k) := rfl
theorem mR_3 (M : Nat → Nat → Nat) (p r k : Nat) : mR M p r 3 k = M 15 (24 * (20 * p + r) + k) := rfl
theorem mR_4 (M : Nat → Nat → Nat) (p r k : Nat) : mR M p r 4 k = M 12 (24 * (20 * p + r) + k) - 1 := rfl
theorem mR_5 (M : Nat → Nat → Nat) (p r k : Nat) : mR M p r 5 k = M 13 (24 * (20 * p + r) + k) := rfl
theorem mR_6 (M : Nat → Nat → Nat) (p r k : Nat) : mR M p r 6 k = M 14 (24 * (20 * p + r) + k) := rfl
def mK (M : Nat → Nat → Nat) (x : Nat) : Prop := M 12 x ≤ 24 ∧ M 13 x ≤ 24 ∧ M 14 x < 2 ^ 24 ∧ (M 12 x = 0 → M 13 x = 0) ∧ M 15 x ≤ 1
def hw (D : Nat → Nat → Nat) (c k q : Nat) : Nat := if c = 2 then nb (hgb D k q) else if c = 1 then nb (igo D k q) else nb (iwh D k q)
theorem hw_le (D : Nat → Nat → Nat) (c k q : Nat) : hw D c k q ≤ 1 := by
  unfold hw
  split
  · exact nb_le _
  · split <;> exact nb_le _
theorem mh_0 {D : Nat → Nat → Nat} {k q : Nat} (c : Nat) (h : ¬ (D 4 k ≤ q ∧ q < D 4 k + D 5 k)) : hw D c k q = 0 := by
  have e := hgb_F.mpr h
  unfold hw igo iwh
  rw [e]
  split
  · rfl
  · split <;> rfl
theorem mh_2 {D : Nat → Nat → Nat} {k q : Nat} (h : D 4 k ≤ q ∧ q < D 4 k + D 5 k) : hw D 2 k q = 1 := by
  unfold hw
  rw [if_pos rfl, hgb_T.mpr h]
  rfl
theorem mh_1 {D : Nat → Nat → Nat} {k q : Nat} (h : D 4 k ≤ q ∧ q < D 4 k + D 5 k) : hw D 1 k q = nB ((D 6 k).testBit (q - D 4 k) = true) := by
  unfold hw igo
  rw [if_neg (by decide), if_pos rfl, hgb_T.mpr h, Bool.true_and, nB_b]
theorem mh_w {D : Nat → Nat → Nat} {k q : Nat} (h : D 4 k ≤ q ∧ q < D 4 k + D 5 k) : hw D 0 k q + nB ((D 6 k).testBit (q - D 4 k) = true) = 1 := by
  unfold hw iwh
  rw [if_neg (by decide), if_neg (by decide), hgb_T.mpr h, Bool.true_and, nB_b]
  cases (D 6 k).testBit (q - D 4 k) <;> rfl
theorem sp_mhg0 {h : nPH} {b : Nat} {M : Nat → Nat → Nat} (H : o8 h b M) {p r j k : Nat} (hp : p < 12) (hr : r < 20) (hj : j < 24) (hk : k < 2 ^ 30) (K : mK M (24 * (20 * p + r) + j)) : nRd YX8_hangsIn [.ref b, .int (nI (24 * (20 * p + r) + j)), .int (nI k), .int (nI 0)] h (.int (nI (hw (mR M p r) 0 j k))) := by
  obtain ⟨k1, k2, k3, k4, -⟩ := K
  have d4 := mR_4 M p r j
  have d5 := mR_5 M p r j
  have d6 := mR_6 M p r j
  generalize hi : 24 * (20 * p + r) + j = i at *
  have hi2 : i < 5760 := by omega
  rcases Nat.eq_zero_or_pos (M 12 i) with z | z
  · refine nSp_of (by decide +kernel) rfl (Nat.le_of_ble_eq_true rfl) (ls := [some (.ref (b)), some (.int (nI (i))), some (.int (nI (k))), some (.int (nI (0)))]) (by exact (And.intro rfl (And.intro rfl (And.intro rfl (And.intro rfl True.intro))))) ?_
    refine x_aload_n rfl d_X8_hangsIn_0 ?_
    refine x_getf co_all (v := .ref (b + 11)) d_X8_hangsIn_1 fk_8_45 (o8_o H) rfl ?_
    refine x_iload_n rfl d_X8_hangsIn_4 ?_
    refine x_iaload d_X8_hangsIn_5 (o8_12 H) (nIx_nI (j := i) (by omega) (by decide)) ?_
    show nG _ _ _ _ _ _ (.int (nV (M 12 i)) :: _) _
    rw [z, nV_0]
    refine x_iconst (v := -1) (by decide) d_X8_hangsIn_6 ?_
    refine x_icmp_eq (tgt := 37) d_X8_hangsIn_7 (by decide) (fun c_1 => ?_) (fun c_1 => by exfalso; exact c_1 rfl)
    refine x_iconst (v := nI 0) (by decide) d_X8_hangsIn_37 ?_
    exact x_ireturn d_X8_hangsIn_38 rfl (by first | rfl | exact nB_nar _ | exact nB_nar1 (by omega)) rfl rfl (Nat.zero_le _) (Nat.zero_le _) (⟨congrArg (fun n => some (Value.int (nI n))) (mh_0 0 (by have := k4 z; omega)).symm, rfl⟩)
  · obtain ⟨f, hf⟩ : ∃ f, M 12 i = f + 1 := ⟨M 12 i - 1, by omega⟩
    have d4 : mR M p r 4 j = f := by rw [d4, hf]; rfl
    refine nSp_of (by decide +kernel) rfl (Nat.le_of_ble_eq_true rfl) (ls := [some (.ref (b)), some (.int (nI (i))), some (.int (nI (k))), some (.int (nI (0)))]) (by exact (And.intro rfl (And.intro rfl (And.intro rfl (And.intro rfl True.intro))))) ?_
    refine x_aload_n rfl d_X8_hangsIn_0 ?_
    refine x_getf co_all (v := .ref (b + 11)) d_X8_hangsIn_1 fk_8_45 (o8_o H) rfl ?_
    refine x_iload_n rfl d_X8_hangsIn_4 ?_
    refine x_iaload d_X8_hangsIn_5 (o8_12 H) (nIx_nI (j := i) (by omega) (by decide)) ?_
    show nG _ _ _ _ _ _ (.int (nV (M 12 i)) :: _) _
    rw [hf, nV_s]
    refine x_iconst (v := -1) (by decide) d_X8_hangsIn_6 ?_
    refine x_icmp_eq (tgt := 37) d_X8_hangsIn_7 (by decide) (fun c_1 => by exfalso; exact nI_ne1 (by omega) c_1) (fun c_1 => ?_)
    refine x_iload_n rfl d_X8_hangsIn_10 ?_
    refine x_aload_n rfl d_X8_hangsIn_11 ?_
    refine x_getf co_all (v := .ref (b + 11)) d_X8_hangsIn_12 fk_8_45 (o8_o H) rfl ?_
    refine x_iload_n rfl d_X8_hangsIn_15 ?_
    refine x_iaload d_X8_hangsIn_16 (o8_12 H) (nIx_nI (j := i) (by omega) (by decide)) ?_
    show nG _ _ _ _ _ _ (.int (nV (M 12 i)) :: _) _
    rw [hf, nV_s]
    refine x_icmp_ltN (tgt := 37) d_X8_hangsIn_17 (by decide) (by omega) (by omega) (fun c_2 => ?_) (fun c_2 => ?_)
    · refine x_iconst (v := nI 0) (by decide) d_X8_hangsIn_37 ?_
      exact x_ireturn d_X8_hangsIn_38 rfl (by first | rfl | exact nB_nar _ | exact nB_nar1 (by omega)) rfl rfl (Nat.zero_le _) (Nat.zero_le _) (⟨congrArg (fun n => some (Value.int (nI n))) (by first | exact (mh_0 0 (by omega)).symm | (have e := mh_w (D := mR M p r) (k := j) (q := k) (by omega); rw [d4, d6] at e; omega)), rfl⟩)
    · refine x_iload_n rfl d_X8_hangsIn_20 ?_
      refine x_aload_n rfl d_X8_hangsIn_21 ?_
      refine x_getf co_all (v := .ref (b + 11)) d_X8_hangsIn_22 fk_8_45 (o8_o H) rfl ?_
      refine x_iload_n rfl d_X8_hangsIn_25 ?_
      refine x_iaload d_X8_hangsIn_26 (o8_12 H) (nIx_nI (j := i) (by omega) (by decide)) ?_
      show nG _ _ _ _ _ _ (.int (nV (M 12 i)) :: _) _
      rw [hf, nV_s]
      refine x_aload_n rfl d_X8_hangsIn_27 ?_
      refine x_getf co_all (v := .ref (b + 12)) d_X8_hangsIn_28 fk_8_48 (o8_o H) rfl ?_
      refine x_iload_n rfl d_X8_hangsIn_31 ?_
      refine x_iaload d_X8_hangsIn_32 (o8_13 H) (nIx_nI (j := i) (by omega) (by decide)) ?_
      refine x_iaddN d_X8_hangsIn_33 ?_
      refine x_icmp_ltN (tgt := 39) d_X8_hangsIn_34 (by decide) (by omega) (by omega) (fun c_3 => ?_) (fun c_3 => ?_)
      · refine x_iload_n rfl d_X8_hangsIn_39 ?_
        refine x_iconst (v := nI 2) (by decide) d_X8_hangsIn_40 ?_
        refine x_icmp_eqN (tgt := 65) d_X8_hangsIn_41 (by decide) (by omega) (by omega) (fun c_4 => by exfalso; omega) (fun c_4 => ?_)
        refine x_aload_n rfl d_X8_hangsIn_44 ?_
        refine x_getf co_all (v := .ref (b + 13)) d_X8_hangsIn_45 fk_8_51 (o8_o H) rfl ?_
        refine x_iload_n rfl d_X8_hangsIn_48 ?_
        refine x_iaload d_X8_hangsIn_49 (o8_14 H) (nIx_nI (j := i) (by omega) (by decide)) ?_
        refine x_iload_n rfl d_X8_hangsIn_50 ?_
        refine x_aload_n rfl d_X8_hangsIn_51 ?_
        refine x_getf co_all (v := .ref (b + 11)) d_X8_hangsIn_52 fk_8_45 (o8_o H) rfl ?_
        refine x_iload_n rfl d_X8_hangsIn_55 ?_
        refine x_iaload d_X8_hangsIn_56 (o8_12 H) (nIx_nI (j := i) (by omega) (by decide)) ?_
        show nG _ _ _ _ _ _ (.int (nV (M 12 i)) :: _) _
        rw [hf, nV_s]
        refine x_isubN d_X8_hangsIn_57 (by omega) ?_
        refine x_ishr d_X8_hangsIn_58 ?_
        refine x_iconst (v := nI 1) (by decide) d_X8_hangsIn_59 ?_
        refine x_iand d_X8_hangsIn_60 ?_
        rw [nI_bit (by omega) (by omega)]
        have hle := nB_le ((M 14 i).testBit (k - f) = true)
        refine x_iload_n rfl d_X8_hangsIn_61 ?_
        refine x_icmp_neN (tgt := 69) d_X8_hangsIn_62 (by decide) (by omega) (by omega) (fun c_5 => ?_) (fun c_5 => ?_)
        · refine x_iconst (v := nI 0) (by decide) d_X8_hangsIn_69 ?_
          exact x_ireturn d_X8_hangsIn_70 rfl (by first | rfl | exact nB_nar _ | exact nB_nar1 (by omega)) rfl rfl (Nat.zero_le _) (Nat.zero_le _) (⟨congrArg (fun n => some (Value.int (nI n))) (by first | exact (mh_0 0 (by omega)).symm | (have e := mh_w (D := mR M p r) (k := j) (q := k) (by omega); rw [d4, d6] at e; omega)), rfl⟩)
        · refine x_iconst (v := nI 1) (by decide) d_X8_hangsIn_65 ?_
          refine x_goto (tgt := 70) d_X8_hangsIn_66 (by decide) ?_
          exact x_ireturn d_X8_hangsIn_70 rfl (by first | rfl | exact nB_nar _ | exact nB_nar1 (by omega)) rfl rfl (Nat.zero_le _) (Nat.zero_le _) (⟨congrArg (fun n => some (Value.int (nI n))) (by have e := mh_w (D := mR M p r) (k := j) (q := k) (by omega); rw [d4, d6] at e; omega), rfl⟩)
      · refine x_iconst (v := nI 0) (by decide) d_X8_hangsIn_37 ?_
        exact x_ireturn d_X8_hangsIn_38 rfl (by first | rfl | exact nB_nar _ | exact nB_nar1 (by omega)) rfl rfl (Nat.zero_le _) (Nat.zero_le _) (⟨congrArg (fun n => some (Value.int (nI n))) (by first | exact (mh_0 0 (by omega)).symm | (have e := mh_w (D := mR M p r) (k := j) (q := k) (by omega); rw [d4, d6] at e; omega)), rfl⟩)
theorem sp_mhg1 {h : nPH} {b : Nat} {M : Nat → Nat → Nat} (H : o8 h b M) {p r j k : Nat} (hp : p < 12) (hr : r < 20) (hj : j < 24) (hk : k < 2 ^ 30) (K : mK M (24 * (20 * p + r) + j)) : nRd YX8_hangsIn [.ref b, .int (nI (24 * (20 * p + r) + j)), .int (nI k), .int (nI 1)] h (.int (nI (hw (mR M p r) 1 j k))) := by
  obtain ⟨k1, k2, k3, k4, -⟩ := K
  have d4 := mR_4 M p r j
  have d5 := mR_5 M p r j
  have d6 := mR_6 M p r j
  generalize hi : 24 * (20 * p + r) + j = i at *
  have hi2 : i < 5760 := by omega
  rcases Nat.eq_zero_or_pos (M 12 i) with z | z
  · refine nSp_of (by decide +kernel) rfl (Nat.le_of_ble_eq_true rfl) (ls := [some (.ref (b)), some (.int (nI (i))), some (.int (nI (k))), some (.int (nI (1)))]) (by exact (And.intro rfl (And.intro rfl (And.intro rfl (And.intro rfl True.intro))))) ?_
    refine x_aload_n rfl d_X8_hangsIn_0 ?_
    refine x_getf co_all (v := .ref (b + 11)) d_X8_hangsIn_1 fk_8_45 (o8_o H) rfl ?_
    refine x_iload_n rfl d_X8_hangsIn_4 ?_
    refine x_iaload d_X8_hangsIn_5 (o8_12 H) (nIx_nI (j := i) (by omega) (by decide)) ?_
    show nG _ _ _ _ _ _ (.int (nV (M 12 i)) :: _) _
    rw [z, nV_0]
    refine x_iconst (v := -1) (by decide) d_X8_hangsIn_6 ?_
    refine x_icmp_eq (tgt := 37) d_X8_hangsIn_7 (by decide) (fun c_1 => ?_) (fun c_1 => by exfalso; exact c_1 rfl)
    refine x_iconst (v := nI 0) (by decide) d_X8_hangsIn_37 ?_
    exact x_ireturn d_X8_hangsIn_38 rfl (by first | rfl | exact nB_nar _ | exact nB_nar1 (by omega)) rfl rfl (Nat.zero_le _) (Nat.zero_le _) (⟨congrArg (fun n => some (Value.int (nI n))) (mh_0 1 (by have := k4 z; omega)).symm, rfl⟩)
  · obtain ⟨f, hf⟩ : ∃ f, M 12 i = f + 1 := ⟨M 12 i - 1, by omega⟩
    have d4 : mR M p r 4 j = f := by rw [d4, hf]; rfl
    refine nSp_of (by decide +kernel) rfl (Nat.le_of_ble_eq_true rfl) (ls := [some (.ref (b)), some (.int (nI (i))), some (.int (nI (k))), some (.int (nI (1)))]) (by exact (And.intro rfl (And.intro rfl (And.intro rfl (And.intro rfl True.intro))))) ?_
    refine x_aload_n rfl d_X8_hangsIn_0 ?_
    refine x_getf co_all (v := .ref (b + 11)) d_X8_hangsIn_1 fk_8_45 (o8_o H) rfl ?_
    refine x_iload_n rfl d_X8_hangsIn_4 ?_
    refine x_iaload d_X8_hangsIn_5 (o8_12 H) (nIx_nI (j := i) (by omega) (by decide)) ?_
    show nG _ _ _ _ _ _ (.int (nV (M 12 i)) :: _) _
    rw [hf, nV_s]
    refine x_iconst (v := -1) (by decide) d_X8_hangsIn_6 ?_
    refine x_icmp_eq (tgt := 37) d_X8_hangsIn_7 (by decide) (fun c_1 => by exfalso; exact nI_ne1 (by omega) c_1) (fun c_1 => ?_)
    refine x_iload_n rfl d_X8_hangsIn_10 ?_
    refine x_aload_n rfl d_X8_hangsIn_11 ?_
    refine x_getf co_all (v := .ref (b + 11)) d_X8_hangsIn_12 fk_8_45 (o8_o H) rfl ?_
    refine x_iload_n rfl d_X8_hangsIn_15 ?_
    refine x_iaload d_X8_hangsIn_16 (o8_12 H) (nIx_nI (j := i) (by omega) (by decide)) ?_
    show nG _ _ _ _ _ _ (.int (nV (M 12 i)) :: _) _
    rw [hf, nV_s]
    refine x_icmp_ltN (tgt := 37) d_X8_hangsIn_17 (by decide) (by omega) (by omega) (fun c_2 => ?_) (fun c_2 => ?_)
    · refine x_iconst (v := nI 0) (by decide) d_X8_hangsIn_37 ?_
      exact x_ireturn d_X8_hangsIn_38 rfl (by first | rfl | exact nB_nar _ | exact nB_nar1 (by omega)) rfl rfl (Nat.zero_le _) (Nat.zero_le _) (⟨congrArg (fun n => some (Value.int (nI n))) (by first | exact (mh_0 1 (by omega)).symm | (have e := mh_1 (D := mR M p r) (k := j) (q := k) (by omega); rw [d4, d6] at e; omega)), rfl⟩)
    · refine x_iload_n rfl d_X8_hangsIn_20 ?_
      refine x_aload_n rfl d_X8_hangsIn_21 ?_
      refine x_getf co_all (v := .ref (b + 11)) d_X8_hangsIn_22 fk_8_45 (o8_o H) rfl ?_
      refine x_iload_n rfl d_X8_hangsIn_25 ?_
      refine x_iaload d_X8_hangsIn_26 (o8_12 H) (nIx_nI (j := i) (by omega) (by decide)) ?_
      show nG _ _ _ _ _ _ (.int (nV (M 12 i)) :: _) _
      rw [hf, nV_s]
      refine x_aload_n rfl d_X8_hangsIn_27 ?_
      refine x_getf co_all (v := .ref (b + 12)) d_X8_hangsIn_28 fk_8_48 (o8_o H) rfl ?_
      refine x_iload_n rfl d_X8_hangsIn_31 ?_
      refine x_iaload d_X8_hangsIn_32 (o8_13 H) (nIx_nI (j := i) (by omega) (by decide)) ?_
      refine x_iaddN d_X8_hangsIn_33 ?_
      refine x_icmp_ltN (tgt := 39) d_X8_hangsIn_34 (by decide) (by omega) (by omega) (fun c_3 => ?_) (fun c_3 => ?_)
      · refine x_iload_n rfl d_X8_hangsIn_39 ?_
        refine x_iconst (v := nI 2) (by decide) d_X8_hangsIn_40 ?_
        refine x_icmp_eqN (tgt := 65) d_X8_hangsIn_41 (by decide) (by omega) (by omega) (fun c_4 => by exfalso; omega) (fun c_4 => ?_)
        refine x_aload_n rfl d_X8_hangsIn_44 ?_
        refine x_getf co_all (v := .ref (b + 13)) d_X8_hangsIn_45 fk_8_51 (o8_o H) rfl ?_
        refine x_iload_n rfl d_X8_hangsIn_48 ?_
        refine x_iaload d_X8_hangsIn_49 (o8_14 H) (nIx_nI (j := i) (by omega) (by decide)) ?_
        refine x_iload_n rfl d_X8_hangsIn_50 ?_
        refine x_aload_n rfl d_X8_hangsIn_51 ?_
        refine x_getf co_all (v := .ref (b + 11)) d_X8_hangsIn_52 fk_8_45 (o8_o H) rfl ?_
        refine x_iload_n rfl d_X8_hangsIn_55 ?_
        refine x_iaload d_X8_hangsIn_56 (o8_12 H) (nIx_nI (j := i) (by omega) (by decide)) ?_
        show nG _ _ _ _ _ _ (.int (nV (M 12 i)) :: _) _
        rw [hf, nV_s]
        refine x_isubN d_X8_hangsIn_57 (by omega) ?_
        refine x_ishr d_X8_hangsIn_58 ?_
        refine x_iconst (v := nI 1) (by decide) d_X8_hangsIn_59 ?_
        refine x_iand d_X8_hangsIn_60 ?_
        rw [nI_bit (by omega) (by omega)]
        have hle := nB_le ((M 14 i).testBit (k - f) = true)
        refine x_iload_n rfl d_X8_hangsIn_61 ?_
        refine x_icmp_neN (tgt := 69) d_X8_hangsIn_62 (by decide) (by omega) (by omega) (fun c_5 => ?_) (fun c_5 => ?_)
        · refine x_iconst (v := nI 0) (by decide) d_X8_hangsIn_69 ?_
          exact x_ireturn d_X8_hangsIn_70 rfl (by first | rfl | exact nB_nar _ | exact nB_nar1 (by omega)) rfl rfl (Nat.zero_le _) (Nat.zero_le _) (⟨congrArg (fun n => some (Value.int (nI n))) (by first | exact (mh_0 1 (by omega)).symm | (have e := mh_1 (D := mR M p r) (k := j) (q := k) (by omega); rw [d4, d6] at e; omega)), rfl⟩)
        · refine x_iconst (v := nI 1) (by decide) d_X8_hangsIn_65 ?_
          refine x_goto (tgt := 70) d_X8_hangsIn_66 (by decide) ?_
          exact x_ireturn d_X8_hangsIn_70 rfl (by first | rfl | exact nB_nar _ | exact nB_nar1 (by omega)) rfl rfl (Nat.zero_le _) (Nat.zero_le _) (⟨congrArg (fun n => some (Value.int (nI n))) (by have e := mh_1 (D := mR M p r) (k := j) (q := k) (by omega); rw [d4, d6] at e; omega), rfl⟩)
      · refine x_iconst (v := nI 0) (by decide) d_X8_hangsIn_37 ?_
        exact x_ireturn d_X8_hangsIn_38 rfl (by first | rfl | exact nB_nar _ | exact nB_nar1 (by omega)) rfl rfl (Nat.zero_le _) (Nat.zero_le _) (⟨congrArg (fun n => some (Value.int (nI n))) (by first | exact (mh_0 1 (by omega)).symm | (have e := mh_1 (D := mR M p r) (k := j) (q := k) (by omega); rw [d4, d6] at e; omega)), rfl⟩)
theorem sp_mhg2 {h : nPH} {b : Nat} {M : Nat → Nat → Nat} (H : o8 h b M) {p r j k : Nat} (hp : p < 12) (hr : r < 20) (hj : j < 24) (hk : k < 2 ^ 30) (K : mK M (24 * (20 * p + r) + j)) : nRd YX8_hangsIn [.ref b, .int (nI (24 * (20 * p + r) + j)), .int (nI k), .int (nI 2)] h (.int (nI (hw (mR M p r) 2 j k))) := by
  obtain ⟨k1, k2, k3, k4, -⟩ := K
  have d4 := mR_4 M p r j
  have d5 := mR_5 M p r j
  have d6 := mR_6 M p r j
  generalize hi : 24 * (20 * p + r) + j = i at *
  have hi2 : i < 5760 := by omega
  rcases Nat.eq_zero_or_pos (M 12 i) with z | z
  · refine nSp_of (by decide +kernel) rfl (Nat.le_of_ble_eq_true rfl) (ls := [some (.ref (b)), some (.int (nI (i))), some (.int (nI (k))), some (.int (nI (2)))]) (by exact (And.intro rfl (And.intro rfl (And.intro rfl (And.intro rfl True.intro))))) ?_
    refine x_aload_n rfl d_X8_hangsIn_0 ?_
    refine x_getf co_all (v := .ref (b + 11)) d_X8_hangsIn_1 fk_8_45 (o8_o H) rfl ?_
    refine x_iload_n rfl d_X8_hangsIn_4 ?_
    refine x_iaload d_X8_hangsIn_5 (o8_12 H) (nIx_nI (j := i) (by omega) (by decide)) ?_
    show nG _ _ _ _ _ _ (.int (nV (M 12 i)) :: _) _
    rw [z, nV_0]
    refine x_iconst (v := -1) (by decide) d_X8_hangsIn_6 ?_
    refine x_icmp_eq (tgt := 37) d_X8_hangsIn_7 (by decide) (fun c_1 => ?_) (fun c_1 => by exfalso; exact c_1 rfl)
    refine x_iconst (v := nI 0) (by decide) d_X8_hangsIn_37 ?_
    exact x_ireturn d_X8_hangsIn_38 rfl (by first | rfl | exact nB_nar _ | exact nB_nar1 (by omega)) rfl rfl (Nat.zero_le _) (Nat.zero_le _) (⟨congrArg (fun n => some (Value.int (nI n))) (mh_0 2 (by have := k4 z; omega)).symm, rfl⟩)
  · obtain ⟨f, hf⟩ : ∃ f, M 12 i = f + 1 := ⟨M 12 i - 1, by omega⟩
    have d4 : mR M p r 4 j = f := by rw [d4, hf]; rfl
    refine nSp_of (by decide +kernel) rfl (Nat.le_of_ble_eq_true rfl) (ls := [some (.ref (b)), some (.int (nI (i))), some (.int (nI (k))), some (.int (nI (2)))]) (by exact (And.intro rfl (And.intro rfl (And.intro rfl (And.intro rfl True.intro))))) ?_
    refine x_aload_n rfl d_X8_hangsIn_0 ?_
    refine x_getf co_all (v := .ref (b + 11)) d_X8_hangsIn_1 fk_8_45 (o8_o H) rfl ?_
    refine x_iload_n rfl d_X8_hangsIn_4 ?_
    refine x_iaload d_X8_hangsIn_5 (o8_12 H) (nIx_nI (j := i) (by omega) (by decide)) ?_
    show nG _ _ _ _ _ _ (.int (nV (M 12 i)) :: _) _
    rw [hf, nV_s]
    refine x_iconst (v := -1) (by decide) d_X8_hangsIn_6 ?_
    refine x_icmp_eq (tgt := 37) d_X8_hangsIn_7 (by decide) (fun c_1 => by exfalso; exact nI_ne1 (by omega) c_1) (fun c_1 => ?_)
    refine x_iload_n rfl d_X8_hangsIn_10 ?_
    refine x_aload_n rfl d_X8_hangsIn_11 ?_
    refine x_getf co_all (v := .ref (b + 11)) d_X8_hangsIn_12 fk_8_45 (o8_o H) rfl ?_
    refine x_iload_n rfl d_X8_hangsIn_15 ?_
    refine x_iaload d_X8_hangsIn_16 (o8_12 H) (nIx_nI (j := i) (by omega) (by decide)) ?_
    show nG _ _ _ _ _ _ (.int (nV (M 12 i)) :: _) _
    rw [hf, nV_s]
    refine x_icmp_ltN (tgt := 37) d_X8_hangsIn_17 (by decide) (by omega) (by omega) (fun c_2 => ?_) (fun c_2 => ?_)
    · refine x_iconst (v := nI 0) (by decide) d_X8_hangsIn_37 ?_
      exact x_ireturn d_X8_hangsIn_38 rfl (by first | rfl | exact nB_nar _ | exact nB_nar1 (by omega)) rfl rfl (Nat.zero_le _) (Nat.zero_le _) (⟨congrArg (fun n => some (Value.int (nI n))) (by first | exact (mh_0 2 (by omega)).symm), rfl⟩)
    · refine x_iload_n rfl d_X8_hangsIn_20 ?_
      refine x_aload_n rfl d_X8_hangsIn_21 ?_
      refine x_getf co_all (v := .ref (b + 11)) d_X8_hangsIn_22 fk_8_45 (o8_o H) rfl ?_
      refine x_iload_n rfl d_X8_hangsIn_25 ?_
      refine x_iaload d_X8_hangsIn_26 (o8_12 H) (nIx_nI (j := i) (by omega) (by decide)) ?_
      show nG _ _ _ _ _ _ (.int (nV (M 12 i)) :: _) _
      rw [hf, nV_s]
      refine x_aload_n rfl d_X8_hangsIn_27 ?_
      refine x_getf co_all (v := .ref (b + 12)) d_X8_hangsIn_28 fk_8_48 (o8_o H) rfl ?_
      refine x_iload_n rfl d_X8_hangsIn_31 ?_
      refine x_iaload d_X8_hangsIn_32 (o8_13 H) (nIx_nI (j := i) (by omega) (by decide)) ?_
      refine x_iaddN d_X8_hangsIn_33 ?_
      refine x_icmp_ltN (tgt := 39) d_X8_hangsIn_34 (by decide) (by omega) (by omega) (fun c_3 => ?_) (fun c_3 => ?_)
      · refine x_iload_n rfl d_X8_hangsIn_39 ?_
        refine x_iconst (v := nI 2) (by decide) d_X8_hangsIn_40 ?_
        refine x_icmp_eqN (tgt := 65) d_X8_hangsIn_41 (by decide) (by omega) (by omega) (fun c_4 => ?_) (fun c_4 => by exfalso; omega)
        refine x_iconst (v := nI 1) (by decide) d_X8_hangsIn_65 ?_
        refine x_goto (tgt := 70) d_X8_hangsIn_66 (by decide) ?_
        exact x_ireturn d_X8_hangsIn_70 rfl (by first | rfl | exact nB_nar _ | exact nB_nar1 (by omega)) rfl rfl (Nat.zero_le _) (Nat.zero_le _) (⟨congrArg (fun n => some (Value.int (nI n))) (by exact (mh_2 (by omega)).symm), rfl⟩)
      · refine x_iconst (v := nI 0) (by decide) d_X8_hangsIn_37 ?_
        exact x_ireturn d_X8_hangsIn_38 rfl (by first | rfl | exact nB_nar _ | exact nB_nar1 (by omega)) rfl rfl (Nat.zero_le _) (Nat.zero_le _) (⟨congrArg (fun n => some (Value.int (nI n))) (by first | exact (mh_0 2 (by omega)).symm), rfl⟩)
theorem sp_mhg {h : nPH} {b : Nat} {M : Nat → Nat → Nat} (H : o8 h b M) {p r j k : Nat} (hp : p < 12) (hr : r < 20) (hj : j < 24) (hk : k < 2 ^ 30) (K : mK M (24 * (20 * p + r) + j)) {c : Nat} (hc : c ≤ 2) : nRd YX8_hangsIn [.ref b, .int (nI (24 * (20 * p + r) + j)), .int (nI k), .int (nI c)] h (.int (nI (hw (mR M p r) c j k))) := by
  rcases (show c = 0 ∨ c = 1 ∨ c = 2 by omega) with rfl | rfl | rfl
  · exact sp_mhg0 H hp hr hj hk K
  · exact sp_mhg1 H hp hr hj hk K
  · exact sp_mhg2 H hp hr hj hk K
