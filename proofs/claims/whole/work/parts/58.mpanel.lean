/-! the model: panel, taper, ahead -/
theorem pNew_f (g s : Nat) : pNew g s 0 0 = g ∧ pNew g s 1 0 = s ∧ pNew g s 2 0 = 1 ∧ pNew g s 3 0 = 1 ∧ pNew g s 5 0 = 0 ∧ ∀ k, pNew g s 6 k = 0 := ⟨rfl, rfl, rfl, rfl, rfl, fun _ => rfl⟩
theorem rNew_0 (n : Nat) : rNew n 0 0 = n := rfl
theorem rNew_2 {n k : Nat} (hk : k < 24) : rNew n 2 k = 1 := by
  unfold rNew
  rw [if_neg (by decide), if_pos ⟨rfl, hk⟩]
theorem rNew_f {n f k : Nat} (h : f ≠ 0) (h2 : f ≠ 2) : rNew n f k = 0 := by
  unfold rNew
  rw [if_neg h, if_neg (fun z => h2 z.1)]
theorem kO_new {V : Nat → Nat → Nat} {P : Nat → Nat → Nat → Nat} {R : Nat → Nat → Nat → Nat → Nat} (O : kO V P R) (z : Nat) (hn : V 1 0 < 12) {Q : Nat → Nat → Nat} {N : Nat → Nat → Nat → Nat} (h : kP Q N) : kO (vAp V z) (uP P (V 1 0) Q) (uP R (V 1 0) N) := by
  refine ⟨by rw [vAp_1]; omega, by rw [vAp_o (by decide)]; exact O.2.1, fun i hi => by rw [vAp_o (by decide)]; exact O.2.2.1 i hi, fun q hq => ?_⟩
  rw [vAp_1] at hq
  by_cases e : q = V 1 0
  · rw [e, uP_eq, uP_eq]; exact h
  · rw [uP_ne e, uP_ne e]; exact O.2.2.2 q (by omega)
theorem kP_one {g s w z : Nat} (hw1 : 1 ≤ w) (hw2 : w ≤ 24) (hg1 : 1 ≤ g) (hg2 : g ≤ 1000) (hs1 : 1 ≤ s) (hs2 : s ≤ 1000000) : kP (pAp (pNew g s) z) (uR (fun _ _ _ => 0) 0 (rNew w)) := by
  obtain ⟨f0, f1, f2, f3, f5, f6⟩ := pNew_f g s
  refine ⟨by rw [pAp_5, f5]; omega, by rw [pAp_5, f5]; omega, fun r hr => ?_, ⟨fun k hk => ?_, fun r hr k hk => ?_⟩, fun k hk => ?_, ?_, fun r hr => ?_⟩
  · rw [pAp_5, f5] at hr
    rw [show r = 0 by omega, uR_eq]
    exact rOK_new hw2
  · rw [uR_eq]
    exact rNew_f (by decide) (by decide)
  · rw [pAp_5, f5] at hr
    omega
  · rw [pAp_f (by decide) (by decide), f6]
    omega
  · rw [pAp_f (by decide) (by decide), pAp_f (by decide) (by decide), pAp_f (by decide) (by decide), pAp_f (by decide) (by decide), f0, f1, f2, f3]
    omega
  · rw [pAp_5, f5] at hr
    omega
/-- the model with a new panel of one row -/
def mPn (M : Nat → Nat → Nat) (n g s w : Nat) : Nat → Nat → Nat := u2 (u2 (mCk (mNp M g s) (20 * n + 0) 24) 8 (20 * n + 0) w) 2 n 1
theorem mNp_o {M : Nat → Nat → Nat} {g s f i : Nat} (h1 : f ≠ 1) (h2 : 2 ≤ f → f ≤ 6 → i ≠ M 1 0) (h7 : f = 7 → i < 24 * M 1 0 ∨ 24 * M 1 0 + 24 ≤ i) : mNp M g s f i = M f i := by
  unfold mNp
  rw [u2_ne (by omega)]
  unfold mNk
  rw [if_neg (by omega)]
  unfold mN0
  rw [u2_ne (by omega), u2_ne (by omega), u2_ne (by omega), u2_ne (by omega), u2_ne (by omega)]
theorem mNp_h {M : Nat → Nat → Nat} {g s : Nat} : mNp M g s 1 0 = M 1 0 + 1 ∧ mNp M g s 3 (M 1 0) = g ∧ mNp M g s 4 (M 1 0) = s ∧ mNp M g s 5 (M 1 0) = 1 ∧ mNp M g s 6 (M 1 0) = 1 ∧ ∀ k, k < 24 → mNp M g s 7 (24 * M 1 0 + k) = 0 := by
  refine ⟨u2_eq _ _ _ _, ?_, ?_, ?_, ?_, fun k hk => ?_⟩
  · unfold mNp; rw [u2_ne (by omega)]; unfold mNk; rw [if_neg (by omega)]; unfold mN0; rw [u2_ne (by omega), u2_ne (by omega), u2_ne (by omega), u2_eq]
  · unfold mNp; rw [u2_ne (by omega)]; unfold mNk; rw [if_neg (by omega)]; unfold mN0; rw [u2_ne (by omega), u2_ne (by omega), u2_eq]
  · unfold mNp; rw [u2_ne (by omega)]; unfold mNk; rw [if_neg (by omega)]; unfold mN0; rw [u2_ne (by omega), u2_eq]
  · unfold mNp; rw [u2_ne (by omega)]; unfold mNk; rw [if_neg (by omega)]; unfold mN0; rw [u2_eq]
  · unfold mNp; rw [u2_ne (by omega)]; unfold mNk; rw [if_pos (by omega)]
theorem rW_pn1 {M V : Nat → Nat → Nat} {P : Nat → Nat → Nat → Nat} {R : Nat → Nat → Nat → Nat → Nat} {E Y T S : Nat → Nat → Nat} (W : rW M V P R E Y T S) (O : kO V P R) (hn : V 1 0 < 12) (z z2 : Nat) {w g s : Nat} (hw1 : 1 ≤ w) (hw2 : w ≤ 24) : rW (mPn M (M 1 0) g s w) (vAp V z) (uP P (V 1 0) (pAp (pNew g s) z2)) (uP R (V 1 0) (uR (fun _ _ _ => 0) 0 (rNew w))) E Y T S := by
  have e1 := W.1.1
  obtain ⟨n1, n3, n4, n5, n6, n7⟩ := mNp_h (M := M) (g := g) (s := s)
  obtain ⟨f0, f1, f2, f3, f5, f6⟩ := pNew_f g s
  rw [← e1]
  have eo : ∀ f i, f ≠ 2 ∨ i ≠ M 1 0 → (f = 8 ∨ f = 9 → i ≠ 20 * M 1 0 + 0) → (10 ≤ f → f ≤ 15 → i < 24 * (20 * M 1 0 + 0) ∨ 24 * (20 * M 1 0 + 0) + 24 ≤ i) → mPn M (M 1 0) g s w f i = mNp M g s f i := fun f i h2 h8 hg => by
    unfold mPn mCk
    rw [u2_ne (by omega), u2_ne (by omega), if_neg (by omega), if_neg (by omega)]
  have ek : ∀ f k, 10 ≤ f → f ≤ 15 → k < 24 → mPn M (M 1 0) g s w f (24 * (20 * M 1 0 + 0) + k) = if f = 11 then 1 else 0 := fun f k h1 h2 hk => by
    unfold mPn mCk
    rw [u2_ne (by omega), u2_ne (by omega), if_neg (by omega), if_pos (by omega)]
  refine rW_pan W (fun f i h1 h2 h7 h8 hg => ?_) ?_ (fun q hq hne => ?_) (fun f i hf => vAp_o hf) (rW_z W O) (fun _ => ⟨⟨?_, ?_, ?_, ?_, ?_, fun k hk => ?_, fun r hr => ?_⟩, ?_, fun r hr => ?_⟩)
  · rw [eo f i (by omega) (fun x => by have := h8 x; omega) (fun x y => by have := hg x y; omega), mNp_o h1 h2 h7]
  · rw [eo 1 0 (by omega) (by omega) (by omega), n1, vAp_1]
    omega
  · rw [vAp_1] at hq
    omega
  · unfold mPn
    rw [u2_eq, pAp_5, f5]
  · rw [eo 3 _ (by omega) (by omega) (by omega), n3, pAp_f (by decide) (by decide), f0]
  · rw [eo 4 _ (by omega) (by omega) (by omega), n4, pAp_f (by decide) (by decide), f1]
  · rw [eo 5 _ (by omega) (by omega) (by omega), n5, pAp_f (by decide) (by decide), f2]
  · rw [eo 6 _ (by omega) (by omega) (by omega), n6, pAp_f (by decide) (by decide), f3]
  · rw [uR_eq, rNew_0] at hk
    rw [eo 7 _ (by omega) (by omega) (by omega), n7 k (by omega), pAp_f (by decide) (by decide), f6]
  · rw [pAp_5, f5] at hr
    have e : r = 0 := by omega
    subst e
    rw [uR_eq]
    refine ⟨⟨?_, fun k hk => ?_⟩, ?_, fun k hk _ => ?_, fun k hk => ?_⟩
    · rw [mR_0, rNew_0]
      unfold mPn
      rw [u2_ne (by omega), u2_eq]
    · rw [rNew_0] at hk
      have hk2 : k < 24 := by omega
      rw [mR_1, mR_2, mR_3, mR_4, mR_5, mR_6, ek 10 k (by decide) (by decide) hk2, ek 11 k (by decide) (by decide) hk2, ek 15 k (by decide) (by decide) hk2, ek 12 k (by decide) (by decide) hk2, ek 13 k (by decide) (by decide) hk2, ek 14 k (by decide) (by decide) hk2, rNew_2 hk2, rNew_f (by decide) (by decide), rNew_f (by decide) (by decide), rNew_f (by decide) (by decide), rNew_f (by decide) (by decide)]
      exact ⟨rfl, rfl, rfl, rfl, rfl, fun h => absurd rfl h⟩
    · rw [rNew_0, nB_F (by omega)]
      unfold mPn mCk
      rw [u2_ne (by omega), u2_ne (by omega), if_pos (by omega)]
    · rw [rNew_0] at hk
      rw [ek 12 k (by decide) (by decide) (by omega)]
      rfl
    · rw [ek 11 k (by decide) (by decide) hk]
      decide
  · unfold mPn
    rw [u2_eq]
    decide
  · have e : r = 0 := by
      have : mPn M (M 1 0) g s w 2 (M 1 0) = 1 := u2_eq _ _ _ _
      omega
    subst e
    refine ⟨?_, fun j hj => ?_⟩
    · unfold mPn
      rw [u2_ne (by omega), u2_eq]
      exact hw2
    · show mK (mPn M (M 1 0) g s w) _
      unfold mK
      rw [ek 12 j (by decide) (by decide) hj, ek 13 j (by decide) (by decide) hj, ek 14 j (by decide) (by decide) hj, ek 15 j (by decide) (by decide) hj]
      decide
theorem md_panelF {h : nPH} {b : Nat} {M V : Nat → Nat → Nat} {P : Nat → Nat → Nat → Nat} {R : Nat → Nat → Nat → Nat → Nat} {E Y T S : Nat → Nat → Nat} (H : o8 h b M) (W : rW M V P R E Y T S) (O : kO V P R) (hn : 12 ≤ V 1 0) {w g s : Int32} : nRd YX8_panel [.ref (b), .int (w), .int (g), .int (s)] h (.int (-1)) := by
  have e1 := W.1.1
  have o1 := O.1
  refine nSp_of (by decide +kernel) rfl (Nat.le_of_ble_eq_true rfl) (ls := [some (.ref (b)), some (.int (w)), some (.int (g)), some (.int (s)), none]) (by exact (And.intro rfl (And.intro rfl (And.intro rfl (And.intro rfl True.intro))))) ?_
  refine x_aload_n rfl d_X8_panel_0 ?_
  refine x_getf co_all (v := .int (nI (M 1 0))) d_X8_panel_1 fk_8_88 (o8_o H) rfl ?_
  refine x_bipush (v := nI 12) (by decide) d_X8_panel_4 ?_
  refine x_icmp_eqN (tgt := 43) d_X8_panel_6 (by decide) (by omega) (by omega) (fun c_1 => ?_) (fun c_1 => by exfalso; omega)
  refine x_iconst (v := -1) (by decide) d_X8_panel_43 ?_
  exact x_ireturn d_X8_panel_44 rfl rfl rfl rfl (Nat.zero_le _) (Nat.zero_le _) (⟨rfl, rfl⟩)
theorem md_panelW {h : nPH} {b : Nat} {M V : Nat → Nat → Nat} {P : Nat → Nat → Nat → Nat} {R : Nat → Nat → Nat → Nat → Nat} {E Y T S : Nat → Nat → Nat} (H : o8 h b M) (W : rW M V P R E Y T S) (O : kO V P R) (hn : V 1 0 < 12) {w g s : Int32} (hw : ¬ (nI 1 ≤ w ∧ w ≤ nI 24)) : nRd YX8_panel [.ref (b), .int (w), .int (g), .int (s)] h (.int (-1)) := by
  have e1 := W.1.1
  have o1 := O.1
  refine nSp_of (by decide +kernel) rfl (Nat.le_of_ble_eq_true rfl) (ls := [some (.ref (b)), some (.int (w)), some (.int (g)), some (.int (s)), none]) (by exact (And.intro rfl (And.intro rfl (And.intro rfl (And.intro rfl True.intro))))) ?_
  refine x_aload_n rfl d_X8_panel_0 ?_
  refine x_getf co_all (v := .int (nI (M 1 0))) d_X8_panel_1 fk_8_88 (o8_o H) rfl ?_
  refine x_bipush (v := nI 12) (by decide) d_X8_panel_4 ?_
  refine x_icmp_eqN (tgt := 43) d_X8_panel_6 (by decide) (by omega) (by omega) (fun c_1 => by exfalso; omega) (fun c_1 => ?_)
  refine x_iload_n rfl d_X8_panel_9 ?_
  refine x_iconst (v := nI 1) (by decide) d_X8_panel_10 ?_
  refine x_icmp_lt (tgt := 43) d_X8_panel_11 (by decide) (fun c_a => ?_) (fun c_a => ?_)
  · refine x_iconst (v := -1) (by decide) d_X8_panel_43 ?_
    exact x_ireturn d_X8_panel_44 rfl rfl rfl rfl (Nat.zero_le _) (Nat.zero_le _) (⟨rfl, rfl⟩)
  · refine x_iload_n rfl d_X8_panel_14 ?_
    refine x_bipush (v := nI 24) (by decide) d_X8_panel_15 ?_
    refine x_icmp_gt (tgt := 43) d_X8_panel_17 (by decide) (fun c_b => ?_) (fun c_b => by exfalso; exact hw ⟨Int32.not_lt.mp c_a, Int32.not_lt.mp c_b⟩)
    refine x_iconst (v := -1) (by decide) d_X8_panel_43 ?_
    exact x_ireturn d_X8_panel_44 rfl rfl rfl rfl (Nat.zero_le _) (Nat.zero_le _) (⟨rfl, rfl⟩)
theorem md_panelB {h : nPH} {b : Nat} {M V : Nat → Nat → Nat} {P : Nat → Nat → Nat → Nat} {R : Nat → Nat → Nat → Nat → Nat} {E Y T S : Nat → Nat → Nat} (H : o8 h b M) (W : rW M V P R E Y T S) (O : kO V P R) (hn : V 1 0 < 12) {w : Nat} (hw1 : 1 ≤ w) (hw2 : w ≤ 24) {g s : Int32} (hg : ¬ (nI 1 ≤ g ∧ g ≤ nI 1000)) : nRd YX8_panel [.ref (b), .int (nI (w)), .int (g), .int (s)] h (.int (-1)) := by
  have e1 := W.1.1
  have o1 := O.1
  refine nSp_of (by decide +kernel) rfl (Nat.le_of_ble_eq_true rfl) (ls := [some (.ref (b)), some (.int (nI (w))), some (.int (g)), some (.int (s)), none]) (by exact (And.intro rfl (And.intro rfl (And.intro rfl (And.intro rfl True.intro))))) ?_
  refine x_aload_n rfl d_X8_panel_0 ?_
  refine x_getf co_all (v := .int (nI (M 1 0))) d_X8_panel_1 fk_8_88 (o8_o H) rfl ?_
  refine x_bipush (v := nI 12) (by decide) d_X8_panel_4 ?_
  refine x_icmp_eqN (tgt := 43) d_X8_panel_6 (by decide) (by omega) (by omega) (fun c_1 => by exfalso; omega) (fun c_1 => ?_)
  refine x_iload_n rfl d_X8_panel_9 ?_
  refine x_iconst (v := nI 1) (by decide) d_X8_panel_10 ?_
  refine x_icmp_ltN (tgt := 43) d_X8_panel_11 (by decide) (by omega) (by omega) (fun c_2 => by exfalso; omega) (fun c_2 => ?_)
  refine x_iload_n rfl d_X8_panel_14 ?_
  refine x_bipush (v := nI 24) (by decide) d_X8_panel_15 ?_
  refine x_icmp_gtN (tgt := 43) d_X8_panel_17 (by decide) (by omega) (by omega) (fun c_3 => by exfalso; omega) (fun c_3 => ?_)
  refine x_iload_n rfl d_X8_panel_20 ?_
  refine x_iconst (v := nI 1) (by decide) d_X8_panel_21 ?_
  refine x_icmp_lt (tgt := 43) d_X8_panel_22 (by decide) (fun c_a => ?_) (fun c_a => ?_)
  · refine x_iconst (v := -1) (by decide) d_X8_panel_43 ?_
    exact x_ireturn d_X8_panel_44 rfl rfl rfl rfl (Nat.zero_le _) (Nat.zero_le _) (⟨rfl, rfl⟩)
  · refine x_iload_n rfl d_X8_panel_25 ?_
    refine x_sipush (v := nI 1000) (by decide) d_X8_panel_26 ?_
    refine x_icmp_gt (tgt := 43) d_X8_panel_29 (by decide) (fun c_b => ?_) (fun c_b => by exfalso; exact hg ⟨Int32.not_lt.mp c_a, Int32.not_lt.mp c_b⟩)
    refine x_iconst (v := -1) (by decide) d_X8_panel_43 ?_
    exact x_ireturn d_X8_panel_44 rfl rfl rfl rfl (Nat.zero_le _) (Nat.zero_le _) (⟨rfl, rfl⟩)
theorem md_panelS {h : nPH} {b : Nat} {M V : Nat → Nat → Nat} {P : Nat → Nat → Nat → Nat} {R : Nat → Nat → Nat → Nat → Nat} {E Y T S : Nat → Nat → Nat} (H : o8 h b M) (W : rW M V P R E Y T S) (O : kO V P R) (hn : V 1 0 < 12) {w : Nat} (hw1 : 1 ≤ w) (hw2 : w ≤ 24) {g : Nat} (hg1 : 1 ≤ g) (hg2 : g ≤ 1000) {s : Int32} (hs : ¬ (nI 1 ≤ s ∧ s ≤ nI 1000000)) : nRd YX8_panel [.ref (b), .int (nI (w)), .int (nI (g)), .int (s)] h (.int (-1)) := by
  have e1 := W.1.1
  have o1 := O.1
  refine nSp_of (by decide +kernel) rfl (Nat.le_of_ble_eq_true rfl) (ls := [some (.ref (b)), some (.int (nI (w))), some (.int (nI (g))), some (.int (s)), none]) (by exact (And.intro rfl (And.intro rfl (And.intro rfl (And.intro rfl True.intro))))) ?_
  refine x_aload_n rfl d_X8_panel_0 ?_
  refine x_getf co_all (v := .int (nI (M 1 0))) d_X8_panel_1 fk_8_88 (o8_o H) rfl ?_
  refine x_bipush (v := nI 12) (by decide) d_X8_panel_4 ?_
  refine x_icmp_eqN (tgt := 43) d_X8_panel_6 (by decide) (by omega) (by omega) (fun c_1 => by exfalso; omega) (fun c_1 => ?_)
  refine x_iload_n rfl d_X8_panel_9 ?_
  refine x_iconst (v := nI 1) (by decide) d_X8_panel_10 ?_
  refine x_icmp_ltN (tgt := 43) d_X8_panel_11 (by decide) (by omega) (by omega) (fun c_2 => by exfalso; omega) (fun c_2 => ?_)
  refine x_iload_n rfl d_X8_panel_14 ?_
  refine x_bipush (v := nI 24) (by decide) d_X8_panel_15 ?_
  refine x_icmp_gtN (tgt := 43) d_X8_panel_17 (by decide) (by omega) (by omega) (fun c_3 => by exfalso; omega) (fun c_3 => ?_)
  refine x_iload_n rfl d_X8_panel_20 ?_
  refine x_iconst (v := nI 1) (by decide) d_X8_panel_21 ?_
  refine x_icmp_ltN (tgt := 43) d_X8_panel_22 (by decide) (by omega) (by omega) (fun c_4 => by exfalso; omega) (fun c_4 => ?_)
  refine x_iload_n rfl d_X8_panel_25 ?_
  refine x_sipush (v := nI 1000) (by decide) d_X8_panel_26 ?_
  refine x_icmp_gtN (tgt := 43) d_X8_panel_29 (by decide) (by omega) (by omega) (fun c_5 => by exfalso; omega) (fun c_5 => ?_)
  refine x_iload_n rfl d_X8_panel_32 ?_
  refine x_iconst (v := nI 1) (by decide) d_X8_panel_33 ?_
  refine x_icmp_lt (tgt := 43) d_X8_panel_34 (by decide) (fun c_a => ?_) (fun c_a => ?_)
  · refine x_iconst (v := -1) (by decide) d_X8_panel_43 ?_
    exact x_ireturn d_X8_panel_44 rfl rfl rfl rfl (Nat.zero_le _) (Nat.zero_le _) (⟨rfl, rfl⟩)
  · refine x_iload_n rfl d_X8_panel_37 ?_
    refine x_ldc (v := nI 1000000) d_X8_panel_38 ct_8_103 ?_
    refine x_icmp_le (tgt := 45) d_X8_panel_40 (by decide) (fun c_b => by exfalso; exact hs ⟨Int32.not_lt.mp c_a, c_b⟩) (fun c_b => ?_)
    refine x_iconst (v := -1) (by decide) d_X8_panel_43 ?_
    exact x_ireturn d_X8_panel_44 rfl rfl rfl rfl (Nat.zero_le _) (Nat.zero_le _) (⟨rfl, rfl⟩)
theorem md_panel {h : nPH} {b : Nat} {M V : Nat → Nat → Nat} {P : Nat → Nat → Nat → Nat} {R : Nat → Nat → Nat → Nat → Nat} {E Y T S : Nat → Nat → Nat} (H : o8 h b M) (W : rW M V P R E Y T S) (O : kO V P R) (z z2 : Nat) (hn : V 1 0 < 12) {w : Nat} (hw1 : 1 ≤ w) (hw2 : w ≤ 24) {g : Nat} (hg1 : 1 ≤ g) (hg2 : g ≤ 1000) {s : Nat} (hs1 : 1 ≤ s) (hs2 : s ≤ 1000000) : nWv YX8_panel [.ref (b), .int (nI (w)), .int (nI (g)), .int (nI (s))] h (some (.int (nI (V 1 0)))) (fun h2 => nFr (nIv b 24) h h2 ∧ ∃ M2, o8 h2 b M2 ∧ rW M2 (vAp V z) (uP P (V 1 0) (pAp (pNew g s) z2)) (uP R (V 1 0) (uR (fun _ _ _ => 0) 0 (rNew w))) E Y T S) := by
  have e1 := W.1.1
  have o1 := O.1
  refine nSp_of (by decide +kernel) rfl (Nat.le_of_ble_eq_true rfl) (ls := [some (.ref (b)), some (.int (nI (w))), some (.int (nI (g))), some (.int (nI (s))), none]) (by exact (And.intro rfl (And.intro rfl (And.intro rfl (And.intro rfl True.intro))))) ?_
  refine x_aload_n rfl d_X8_panel_0 ?_
  refine x_getf co_all (v := .int (nI (M 1 0))) d_X8_panel_1 fk_8_88 (o8_o H) rfl ?_
  refine x_bipush (v := nI 12) (by decide) d_X8_panel_4 ?_
  refine x_icmp_eqN (tgt := 43) d_X8_panel_6 (by decide) (by omega) (by omega) (fun c_1 => by exfalso; omega) (fun c_1 => ?_)
  refine x_iload_n rfl d_X8_panel_9 ?_
  refine x_iconst (v := nI 1) (by decide) d_X8_panel_10 ?_
  refine x_icmp_ltN (tgt := 43) d_X8_panel_11 (by decide) (by omega) (by omega) (fun c_2 => by exfalso; omega) (fun c_2 => ?_)
  refine x_iload_n rfl d_X8_panel_14 ?_
  refine x_bipush (v := nI 24) (by decide) d_X8_panel_15 ?_
  refine x_icmp_gtN (tgt := 43) d_X8_panel_17 (by decide) (by omega) (by omega) (fun c_3 => by exfalso; omega) (fun c_3 => ?_)
  refine x_iload_n rfl d_X8_panel_20 ?_
  refine x_iconst (v := nI 1) (by decide) d_X8_panel_21 ?_
  refine x_icmp_ltN (tgt := 43) d_X8_panel_22 (by decide) (by omega) (by omega) (fun c_4 => by exfalso; omega) (fun c_4 => ?_)
  refine x_iload_n rfl d_X8_panel_25 ?_
  refine x_sipush (v := nI 1000) (by decide) d_X8_panel_26 ?_
  refine x_icmp_gtN (tgt := 43) d_X8_panel_29 (by decide) (by omega) (by omega) (fun c_5 => by exfalso; omega) (fun c_5 => ?_)
  refine x_iload_n rfl d_X8_panel_32 ?_
  refine x_iconst (v := nI 1) (by decide) d_X8_panel_33 ?_
  refine x_icmp_ltN (tgt := 43) d_X8_panel_34 (by decide) (by omega) (by omega) (fun c_6 => by exfalso; omega) (fun c_6 => ?_)
  refine x_iload_n rfl d_X8_panel_37 ?_
  refine x_ldc (v := nI 1000000) d_X8_panel_38 ct_8_103 ?_
  refine x_icmp_leN (tgt := 45) d_X8_panel_40 (by decide) (by omega) (by omega) (fun c_7 => ?_) (fun c_7 => by exfalso; omega)
  refine x_aload_n rfl d_X8_panel_45 ?_
  refine x_iload_n rfl d_X8_panel_46 ?_
  refine x_iload_n rfl d_X8_panel_47 ?_
  refine x_wvV d_X8_panel_48 lk_8_104 mo_X8_newPanel vi_X8_newPanel (sp_mnp (M := M) (by omega) (g := g) (s := s) H) (o8_o H) ⟨_, rfl, rfl⟩ rfl ⟨Nat.le_of_ble_eq_true rfl, Nat.le_of_ble_eq_true rfl⟩ (Nat.zero_le _) (Nat.zero_le _) (Nat.le_of_ble_eq_true rfl) rfl (fun h3 hq_ e3a e3b => ?_)
  obtain ⟨G3, H3⟩ := hq_
  have F3 := ((nFr.rf (S := nIv b 24) (h := h))).tr G3
  refine x_istore d_X8_panel_51 (Nat.le_of_ble_eq_true rfl) ?_
  refine x_aload_n rfl d_X8_panel_53 ?_
  refine x_iload rfl d_X8_panel_54 ?_
  refine x_iconst (v := nI 0) (by decide) d_X8_panel_56 ?_
  refine x_wvV d_X8_panel_57 lk_8_108 mo_X8_clears vi_X8_clears (sp_mcl (p := M 1 0) (r := 0) (by omega) (by omega) H3) (o8_o H3) ⟨_, rfl, rfl⟩ rfl ⟨Nat.le_of_ble_eq_true rfl, Nat.le_of_ble_eq_true rfl⟩ (Nat.zero_le _) (Nat.zero_le _) (Nat.le_of_ble_eq_true rfl) rfl (fun h4 hq_ e4a e4b => ?_)
  obtain ⟨G4, H4⟩ := hq_
  have F4 := (F3).tr G4
  refine x_aload_n rfl d_X8_panel_60 ?_
  refine x_getf co_all (v := .ref (b + 7)) d_X8_panel_61 fk_8_32 (o8_o H4) rfl ?_
  refine x_bipush (v := nI 20) (by decide) d_X8_panel_64 ?_
  refine x_iload rfl d_X8_panel_66 ?_
  refine x_imulN d_X8_panel_68 ?_
  refine x_iload_n rfl d_X8_panel_69 ?_
  refine x_iastore d_X8_panel_70 (o8_8 H4) (nIx_nI (j := 20 * (M 1 0)) (by omega) (by decide)) (Nat.le_trans (o8_B H4) (Nat.le_add_right _ _)) ?_
  have H8_8 := o8_ast8 (20 * (M 1 0)) (w) H4
  have f_9 := o8_f8 (20 * (M 1 0)) (w) H4 (F4) (by exact ⟨by omega, by omega⟩)
  refine x_aload_n rfl d_X8_panel_71 ?_
  refine x_getf co_all (v := .ref (b + 1)) d_X8_panel_72 fk_8_13 (o8_o H8_8) rfl ?_
  refine x_iload rfl d_X8_panel_75 ?_
  refine x_iconst (v := nI 1) (by decide) d_X8_panel_77 ?_
  refine x_iastore d_X8_panel_78 (o8_2 H8_8) (nIx_nI (j := M 1 0) (by omega) (by decide)) (Nat.le_trans (o8_B H8_8) (Nat.le_add_right _ _)) ?_
  have H10_8 := o8_ast2 (M 1 0) (1) H8_8
  have f_11 := o8_f2 (M 1 0) (1) H8_8 (f_9) (by exact ⟨by omega, by omega⟩)
  refine x_iload rfl d_X8_panel_79 ?_
  exact x_ireturn d_X8_panel_81 rfl rfl (f_11).1 (f_11).2.1 (Nat.zero_le _) (Nat.zero_le _) (⟨by rw [e1], f_11, _, H10_8, rW_pn1 W O hn z z2 hw1 hw2⟩)
theorem tp_m {d l j : Nat} (hl : 1 ≤ l) : d / l * j + d % l * j / l = d * j / l := by
  have h : d * j = d % l * j + l * (d / l * j) := by
    rw [← Nat.mul_assoc, ← Nat.add_mul, Nat.mod_add_div]
  rw [h, Nat.add_mul_div_left _ _ (by omega), Nat.add_comm]
theorem tp_lt {u l d j : Nat} (hd : 1 ≤ d) (hl : 1 ≤ l) (hj : j < tpT u l d) : ¬ d * j / l = u := fun e => by
  unfold tpT at hj
  have h1 : u * l ≤ d * j := by
    have := Nat.div_mul_le_self (d * j) l
    rwa [e] at this
  have h2 : (j + 1) * d ≤ u * l + d - 1 := (Nat.le_div_iff_mul_le (by omega)).mp hj
  rw [Nat.add_mul, Nat.one_mul, Nat.mul_comm j d] at h2
  omega
theorem tp_no {u l d j : Nat} (hd : 1 ≤ d) (hl : 1 ≤ l) (hn : ¬ tpH u l d) : ¬ d * j / l = u := fun e => by
  have h3 : ¬ j < tpT u l d := fun z => tp_lt hd hl z e
  refine hn ?_
  unfold tpH
  have h1 : d * tpT u l d / l ≤ u := by
    have h4 : d * tpT u l d / l ≤ d * j / l := Nat.div_le_div_right (Nat.mul_le_mul_left d (by omega))
    rwa [e] at h4
  have h2 : u ≤ d * tpT u l d / l := by
    rw [Nat.le_div_iff_mul_le (by omega)]
    unfold tpT
    have := Nat.div_add_mod (u * l + d - 1) d
    have := Nat.mod_lt (u * l + d - 1) (show d > 0 by omega)
    omega
  omega
theorem lp_mtpA {h : nPH} {Post : Option Value → nPH → Prop} {b : Nat} {M : Nat → Nat → Nat} {w v d : Nat} (hw2 : w ≤ 1000) (hv2 : v ≤ w) (hd1 : 1 ≤ d) (hd2 : d ≤ 400) {l : Nat} (hl : 1 ≤ l) (hl2 : l ≤ 400) (hno : ∀ j, ¬ d * j / l = w - v) (kk : nG YX8_taper (nKy YX8_taper h.1 h.2.1 Post) 0 0 109 [some (.ref (b)), some (.int (nI (w))), some (.int (nI (v))), some (.int (nI (d))), some (.int (nI (l))), none] [] h) : ∀ n j : Nat, j + n = w - v + 1 → nG YX8_taper (nKy YX8_taper h.1 h.2.1 Post) 0 0 48 [some (.ref (b)), some (.int (nI (w))), some (.int (nI (v))), some (.int (nI (d))), some (.int (nI (l))), some (.int (nI (j)))] [] h := by
  intro n
  induction n with
  | zero =>
    intro j hj
    refine x_iload rfl d_X8_taper_48 ?_
    refine x_iload_n rfl d_X8_taper_50 ?_
    refine x_iload_n rfl d_X8_taper_51 ?_
    refine x_isubN d_X8_taper_52 (by omega) ?_
    refine x_icmp_gtN (tgt := 109) d_X8_taper_53 (by decide) (by omega) (by omega) (fun c_1 => ?_) (fun c_1 => by exfalso; omega)
    exact nG.sub (by exact (And.intro rfl (And.intro rfl (And.intro rfl (And.intro rfl (And.intro rfl True.intro)))))) kk
  | succ n ih =>
    intro j hj
    have b1 : d * j ≤ 400 * 1000 := Nat.mul_le_mul hd2 (by omega)
    have b2 := Nat.div_le_self (d * j) l
    have b3 : d % l * j ≤ 400 * 1000 := Nat.mul_le_mul (Nat.le_trans (Nat.mod_le _ _) hd2) (by omega)
    have b4 := Nat.div_le_self d l
    refine x_iload rfl d_X8_taper_48 ?_
    refine x_iload_n rfl d_X8_taper_50 ?_
    refine x_iload_n rfl d_X8_taper_51 ?_
    refine x_isubN d_X8_taper_52 (by omega) ?_
    refine x_icmp_gtN (tgt := 109) d_X8_taper_53 (by decide) (by omega) (by omega) (fun c_1 => by exfalso; omega) (fun c_1 => ?_)
    refine x_iload_n rfl d_X8_taper_56 ?_
    refine x_iload rfl d_X8_taper_57 ?_
    refine x_idivN d_X8_taper_59 (by omega) (by omega) (by omega) ?_
    refine x_iload rfl d_X8_taper_60 ?_
    refine x_imulN d_X8_taper_62 ?_
    refine x_iload_n rfl d_X8_taper_63 ?_
    refine x_iload rfl d_X8_taper_64 ?_
    refine x_iremN d_X8_taper_66 (by omega) (by omega) (by omega) ?_
    refine x_iload rfl d_X8_taper_67 ?_
    refine x_imulN d_X8_taper_69 ?_
    refine x_iload rfl d_X8_taper_70 ?_
    refine x_idivN d_X8_taper_72 (by omega) (by omega) (by omega) ?_
    refine x_iaddN d_X8_taper_73 ?_
    rw [tp_m hl]
    refine x_iload_n rfl d_X8_taper_74 ?_
    refine x_iload_n rfl d_X8_taper_75 ?_
    refine x_isubN d_X8_taper_76 (by omega) ?_
    refine x_icmp_eqN (tgt := 83) d_X8_taper_77 (by decide) (by omega) (by omega) (fun c_7 => by exfalso; exact hno j c_7) (fun c_7 => ?_)
    refine x_goto (tgt := 103) d_X8_taper_80 (by decide) ?_
    refine x_iincN (m := 1) d_X8_taper_103 rfl (by decide) (Nat.le_of_ble_eq_true rfl) ?_
    refine x_goto (tgt := 48) d_X8_taper_106 (by decide) ?_
    exact ih (j + 1) (by omega)
theorem lp_mtpB {h : nPH} {Post : Option Value → nPH → Prop} {b : Nat} {M : Nat → Nat → Nat} {w v d : Nat} (hw2 : w ≤ 1000) (hv2 : v ≤ w) (hd1 : 1 ≤ d) (hd2 : d ≤ 400) (H : o8 h b M) {l : Nat} (hl : 1 ≤ l) (hl2 : l ≤ d) (hyes : tpH (w - v) l d) (kk : ∀ h2, nFr (nIv b 24) h h2 → o8 h2 b (u2 (u2 (u2 M 31 0 l) 32 0 (tpT (w - v) l d)) 33 0 d) → Post (some (.int (nI l))) h2) : ∀ n j : Nat, j + n = tpT (w - v) l d → nG YX8_taper (nKy YX8_taper h.1 h.2.1 Post) 0 0 48 [some (.ref (b)), some (.int (nI (w))), some (.int (nI (v))), some (.int (nI (d))), some (.int (nI (l))), some (.int (nI (j)))] [] h := by
  intro n
  have ht := tpT_le (u := w - v) hl2 hd1
  induction n with
  | zero =>
    intro j hj
    have b1 : d * j ≤ 400 * 1000 := Nat.mul_le_mul hd2 (by omega)
    have b2 := Nat.div_le_self (d * j) l
    have b3 : d % l * j ≤ 400 * 1000 := Nat.mul_le_mul (Nat.le_trans (Nat.mod_le _ _) hd2) (by omega)
    have b4 := Nat.div_le_self d l
    refine x_iload rfl d_X8_taper_48 ?_
    refine x_iload_n rfl d_X8_taper_50 ?_
    refine x_iload_n rfl d_X8_taper_51 ?_
    refine x_isubN d_X8_taper_52 (by omega) ?_
    refine x_icmp_gtN (tgt := 109) d_X8_taper_53 (by decide) (by omega) (by omega) (fun c_1 => by exfalso; omega) (fun c_1 => ?_)
    refine x_iload_n rfl d_X8_taper_56 ?_
    refine x_iload rfl d_X8_taper_57 ?_
    refine x_idivN d_X8_taper_59 (by omega) (by omega) (by omega) ?_
    refine x_iload rfl d_X8_taper_60 ?_
    refine x_imulN d_X8_taper_62 ?_
    refine x_iload_n rfl d_X8_taper_63 ?_
    refine x_iload rfl d_X8_taper_64 ?_
    refine x_iremN d_X8_taper_66 (by omega) (by omega) (by omega) ?_
    refine x_iload rfl d_X8_taper_67 ?_
    refine x_imulN d_X8_taper_69 ?_
    refine x_iload rfl d_X8_taper_70 ?_
    refine x_idivN d_X8_taper_72 (by omega) (by omega) (by omega) ?_
    refine x_iaddN d_X8_taper_73 ?_
    rw [tp_m hl]
    refine x_iload_n rfl d_X8_taper_74 ?_
    refine x_iload_n rfl d_X8_taper_75 ?_
    refine x_isubN d_X8_taper_76 (by omega) ?_
    refine x_icmp_eqN (tgt := 83) d_X8_taper_77 (by decide) (by omega) (by omega) (fun c_7 => ?_) (fun c_7 => by exfalso; exact c_7 (by rw [show j = tpT (w - v) l d by omega]; exact hyes))
    refine x_aload_n rfl d_X8_taper_83 ?_
    refine x_iload rfl d_X8_taper_84 ?_
    refine x_putf co_all d_X8_taper_86 fk_8_197 ft_8_31 (o8_o H) (Nat.le_of_ble_eq_true rfl) rfl rfl (o8_B H) ?_
    have H3_8 := o8_put31 (l) H
    have f_4 := o8_g31 (l) H ((nFr.rf (S := nIv b 24) (h := h))) (by exact ⟨by omega, by omega⟩)
    refine x_aload_n rfl d_X8_taper_89 ?_
    refine x_iload rfl d_X8_taper_90 ?_
    refine x_putf co_all d_X8_taper_92 fk_8_200 ft_8_32 (o8_o H3_8) (Nat.le_of_ble_eq_true rfl) rfl rfl (o8_B H3_8) ?_
    have H5_8 := o8_put32 (j) H3_8
    have f_6 := o8_g32 (j) H3_8 (f_4) (by exact ⟨by omega, by omega⟩)
    refine x_aload_n rfl d_X8_taper_95 ?_
    refine x_iload_n rfl d_X8_taper_96 ?_
    refine x_putf co_all d_X8_taper_97 fk_8_203 ft_8_33 (o8_o H5_8) (Nat.le_of_ble_eq_true rfl) rfl rfl (o8_B H5_8) ?_
    have H7_8 := o8_put33 (d) H5_8
    have f_8 := o8_g33 (d) H5_8 (f_6) (by exact ⟨by omega, by omega⟩)
    refine x_iload rfl d_X8_taper_100 ?_
    exact x_ireturn d_X8_taper_102 rfl rfl (f_8).1 (f_8).2.1 (Nat.zero_le _) (Nat.zero_le _) (kk _ f_8 (by rw [← show j = tpT (w - v) l d by omega]; exact H7_8))
  | succ n ih =>
    intro j hj
    have b1 : d * j ≤ 400 * 1000 := Nat.mul_le_mul hd2 (by omega)
    have b2 := Nat.div_le_self (d * j) l
    have b3 : d % l * j ≤ 400 * 1000 := Nat.mul_le_mul (Nat.le_trans (Nat.mod_le _ _) hd2) (by omega)
    have b4 := Nat.div_le_self d l
    refine x_iload rfl d_X8_taper_48 ?_
    refine x_iload_n rfl d_X8_taper_50 ?_
    refine x_iload_n rfl d_X8_taper_51 ?_
    refine x_isubN d_X8_taper_52 (by omega) ?_
    refine x_icmp_gtN (tgt := 109) d_X8_taper_53 (by decide) (by omega) (by omega) (fun c_1 => by exfalso; omega) (fun c_1 => ?_)
    refine x_iload_n rfl d_X8_taper_56 ?_
    refine x_iload rfl d_X8_taper_57 ?_
    refine x_idivN d_X8_taper_59 (by omega) (by omega) (by omega) ?_
    refine x_iload rfl d_X8_taper_60 ?_
    refine x_imulN d_X8_taper_62 ?_
    refine x_iload_n rfl d_X8_taper_63 ?_
    refine x_iload rfl d_X8_taper_64 ?_
    refine x_iremN d_X8_taper_66 (by omega) (by omega) (by omega) ?_
    refine x_iload rfl d_X8_taper_67 ?_
    refine x_imulN d_X8_taper_69 ?_
    refine x_iload rfl d_X8_taper_70 ?_
    refine x_idivN d_X8_taper_72 (by omega) (by omega) (by omega) ?_
    refine x_iaddN d_X8_taper_73 ?_
    rw [tp_m hl]
    refine x_iload_n rfl d_X8_taper_74 ?_
    refine x_iload_n rfl d_X8_taper_75 ?_
    refine x_isubN d_X8_taper_76 (by omega) ?_
    refine x_icmp_eqN (tgt := 83) d_X8_taper_77 (by decide) (by omega) (by omega) (fun c_7 => by exfalso; exact tp_lt hd1 hl (by omega) c_7) (fun c_7 => ?_)
    refine x_goto (tgt := 103) d_X8_taper_80 (by decide) ?_
    refine x_iincN (m := 1) d_X8_taper_103 rfl (by decide) (Nat.le_of_ble_eq_true rfl) ?_
    refine x_goto (tgt := 48) d_X8_taper_106 (by decide) ?_
    exact ih (j + 1) (by omega)
theorem lp_mtpO {h : nPH} {Post : Option Value → nPH → Prop} {b : Nat} {M : Nat → Nat → Nat} {w v d l0 : Nat} (hw2 : w ≤ 1000) (hv2 : v ≤ w) (hd1 : 1 ≤ d) (hd2 : d ≤ 400) (H : o8 h b M) (h1 : 1 ≤ l0) (h2 : l0 ≤ d) (hno : ∀ l, 1 ≤ l → l < l0 → ¬ tpH (w - v) l d) (hyes : tpH (w - v) l0 d) (kk : ∀ h2, nFr (nIv b 24) h h2 → o8 h2 b (u2 (u2 (u2 M 31 0 l0) 32 0 (tpT (w - v) l0 d)) 33 0 d) → Post (some (.int (nI l0))) h2) : ∀ n l : Nat, 1 ≤ l → l + n = l0 → nG YX8_taper (nKy YX8_taper h.1 h.2.1 Post) 0 0 39 [some (.ref (b)), some (.int (nI (w))), some (.int (nI (v))), some (.int (nI (d))), some (.int (nI (l))), none] [] h := by
  intro n
  induction n with
  | zero =>
    intro l hl hn
    refine x_iload rfl d_X8_taper_39 ?_
    refine x_iload_n rfl d_X8_taper_41 ?_
    refine x_icmp_gtN (tgt := 115) d_X8_taper_42 (by decide) (by omega) (by omega) (fun c_1 => by exfalso; omega) (fun c_1 => ?_)
    refine x_iconst (v := nI 0) (by decide) d_X8_taper_45 ?_
    refine x_istore d_X8_taper_46 (Nat.le_of_ble_eq_true rfl) ?_
    have e : l = l0 := by omega
    subst e
    exact lp_mtpB hw2 hv2 hd1 hd2 H hl h2 hyes kk _ 0 (Nat.zero_add _)
  | succ n ih =>
    intro l hl hn
    refine x_iload rfl d_X8_taper_39 ?_
    refine x_iload_n rfl d_X8_taper_41 ?_
    refine x_icmp_gtN (tgt := 115) d_X8_taper_42 (by decide) (by omega) (by omega) (fun c_1 => by exfalso; omega) (fun c_1 => ?_)
    refine x_iconst (v := nI 0) (by decide) d_X8_taper_45 ?_
    refine x_istore d_X8_taper_46 (Nat.le_of_ble_eq_true rfl) ?_
    refine lp_mtpA (M := M) hw2 hv2 hd1 hd2 hl (by omega) (fun j => tp_no hd1 hl (hno l hl (by omega))) ?_ _ 0 (Nat.zero_add _)
    refine x_iincN (m := 1) d_X8_taper_109 rfl (by decide) (Nat.le_of_ble_eq_true rfl) ?_
    refine x_goto (tgt := 39) d_X8_taper_112 (by decide) ?_
    exact ih (l + 1) (by omega) (by omega)
theorem md_taperW {h : nPH} {b : Nat} {M V : Nat → Nat → Nat} {P : Nat → Nat → Nat → Nat} {R : Nat → Nat → Nat → Nat → Nat} {E Y T S : Nat → Nat → Nat} (H : o8 h b M) (W : rW M V P R E Y T S) (O : kO V P R) {w v d : Int32} (hw : ¬ (nI 1 ≤ w ∧ w ≤ nI 1000)) : nRd YX8_taper [.ref (b), .int (w), .int (v), .int (d)] h (.int (-1)) := by
  refine nSp_of (by decide +kernel) rfl (Nat.le_of_ble_eq_true rfl) (ls := [some (.ref (b)), some (.int (w)), some (.int (v)), some (.int (d)), none, none]) (by exact (And.intro rfl (And.intro rfl (And.intro rfl (And.intro rfl True.intro))))) ?_
  refine x_iload_n rfl d_X8_taper_0 ?_
  refine x_iconst (v := nI 1) (by decide) d_X8_taper_1 ?_
  refine x_icmp_lt (tgt := 34) d_X8_taper_2 (by decide) (fun c_a => ?_) (fun c_a => ?_)
  · refine x_iconst (v := -1) (by decide) d_X8_taper_34 ?_
    exact x_ireturn d_X8_taper_35 rfl rfl rfl rfl (Nat.zero_le _) (Nat.zero_le _) (⟨rfl, rfl⟩)
  · refine x_iload_n rfl d_X8_taper_5 ?_
    refine x_sipush (v := nI 1000) (by decide) d_X8_taper_6 ?_
    refine x_icmp_gt (tgt := 34) d_X8_taper_9 (by decide) (fun c_b => ?_) (fun c_b => by exfalso; exact hw ⟨Int32.not_lt.mp c_a, Int32.not_lt.mp c_b⟩)
    refine x_iconst (v := -1) (by decide) d_X8_taper_34 ?_
    exact x_ireturn d_X8_taper_35 rfl rfl rfl rfl (Nat.zero_le _) (Nat.zero_le _) (⟨rfl, rfl⟩)
theorem md_taperV {h : nPH} {b : Nat} {M V : Nat → Nat → Nat} {P : Nat → Nat → Nat → Nat} {R : Nat → Nat → Nat → Nat → Nat} {E Y T S : Nat → Nat → Nat} (H : o8 h b M) (W : rW M V P R E Y T S) (O : kO V P R) {w : Nat} (hw1 : 1 ≤ w) (hw2 : w ≤ 1000) {v d : Int32} (hv : ¬ (nI 1 ≤ v ∧ v ≤ nI w)) : nRd YX8_taper [.ref (b), .int (nI (w)), .int (v), .int (d)] h (.int (-1)) := by
  refine nSp_of (by decide +kernel) rfl (Nat.le_of_ble_eq_true rfl) (ls := [some (.ref (b)), some (.int (nI (w))), some (.int (v)), some (.int (d)), none, none]) (by exact (And.intro rfl (And.intro rfl (And.intro rfl (And.intro rfl True.intro))))) ?_
  refine x_iload_n rfl d_X8_taper_0 ?_
  refine x_iconst (v := nI 1) (by decide) d_X8_taper_1 ?_
  refine x_icmp_ltN (tgt := 34) d_X8_taper_2 (by decide) (by omega) (by omega) (fun c_1 => by exfalso; omega) (fun c_1 => ?_)
  refine x_iload_n rfl d_X8_taper_5 ?_
  refine x_sipush (v := nI 1000) (by decide) d_X8_taper_6 ?_
  refine x_icmp_gtN (tgt := 34) d_X8_taper_9 (by decide) (by omega) (by omega) (fun c_2 => by exfalso; omega) (fun c_2 => ?_)
  refine x_iload_n rfl d_X8_taper_12 ?_
  refine x_iconst (v := nI 1) (by decide) d_X8_taper_13 ?_
  refine x_icmp_lt (tgt := 34) d_X8_taper_14 (by decide) (fun c_a => ?_) (fun c_a => ?_)
  · refine x_iconst (v := -1) (by decide) d_X8_taper_34 ?_
    exact x_ireturn d_X8_taper_35 rfl rfl rfl rfl (Nat.zero_le _) (Nat.zero_le _) (⟨rfl, rfl⟩)
  · refine x_iload_n rfl d_X8_taper_17 ?_
    refine x_iload_n rfl d_X8_taper_18 ?_
    refine x_icmp_gt (tgt := 34) d_X8_taper_19 (by decide) (fun c_b => ?_) (fun c_b => by exfalso; exact hv ⟨Int32.not_lt.mp c_a, Int32.not_lt.mp c_b⟩)
    refine x_iconst (v := -1) (by decide) d_X8_taper_34 ?_
    exact x_ireturn d_X8_taper_35 rfl rfl rfl rfl (Nat.zero_le _) (Nat.zero_le _) (⟨rfl, rfl⟩)
theorem md_taperD {h : nPH} {b : Nat} {M V : Nat → Nat → Nat} {P : Nat → Nat → Nat → Nat} {R : Nat → Nat → Nat → Nat → Nat} {E Y T S : Nat → Nat → Nat} (H : o8 h b M) (W : rW M V P R E Y T S) (O : kO V P R) {w : Nat} (hw1 : 1 ≤ w) (hw2 : w ≤ 1000) {v : Nat} (hv1 : 1 ≤ v) (hv2 : v ≤ w) {d : Int32} (hd : ¬ (nI 1 ≤ d ∧ d ≤ nI 400)) : nRd YX8_taper [.ref (b), .int (nI (w)), .int (nI (v)), .int (d)] h (.int (-1)) := by
  refine nSp_of (by decide +kernel) rfl (Nat.le_of_ble_eq_true rfl) (ls := [some (.ref (b)), some (.int (nI (w))), some (.int (nI (v))), some (.int (d)), none, none]) (by exact (And.intro rfl (And.intro rfl (And.intro rfl (And.intro rfl True.intro))))) ?_
  refine x_iload_n rfl d_X8_taper_0 ?_
  refine x_iconst (v := nI 1) (by decide) d_X8_taper_1 ?_
  refine x_icmp_ltN (tgt := 34) d_X8_taper_2 (by decide) (by omega) (by omega) (fun c_1 => by exfalso; omega) (fun c_1 => ?_)
  refine x_iload_n rfl d_X8_taper_5 ?_
  refine x_sipush (v := nI 1000) (by decide) d_X8_taper_6 ?_
  refine x_icmp_gtN (tgt := 34) d_X8_taper_9 (by decide) (by omega) (by omega) (fun c_2 => by exfalso; omega) (fun c_2 => ?_)
  refine x_iload_n rfl d_X8_taper_12 ?_
  refine x_iconst (v := nI 1) (by decide) d_X8_taper_13 ?_
  refine x_icmp_ltN (tgt := 34) d_X8_taper_14 (by decide) (by omega) (by omega) (fun c_3 => by exfalso; omega) (fun c_3 => ?_)
  refine x_iload_n rfl d_X8_taper_17 ?_
  refine x_iload_n rfl d_X8_taper_18 ?_
  refine x_icmp_gtN (tgt := 34) d_X8_taper_19 (by decide) (by omega) (by omega) (fun c_4 => by exfalso; omega) (fun c_4 => ?_)
  refine x_iload_n rfl d_X8_taper_22 ?_
  refine x_iconst (v := nI 1) (by decide) d_X8_taper_23 ?_
  refine x_icmp_lt (tgt := 34) d_X8_taper_24 (by decide) (fun c_a => ?_) (fun c_a => ?_)
  · refine x_iconst (v := -1) (by decide) d_X8_taper_34 ?_
    exact x_ireturn d_X8_taper_35 rfl rfl rfl rfl (Nat.zero_le _) (Nat.zero_le _) (⟨rfl, rfl⟩)
  · refine x_iload_n rfl d_X8_taper_27 ?_
    refine x_sipush (v := nI 400) (by decide) d_X8_taper_28 ?_
    refine x_icmp_le (tgt := 36) d_X8_taper_31 (by decide) (fun c_b => by exfalso; exact hd ⟨Int32.not_lt.mp c_a, c_b⟩) (fun c_b => ?_)
    refine x_iconst (v := -1) (by decide) d_X8_taper_34 ?_
    exact x_ireturn d_X8_taper_35 rfl rfl rfl rfl (Nat.zero_le _) (Nat.zero_le _) (⟨rfl, rfl⟩)
theorem md_taper {h : nPH} {b : Nat} {M V : Nat → Nat → Nat} {P : Nat → Nat → Nat → Nat} {R : Nat → Nat → Nat → Nat → Nat} {E Y T S : Nat → Nat → Nat} (H : o8 h b M) (W : rW M V P R E Y T S) (O : kO V P R) {w : Nat} (hw1 : 1 ≤ w) (hw2 : w ≤ 1000) {v : Nat} (hv1 : 1 ≤ v) (hv2 : v ≤ w) {d : Nat} (hd1 : 1 ≤ d) (hd2 : d ≤ 400) {l0 : Nat} (h1 : 1 ≤ l0) (h2 : l0 ≤ d) (hno : ∀ l, 1 ≤ l → l < l0 → ¬ tpH (w - v) l d) (hyes : tpH (w - v) l0 d) : nWv YX8_taper [.ref b, .int (nI w), .int (nI v), .int (nI d)] h (some (.int (nI l0))) (fun h2 => nFr (nIv b 24) h h2 ∧ ∃ M2, o8 h2 b M2 ∧ rW M2 V P R E Y (u2 (u2 (u2 T 0 0 d) 1 0 l0) 2 0 (tpT (w - v) l0 d)) S) := by
  refine nSp_of (by decide +kernel) rfl (Nat.le_of_ble_eq_true rfl) (ls := [some (.ref (b)), some (.int (nI (w))), some (.int (nI (v))), some (.int (nI (d))), none, none]) (by exact (And.intro rfl (And.intro rfl (And.intro rfl (And.intro rfl True.intro))))) ?_
  refine x_iload_n rfl d_X8_taper_0 ?_
  refine x_iconst (v := nI 1) (by decide) d_X8_taper_1 ?_
  refine x_icmp_ltN (tgt := 34) d_X8_taper_2 (by decide) (by omega) (by omega) (fun c_1 => by exfalso; omega) (fun c_1 => ?_)
  refine x_iload_n rfl d_X8_taper_5 ?_
  refine x_sipush (v := nI 1000) (by decide) d_X8_taper_6 ?_
  refine x_icmp_gtN (tgt := 34) d_X8_taper_9 (by decide) (by omega) (by omega) (fun c_2 => by exfalso; omega) (fun c_2 => ?_)
  refine x_iload_n rfl d_X8_taper_12 ?_
  refine x_iconst (v := nI 1) (by decide) d_X8_taper_13 ?_
  refine x_icmp_ltN (tgt := 34) d_X8_taper_14 (by decide) (by omega) (by omega) (fun c_3 => by exfalso; omega) (fun c_3 => ?_)
  refine x_iload_n rfl d_X8_taper_17 ?_
  refine x_iload_n rfl d_X8_taper_18 ?_
  refine x_icmp_gtN (tgt := 34) d_X8_taper_19 (by decide) (by omega) (by omega) (fun c_4 => by exfalso; omega) (fun c_4 => ?_)
  refine x_iload_n rfl d_X8_taper_22 ?_
  refine x_iconst (v := nI 1) (by decide) d_X8_taper_23 ?_
  refine x_icmp_ltN (tgt := 34) d_X8_taper_24 (by decide) (by omega) (by omega) (fun c_5 => by exfalso; omega) (fun c_5 => ?_)
  refine x_iload_n rfl d_X8_taper_27 ?_
  refine x_sipush (v := nI 400) (by decide) d_X8_taper_28 ?_
  refine x_icmp_leN (tgt := 36) d_X8_taper_31 (by decide) (by omega) (by omega) (fun c_6 => ?_) (fun c_6 => by exfalso; omega)
  refine x_iconst (v := nI 1) (by decide) d_X8_taper_36 ?_
  refine x_istore d_X8_taper_37 (Nat.le_of_ble_eq_true rfl) ?_
  refine lp_mtpO hw2 hv2 hd1 hd2 H h1 h2 hno hyes (fun h2 F2 H2 => ⟨rfl, F2, _, H2, rW_out W (fun f i g1 g2 => by rw [u2_ne (by omega), u2_ne (by omega), u2_ne (by omega)]) (by rw [u2_ne (by omega), u2_ne (by omega), u2_ne (by omega)]) rfl ⟨W.1.2.1, fun i hi => W.1.2.2 i hi⟩ W.2.2.1 W.2.2.2.1 ⟨?_, fun _ => ⟨rfl, rfl, rfl⟩⟩ W.2.2.2.2.2⟩) _ 1 (Nat.le_refl _) (show 1 + (l0 - 1) = l0 by omega)
  show l0 = 0 ↔ d = 0
  omega
