/-! the law: its loop -/
theorem lw_X {sc L B a b i cu su : Nat} {xs : Nat → Int32} {h : nPH} (hL : L ≤ 3072) (hi : L < i + 6) (hi2 : i ≤ L + 6) (hB : h.2.1 = B) (hcu : cu ≤ 600000) (hsu : su ≤ 7302250) : nG YL_law (κL sc L xs B) cu su 18 [some (.ref (sc)), some (.ref (a)), some (.ref (b)), some (.int (nI (i)))] [] h := by
  have key : nI L - nI 6 < nI i := by
    rw [Int32.lt_iff_toInt_lt, nI_toInt (by omega)]
    by_cases h6 : 6 ≤ L
    · rw [nI_sub h6, nI_toInt (by omega)]
      omega
    · have hl : (nI L - nI 6).toInt < 0 := by
        match L, h6 with
        | 0, _ => decide
        | 1, _ => decide
        | 2, _ => decide
        | 3, _ => decide
        | 4, _ => decide
        | 5, _ => decide
        | n + 6, h6 => exact absurd (by omega) h6
      omega
  refine x_iload_n rfl d_L_law_18 ?_
  refine x_aload_n rfl d_L_law_19 ?_
  refine x_lslen d_L_law_20 hB ?_
  refine x_bipush (v := nI 6) (by decide) d_L_law_21 ?_
  refine x_isub d_L_law_23 ?_
  refine x_icmp_gtT (tgt := 1339) d_L_law_24 (by decide) key ?_
  refine x_iconst (v := nI 1) (by decide) d_L_law_1339 ?_
  exact x_lret d_L_law_1340 hB hcu hsu
theorem lw_lp {sc L B a b : Nat} {xs : Nat → Int32} (hL : L ≤ 3072) : ∀ (n i cu su : Nat) (h : nPH), L < i + 6 * n + 6 → i ≤ L + 6 → cu + 283 * n ≤ 600000 → su + 6091 * n ≤ 7302250 → h.2.1 = B → wB h a b → nG YL_law (κL sc L xs B) cu su 18 [some (.ref (sc)), some (.ref (a)), some (.ref (b)), some (.int (nI (i)))] [] h := by
  intro n
  induction n with
  | zero =>
    intro i cu su h h1 h2 hc hs hB G
    exact lw_X (a := a) (b := b) hL (by omega) h2 hB (by omega) (by omega)
  | succ n ih =>
    intro i cu su h h1 h2 hc hs hB G
    by_cases h6 : L < i + 6
    · exact lw_X (a := a) (b := b) hL h6 h2 hB (by omega) (by omega)
    have hi : i + 6 ≤ L := by omega
    have hc2 : cu + 283 ≤ 600000 := Nat.le_trans (Nat.add_le_add_left (Nat.le_mul_of_pos_right 283 (Nat.succ_pos n)) cu) hc
    have hs2 : su + 6091 ≤ 7302250 := Nat.le_trans (Nat.add_le_add_left (Nat.le_mul_of_pos_right 6091 (Nat.succ_pos n)) su) hs
    have hc3 : cu ≤ cu + 283 := Nat.le_add_right _ _
    have hs3 : su ≤ su + 6091 := Nat.le_add_right _ _
    have kk : ∀ (cu2 su2 : Nat) (h2 : nPH), cu2 ≤ cu + 283 → su2 ≤ su + 6091 → h2.2.1 = B → wB h2 a b → nG YL_law (κL sc L xs B) cu2 su2 1333 [some (.ref (sc)), some (.ref (a)), some (.ref (b)), some (.int (nI (i)))] [] h2 := fun cu2 su2 h2 q1 q2 q3 q4 => by
      refine x_iincN (m := 6) d_L_law_1333 rfl (by decide) (Nat.le_of_ble_eq_true rfl) ?_
      refine x_goto (tgt := 18) d_L_law_1336 (by decide) ?_
      exact ih (i + 6) cu2 su2 h2 (by omega) (by omega) (by omega) (by omega) q3 q4
    refine x_iload_n rfl d_L_law_18 ?_
    refine x_aload_n rfl d_L_law_19 ?_
    refine x_lslen d_L_law_20 hB ?_
    refine x_bipush (v := nI 6) (by decide) d_L_law_21 ?_
    refine x_isubN d_L_law_23 (by omega) ?_
    refine x_icmp_gtN (tgt := 1339) d_L_law_24 (by decide) (by omega) (by omega) (fun c_1 => by exfalso; omega) (fun c_1 => ?_)
    refine x_aload_n rfl d_L_law_27 ?_
    refine x_iload_n rfl d_L_law_28 ?_
    refine x_lsld d_L_law_29 hB (nIx_nI (j := i) (by omega) (by omega)) ?_
    refine x_bipush (v := nI 31) (by decide) d_L_law_30 ?_
    refine x_iand d_L_law_32 ?_
    obtain ⟨j, hj, ej⟩ := and31 (xs i)
    rw [ej]
    clear ej
    match j, hj with
    | 0, _ =>
      refine x_tableIn (off := 135) (tgt := 168) d_L_law_33 (by decide) (by decide) (by decide) (by decide) ?_
      exact lw_c0 hL hi hB G hc2 hs2 kk
    | 1, _ =>
      refine x_tableIn (off := 178) (tgt := 211) d_L_law_33 (by decide) (by decide) (by decide) (by decide) ?_
      exact lw_c1 hL hi hB G hc2 hs2 kk
    | 2, _ =>
      refine x_tableIn (off := 201) (tgt := 234) d_L_law_33 (by decide) (by decide) (by decide) (by decide) ?_
      exact lw_c2 hL hi hB G hc2 hs2 kk
    | 3, _ =>
      refine x_tableIn (off := 244) (tgt := 277) d_L_law_33 (by decide) (by decide) (by decide) (by decide) ?_
      exact lw_c3 hL hi hB G hc2 hs2 kk
    | 4, _ =>
      refine x_tableIn (off := 297) (tgt := 330) d_L_law_33 (by decide) (by decide) (by decide) (by decide) ?_
      exact lw_c4 hL hi hB G hc2 hs2 kk
    | 5, _ =>
      refine x_tableIn (off := 351) (tgt := 384) d_L_law_33 (by decide) (by decide) (by decide) (by decide) ?_
      exact lw_c5 hL hi hB G hc2 hs2 kk
    | 6, _ =>
      refine x_tableIn (off := 384) (tgt := 417) d_L_law_33 (by decide) (by decide) (by decide) (by decide) ?_
      exact lw_c6 hL hi hB G hc2 hs2 kk
    | 7, _ =>
      refine x_tableIn (off := 437) (tgt := 470) d_L_law_33 (by decide) (by decide) (by decide) (by decide) ?_
      exact lw_c7 hL hi hB G hc2 hs2 kk
    | 8, _ =>
      refine x_tableIn (off := 516) (tgt := 549) d_L_law_33 (by decide) (by decide) (by decide) (by decide) ?_
      exact lw_c8 hL hi hB G hc2 hs2 kk
    | 9, _ =>
      refine x_tableIn (off := 559) (tgt := 592) d_L_law_33 (by decide) (by decide) (by decide) (by decide) ?_
      exact lw_c9 hL hi hB G hc2 hs2 kk
    | 10, _ =>
      refine x_tableIn (off := 592) (tgt := 625) d_L_law_33 (by decide) (by decide) (by decide) (by decide) ?_
      exact lw_c10 hL hi hB G hc2 hs2 kk
    | 11, _ =>
      refine x_tableIn (off := 661) (tgt := 694) d_L_law_33 (by decide) (by decide) (by decide) (by decide) ?_
      exact lw_c11 hL hi hB G hc2 hs2 kk
    | 12, _ =>
      refine x_tableIn (off := 704) (tgt := 737) d_L_law_33 (by decide) (by decide) (by decide) (by decide) ?_
      exact lw_c12 hL hi hB G hc2 hs2 kk
    | 13, _ =>
      refine x_tableIn (off := 737) (tgt := 770) d_L_law_33 (by decide) (by decide) (by decide) (by decide) ?_
      exact lw_c13 hL hi hB G hc2 hs2 kk
    | 14, _ =>
      refine x_tableIn (off := 780) (tgt := 813) d_L_law_33 (by decide) (by decide) (by decide) (by decide) ?_
      exact lw_c14 hL hi hB G hc2 hs2 kk
    | 15, _ =>
      refine x_tableIn (off := 803) (tgt := 836) d_L_law_33 (by decide) (by decide) (by decide) (by decide) ?_
      exact lw_c15 hL hi hB G hc2 hs2 kk
    | 16, _ =>
      refine x_tableIn (off := 846) (tgt := 879) d_L_law_33 (by decide) (by decide) (by decide) (by decide) ?_
      exact lw_c16 hL hi hB G hc2 hs2 kk
    | 17, _ =>
      refine x_tableIn (off := 869) (tgt := 902) d_L_law_33 (by decide) (by decide) (by decide) (by decide) ?_
      exact lw_c17 hL hi hB G hc2 hs2 kk
    | 18, _ =>
      refine x_tableIn (off := 902) (tgt := 935) d_L_law_33 (by decide) (by decide) (by decide) (by decide) ?_
      exact lw_c18 hL hi hB G hc2 hs2 kk
    | 19, _ =>
      refine x_tableIn (off := 925) (tgt := 958) d_L_law_33 (by decide) (by decide) (by decide) (by decide) ?_
      exact lw_c19 hL hi hB G hc2 hs2 kk
    | 20, _ =>
      refine x_tableIn (off := 968) (tgt := 1001) d_L_law_33 (by decide) (by decide) (by decide) (by decide) ?_
      exact lw_c20 hL hi hB G hc2 hs2 kk
    | 21, _ =>
      refine x_tableIn (off := 991) (tgt := 1024) d_L_law_33 (by decide) (by decide) (by decide) (by decide) ?_
      exact lw_c21 hL hi hB G hc2 hs2 kk
    | 22, _ =>
      refine x_tableIn (off := 1024) (tgt := 1057) d_L_law_33 (by decide) (by decide) (by decide) (by decide) ?_
      exact lw_c22 hL hi hB G hc2 hs2 kk
    | 23, _ =>
      refine x_tableIn (off := 1047) (tgt := 1080) d_L_law_33 (by decide) (by decide) (by decide) (by decide) ?_
      exact lw_c23 hL hi hB G hc2 hs2 kk
    | 24, _ =>
      refine x_tableIn (off := 1080) (tgt := 1113) d_L_law_33 (by decide) (by decide) (by decide) (by decide) ?_
      exact lw_c24 hL hi hB G hc2 hs2 kk
    | 25, _ =>
      refine x_tableIn (off := 1123) (tgt := 1156) d_L_law_33 (by decide) (by decide) (by decide) (by decide) ?_
      exact lw_c25 hL hi hB G hc2 hs2 kk
    | 26, _ =>
      refine x_tableIn (off := 1177) (tgt := 1210) d_L_law_33 (by decide) (by decide) (by decide) (by decide) ?_
      exact lw_c26 hL hi hB G hc2 hs2 kk
    | 27, _ =>
      refine x_tableIn (off := 1221) (tgt := 1254) d_L_law_33 (by decide) (by decide) (by decide) (by decide) ?_
      exact lw_c27 hL hi hB G hc2 hs2 kk
    | 28, _ =>
      refine x_tableIn (off := 1244) (tgt := 1277) d_L_law_33 (by decide) (by decide) (by decide) (by decide) ?_
      exact lw_c28 hL hi hB G hc2 hs2 kk
    | 29, _ =>
      refine x_tableIn (off := 1267) (tgt := 1300) d_L_law_33 (by decide) (by decide) (by decide) (by decide) ?_
      exact lw_c29 hL hi hB G hc2 hs2 kk
    | 30, _ =>
      refine x_tableOut (tgt := 1333) d_L_law_33 (Or.inr (by decide)) (by decide) ?_
      exact kk cu su h hc3 hs3 hB G
    | 31, _ =>
      refine x_tableOut (tgt := 1333) d_L_law_33 (Or.inr (by decide)) (by decide) ?_
      exact kk cu su h hc3 hs3 hB G
    | j + 32, hj => exact absurd hj (by omega)
