/-! the loads: down the panel -/
theorem sm_z {f : Nat → Nat} {a n : Nat} (h : a ≤ n) (hz : ∀ k, a ≤ k → k < n → f k = 0) : fb_sm f n = fb_sm f a := by
  induction n with
  | zero => rw [show a = 0 by omega]
  | succ n ih =>
    rcases Nat.lt_or_ge n a with z | z
    · rw [show a = n + 1 by omega]
    · rw [fb_sm_succ, hz n z (by omega), Nat.add_zero]
      exact ih z (fun k h1 h2 => hz k h1 (by omega))
theorem sm_0 {f : Nat → Nat} {n : Nat} (hz : ∀ k, k < n → f k = 0) : fb_sm f n = 0 := sm_z (Nat.zero_le n) (fun k _ h => hz k h)
theorem sm_sw (f : Nat → Nat → Nat) (n : Nat) : ∀ m, fb_sm (fun j => fb_sm (fun q => f j q) n) m = fb_sm (fun q => fb_sm (fun j => f j q) m) n
  | 0 => (sm_0 (fun _ _ => rfl)).symm
  | m + 1 => by
    rw [fb_sm_succ, sm_sw f n m, ← fb_sm_add]
    rfl
theorem sm_mr (f : Nat → Nat) (c : Nat) : ∀ n, fb_sm (fun k => f k * c) n = fb_sm f n * c
  | 0 => (Nat.zero_mul c).symm
  | n + 1 => by rw [fb_sm_succ, sm_mr f c n, fb_sm_succ, Nat.add_mul]
def gH (D E : Nat → Nat → Nat) (r j q : Nat) : Nat := nb (iwh D j q) * (E 2 (20 * q + r) / E 3 q)
theorem gH_0 {D E : Nat → Nat → Nat} {r j : Nat} : fb_sm (gH D E r j) (D 4 j + 0) = 0 := sm_0 (fun q hq => by
  unfold gH
  rw [iwh_o (by omega), Nat.zero_mul])
theorem gH_n {D E : Nat → Nat → Nat} {r j : Nat} (h : D 4 j + D 5 j ≤ 24) : fb_sm (gH D E r j) 24 = fb_sm (gH D E r j) (D 4 j + D 5 j) := sm_z h (fun q h1 h2 => by
  unfold gH
  rw [iwh_o (by omega), Nat.zero_mul])
theorem gH_s0 {D E : Nat → Nat → Nat} {r j s : Nat} (h : s < D 5 j) (z : (D 6 j).testBit s = true ∨ E 3 (D 4 j + s) = 0) : fb_sm (gH D E r j) (D 4 j + (s + 1)) = fb_sm (gH D E r j) (D 4 j + s) := by
  show fb_sm (gH D E r j) (D 4 j + s) + gH D E r j (D 4 j + s) = _
  unfold gH
  rw [iwh_s h]
  rcases z with z | z
  · rw [z]
    show _ + 0 * _ = _
    rw [Nat.zero_mul, Nat.add_zero]
  · rw [z, Nat.div_zero, Nat.mul_zero, Nat.add_zero]
theorem gH_s1 {D E : Nat → Nat → Nat} {r j s : Nat} (h : s < D 5 j) (z : (D 6 j).testBit s = false) : fb_sm (gH D E r j) (D 4 j + (s + 1)) = fb_sm (gH D E r j) (D 4 j + s) + E 2 (20 * (D 4 j + s) + r) / E 3 (D 4 j + s) := by
  show fb_sm (gH D E r j) (D 4 j + s) + gH D E r j (D 4 j + s) = _
  unfold gH
  rw [iwh_s h, z]
  show _ + 1 * _ = _
  rw [Nat.one_mul]
theorem ho_oo {D E0 E : Nat → Nat → Nat} {r j v : Nat} (O : (∀ f i, f ≠ 2 → E f i = E0 f i) ∧ (∀ k r2, r2 < 20 → r2 ≠ r + 1 → E 2 (20 * k + r2) = E0 2 (20 * k + r2))) (hr : r + 1 < 20) : (∀ f i, f ≠ 2 → u2 E 2 (20 * j + (r + 1)) v f i = E0 f i) ∧ (∀ k r2, r2 < 20 → r2 ≠ r + 1 → u2 E 2 (20 * j + (r + 1)) v 2 (20 * k + r2) = E0 2 (20 * k + r2)) :=
  ⟨fun f i hf => (u2_ne (by omega)).trans (O.1 f i hf), fun k r2 h1 h2 => (u2_ne (by omega)).trans (O.2 k r2 h1 h2)⟩
theorem ho_dn {D E0 E : Nat → Nat → Nat} {r j v : Nat} (C : (∀ j2, j2 < j → E 2 (20 * j2 + (r + 1)) = fb_sm (gH D E0 r j2) 24)) : ∀ j2, j2 < j → u2 E 2 (20 * j + (r + 1)) v 2 (20 * j2 + (r + 1)) = fb_sm (gH D E0 r j2) 24 := fun j2 h => (u2_ne (by omega)).trans (C j2 h)
theorem lp_ho1 {c b r : Nat} {D E0 : Nat → Nat → Nat} (Q : rOK D) (hf : hFit D) (hr : r + 1 < 20) (hb : ∀ j q, j < D 0 0 → iwh D j q = true → E0 2 (20 * q + r) < 2 ^ 63) (h3 : ∀ k, k < 24 → E0 3 k ≤ 24) (hcb : ap c 23 b 7) {h0 : nPH} (Hb : o3 h0 b D) {j : Nat} (hj : j < D 0 0) (K : ∀ (h : nPH) (E : Nat → Nat → Nat), nFr (nIv c 23) h0 h → o1 h c E → ((∀ f i, f ≠ 2 → E f i = E0 f i) ∧ (∀ k r2, r2 < 20 → r2 ≠ r + 1 → E 2 (20 * k + r2) = E0 2 (20 * k + r2))) → (∀ j2, j2 < j + 1 → E 2 (20 * j2 + (r + 1)) = fb_sm (gH D E0 r j2) 24) → nG YX1_handOn (nKy YX1_handOn h0.1 h0.2.1 (fun v h2 => v = none ∧ nFr (nIv c 23) h0 h2 ∧ ∃ E2, o1 h2 c E2 ∧ ((∀ f i, f ≠ 2 → E2 f i = E0 f i) ∧ (∀ k r2, r2 < 20 → r2 ≠ r + 1 → E2 2 (20 * k + r2) = E0 2 (20 * k + r2))) ∧ (∀ j2, j2 < D 0 0 → E2 2 (20 * j2 + (r + 1)) = fb_sm (gH D E0 r j2) 24))) 0 0 2 [some (.ref (c)), some (.int (nI (r))), some (.ref (b)), some (.int (nI (j + 1))), none, none] [] h) : ∀ n s : Nat, s + n = D 5 j → ∀ (h : nPH) (E : Nat → Nat → Nat), nFr (nIv c 23) h0 h → o1 h c E → ((∀ f i, f ≠ 2 → E f i = E0 f i) ∧ (∀ k r2, r2 < 20 → r2 ≠ r + 1 → E 2 (20 * k + r2) = E0 2 (20 * k + r2))) → (∀ j2, j2 < j → E 2 (20 * j2 + (r + 1)) = fb_sm (gH D E0 r j2) 24) → E 2 (20 * j + (r + 1)) = fb_sm (gH D E0 r j) (D 4 j + s) → nG YX1_handOn (nKy YX1_handOn h0.1 h0.2.1 (fun v h2 => v = none ∧ nFr (nIv c 23) h0 h2 ∧ ∃ E2, o1 h2 c E2 ∧ ((∀ f i, f ≠ 2 → E2 f i = E0 f i) ∧ (∀ k r2, r2 < 20 → r2 ≠ r + 1 → E2 2 (20 * k + r2) = E0 2 (20 * k + r2))) ∧ (∀ j2, j2 < D 0 0 → E2 2 (20 * j2 + (r + 1)) = fb_sm (gH D E0 r j2) 24))) 0 0 24 [some (.ref (c)), some (.int (nI (r))), some (.ref (b)), some (.int (nI (j))), some (.int (nI (s))), none] [] h := by
  intro n
  induction n with
  | zero =>
    intro s hs h E F H O C T
    have H3 := o3_fr Hb F (ap_fr (S := fun _ => True) (ap_sy hcb))
    have q0 := Q.1
    have q5 := Q.2 j (by omega)
    have q7 : D 4 j + D 5 j ≤ 24 := by have := hf j hj; omega
    refine x_iload rfl d_X1_handOn_24 ?_
    refine x_aload_n rfl d_X1_handOn_26 ?_
    refine x_getf co_all (v := .ref (b + 5)) d_X1_handOn_27 fk_1_62 (o3_o H3) rfl ?_
    refine x_iload_n rfl d_X1_handOn_30 ?_
    refine x_iaload d_X1_handOn_31 (o3_5 H3) (nIx_nI (j := j) (by omega) (by decide)) ?_
    refine x_icmp_geN (tgt := 102) d_X1_handOn_32 (by decide) (by omega) (by omega) (fun c_1 => ?_) (fun c_1 => by exfalso; omega)
    refine x_iincN (m := 1) d_X1_handOn_102 rfl (by decide) (Nat.le_of_ble_eq_true rfl) ?_
    refine x_goto (tgt := 2) d_X1_handOn_105 (by decide) ?_
    refine nG.sub (by exact (And.intro rfl (And.intro rfl (And.intro rfl (And.intro rfl True.intro))))) (K h E F H O (fun j2 h => lt1 (p := fun _ => True) (X := fun j2 => E 2 (20 * j2 + (r + 1)) = fb_sm (gH D E0 r j2) 24) (fun j2 h _ => C j2 h) (fun _ => ?_) j2 h True.intro))
    rw [T, gH_n q7, show s = D 5 j by omega]
  | succ n ih =>
    intro s hs h E F H O C T
    have H3 := o3_fr Hb F (ap_fr (S := fun _ => True) (ap_sy hcb))
    have q0 := Q.1
    have q5 := Q.2 j (by omega)
    have q7 : D 4 j + D 5 j ≤ 24 := by have := hf j hj; omega
    have e3 := O.1 3 (D 4 j + s) (by decide)
    have e4 := h3 (D 4 j + s) (by omega)
    cases hbs : (D 6 j).testBit s with
    | false =>
      refine x_iload rfl d_X1_handOn_24 ?_
      refine x_aload_n rfl d_X1_handOn_26 ?_
      refine x_getf co_all (v := .ref (b + 5)) d_X1_handOn_27 fk_1_62 (o3_o H3) rfl ?_
      refine x_iload_n rfl d_X1_handOn_30 ?_
      refine x_iaload d_X1_handOn_31 (o3_5 H3) (nIx_nI (j := j) (by omega) (by decide)) ?_
      refine x_icmp_geN (tgt := 102) d_X1_handOn_32 (by decide) (by omega) (by omega) (fun c_1 => by exfalso; omega) (fun c_1 => ?_)
      refine x_aload_n rfl d_X1_handOn_35 ?_
      refine x_iload_n rfl d_X1_handOn_36 ?_
      refine x_iload rfl d_X1_handOn_37 ?_
      refine x_rdV d_X1_handOn_39 lk_1_65 mo_X3_placeOfWholeSide vi_X3_placeOfWholeSide (sp_powIn H3 Q (k := j) (by omega) (j := s) (by omega) hbs) (o3_o H3) ⟨_, rfl, rfl⟩ rfl ⟨Nat.le_of_ble_eq_true rfl, Nat.le_of_ble_eq_true rfl⟩ rfl rfl (Nat.zero_le _) (Nat.zero_le _) (Nat.le_of_ble_eq_true rfl) rfl ?_
      refine x_istore d_X1_handOn_42 (Nat.le_of_ble_eq_true rfl) ?_
      refine x_iload rfl d_X1_handOn_44 ?_
      refine x_iconst (v := nI 0) (by decide) d_X1_handOn_46 ?_
      refine x_bipush (v := nI 23) (by decide) d_X1_handOn_47 ?_
      refine x_rdSN d_X1_handOn_49 lk_1_69 mo_X7_within sc_X7_within (sp_within (nI (D 4 j + s)) (nI (0)) (nI (23))) rfl ⟨Nat.le_of_ble_eq_true rfl, Nat.le_of_ble_eq_true rfl⟩ rfl rfl (Nat.zero_le _) (Nat.zero_le _) (Nat.le_of_ble_eq_true rfl) rfl ?_
      rw [nB_T (show nI 0 ≤ nI (D 4 j + s) ∧ nI (D 4 j + s) ≤ nI 23 from ⟨(nI_leI (by decide) (by omega)).mpr (by omega), (nI_leI (by omega) (by decide)).mpr (by omega)⟩)]
      refine x_if_eqN (tgt := 96) d_X1_handOn_52 (by decide) (by omega) (fun c_2 => by exfalso; omega) (fun c_2 => ?_)
      refine x_aload_n rfl d_X1_handOn_55 ?_
      refine x_getf co_all (v := .ref (c + 22)) d_X1_handOn_56 fk_1_16 (o1_o H) rfl ?_
      refine x_iload rfl d_X1_handOn_59 ?_
      refine x_iaload d_X1_handOn_61 (o1_3 H) (nIx_nI (j := D 4 j + s) (by omega) (by decide)) ?_
      refine x_if_leN (tgt := 96) d_X1_handOn_62 (by decide) (by omega) (fun c_3 => ?_) (fun c_3 => ?_)
      · refine x_iincN (m := 1) d_X1_handOn_96 rfl (by decide) (Nat.le_of_ble_eq_true rfl) ?_
        refine x_goto (tgt := 24) d_X1_handOn_99 (by decide) ?_
        refine nG.sub (by exact (And.intro rfl (And.intro rfl (And.intro rfl (And.intro rfl (And.intro rfl True.intro)))))) (ih (s + 1) (by omega) h E F H O C ?_)
        rw [T, gH_s0 (by omega) (by first | exact Or.inl hbs | (exact Or.inr (by rw [← O.1 3 _ (by decide)]; omega)))]
      · refine x_aload_n rfl d_X1_handOn_65 ?_
        refine x_getf co_all (v := .ref (c + 1)) d_X1_handOn_66 fk_1_11 (o1_o H) rfl ?_
        refine x_iload_n rfl d_X1_handOn_69 ?_
        refine x_iconst (v := nI 1) (by decide) d_X1_handOn_70 ?_
        refine x_iaddN d_X1_handOn_71 ?_
        refine x_aaload d_X1_handOn_72 (o1_2 H) rfl (nIx_nI (j := r + 1) (by omega) (by decide)) rfl ?_
        refine x_iload_n rfl d_X1_handOn_73 ?_
        refine x_dup2 rfl rfl d_X1_handOn_74 ?_
        refine x_laload d_X1_handOn_75 (o1_2i H (r := (r + 1)) (by omega)) (nIx_nI (j := j) (by omega) (by decide)) ?_
        show nG _ _ _ _ _ _ (.long (lN (E 2 (20 * j + (r + 1)))) :: _) _
        refine x_aload_n rfl d_X1_handOn_76 ?_
        refine x_getf co_all (v := .ref (c + 1)) d_X1_handOn_77 fk_1_11 (o1_o H) rfl ?_
        refine x_iload_n rfl d_X1_handOn_80 ?_
        refine x_aaload d_X1_handOn_81 (o1_2 H) rfl (nIx_nI (j := r) (by omega) (by decide)) rfl ?_
        refine x_iload rfl d_X1_handOn_82 ?_
        refine x_laload d_X1_handOn_84 (o1_2i H (r := (r)) (by omega)) (nIx_nI (j := D 4 j + s) (by omega) (by decide)) ?_
        show nG _ _ _ _ _ _ (.long (lN (E 2 (20 * (D 4 j + s) + r))) :: _) _
        refine x_aload_n rfl d_X1_handOn_85 ?_
        refine x_getf co_all (v := .ref (c + 22)) d_X1_handOn_86 fk_1_16 (o1_o H) rfl ?_
        refine x_iload rfl d_X1_handOn_89 ?_
        refine x_iaload d_X1_handOn_91 (o1_3 H) (nIx_nI (j := D 4 j + s) (by omega) (by decide)) ?_
        refine x_i2lN d_X1_handOn_92 (by omega) ?_
        have hb2 : E 2 (20 * (D 4 j + s) + r) < 2 ^ 63 := by rw [O.2 (D 4 j + s) r (by omega) (by omega)]; exact hb j _ hj (by rw [iwh_s (by omega), hbs]; rfl)
        refine x_ldivN d_X1_handOn_93 (by omega) (by omega) (by omega) ?_
        refine x_laddN d_X1_handOn_94 ?_
        refine x_lastore d_X1_handOn_95 (o1_2i H (r := (r + 1)) (by omega)) (nIx_nI (j := j) (by omega) (by decide)) (Nat.le_trans (o1_B H) (Nat.le_add_right _ _)) ?_
        have H4_1 := o1_ast2 (r + 1) (j) ((E 2 (20 * j + (r + 1))) + ((E 2 (20 * (D 4 j + s) + r)) / (E 3 (D 4 j + s)))) (by omega) H
        have f_5 := o1_f2 (r + 1) (j) ((E 2 (20 * j + (r + 1))) + ((E 2 (20 * (D 4 j + s) + r)) / (E 3 (D 4 j + s)))) (by omega) H (F) (by exact ⟨by omega, by omega⟩)
        refine x_iincN (m := 1) d_X1_handOn_96 rfl (by decide) (Nat.le_of_ble_eq_true rfl) ?_
        refine x_goto (tgt := 24) d_X1_handOn_99 (by decide) ?_
        refine nG.sub (by exact (And.intro rfl (And.intro rfl (And.intro rfl (And.intro rfl (And.intro rfl True.intro)))))) (ih (s + 1) (by omega) _ _ f_5 H4_1 (ho_oo (D := D) O hr) (ho_dn C) ?_)
        rw [u2_eq, gH_s1 (by omega) hbs, T, O.2 (D 4 j + s) r (by omega) (by omega), O.1 3 _ (by decide)]
    | true =>
      refine x_iload rfl d_X1_handOn_24 ?_
      refine x_aload_n rfl d_X1_handOn_26 ?_
      refine x_getf co_all (v := .ref (b + 5)) d_X1_handOn_27 fk_1_62 (o3_o H3) rfl ?_
      refine x_iload_n rfl d_X1_handOn_30 ?_
      refine x_iaload d_X1_handOn_31 (o3_5 H3) (nIx_nI (j := j) (by omega) (by decide)) ?_
      refine x_icmp_geN (tgt := 102) d_X1_handOn_32 (by decide) (by omega) (by omega) (fun c_1 => by exfalso; omega) (fun c_1 => ?_)
      refine x_aload_n rfl d_X1_handOn_35 ?_
      refine x_iload_n rfl d_X1_handOn_36 ?_
      refine x_iload rfl d_X1_handOn_37 ?_
      refine x_rdV d_X1_handOn_39 lk_1_65 mo_X3_placeOfWholeSide vi_X3_placeOfWholeSide (sp_powOut H3 Q (k := j) (by omega) (j := s) (by omega) hbs) (o3_o H3) ⟨_, rfl, rfl⟩ rfl ⟨Nat.le_of_ble_eq_true rfl, Nat.le_of_ble_eq_true rfl⟩ rfl rfl (Nat.zero_le _) (Nat.zero_le _) (Nat.le_of_ble_eq_true rfl) rfl ?_
      refine x_istore d_X1_handOn_42 (Nat.le_of_ble_eq_true rfl) ?_
      refine x_iload rfl d_X1_handOn_44 ?_
      refine x_iconst (v := nI 0) (by decide) d_X1_handOn_46 ?_
      refine x_bipush (v := nI 23) (by decide) d_X1_handOn_47 ?_
      refine x_rdSN d_X1_handOn_49 lk_1_69 mo_X7_within sc_X7_within (sp_within (-1) (nI (0)) (nI (23))) rfl ⟨Nat.le_of_ble_eq_true rfl, Nat.le_of_ble_eq_true rfl⟩ rfl rfl (Nat.zero_le _) (Nat.zero_le _) (Nat.le_of_ble_eq_true rfl) rfl ?_
      rw [nB_F (show ¬ (nI 0 ≤ (-1 : Int32) ∧ (-1 : Int32) ≤ nI 23) by decide)]
      refine x_if_eqN (tgt := 96) d_X1_handOn_52 (by decide) (by omega) (fun c_2 => ?_) (fun c_2 => by exfalso; omega)
      refine x_iincN (m := 1) d_X1_handOn_96 rfl (by decide) (Nat.le_of_ble_eq_true rfl) ?_
      refine x_goto (tgt := 24) d_X1_handOn_99 (by decide) ?_
      refine nG.sub (by exact (And.intro rfl (And.intro rfl (And.intro rfl (And.intro rfl (And.intro rfl True.intro)))))) (ih (s + 1) (by omega) h E F H O C ?_)
      rw [T, gH_s0 (by omega) (by first | exact Or.inl hbs | (exact Or.inr (by rw [← O.1 3 _ (by decide)]; omega)))]
theorem lp_ho {c b r : Nat} {D E0 : Nat → Nat → Nat} (Q : rOK D) (hf : hFit D) (hr : r + 1 < 20) (hb : ∀ j q, j < D 0 0 → iwh D j q = true → E0 2 (20 * q + r) < 2 ^ 63) (h3 : ∀ k, k < 24 → E0 3 k ≤ 24) (hcb : ap c 23 b 7) {h0 : nPH} (Hb : o3 h0 b D) : ∀ n j : Nat, j + n = D 0 0 → ∀ (h : nPH) (E : Nat → Nat → Nat), nFr (nIv c 23) h0 h → o1 h c E → ((∀ f i, f ≠ 2 → E f i = E0 f i) ∧ (∀ k r2, r2 < 20 → r2 ≠ r + 1 → E 2 (20 * k + r2) = E0 2 (20 * k + r2))) → (∀ j2, j2 < j → E 2 (20 * j2 + (r + 1)) = fb_sm (gH D E0 r j2) 24) → nG YX1_handOn (nKy YX1_handOn h0.1 h0.2.1 (fun v h2 => v = none ∧ nFr (nIv c 23) h0 h2 ∧ ∃ E2, o1 h2 c E2 ∧ ((∀ f i, f ≠ 2 → E2 f i = E0 f i) ∧ (∀ k r2, r2 < 20 → r2 ≠ r + 1 → E2 2 (20 * k + r2) = E0 2 (20 * k + r2))) ∧ (∀ j2, j2 < D 0 0 → E2 2 (20 * j2 + (r + 1)) = fb_sm (gH D E0 r j2) 24))) 0 0 2 [some (.ref (c)), some (.int (nI (r))), some (.ref (b)), some (.int (nI (j))), none, none] [] h := by
  intro n
  induction n with
  | zero =>
    intro j hj h E F H O C
    have H3 := o3_fr Hb F (ap_fr (S := fun _ => True) (ap_sy hcb))
    have q0 := Q.1
    refine x_iload_n rfl d_X1_handOn_2 ?_
    refine x_aload_n rfl d_X1_handOn_3 ?_
    refine x_getf co_all (v := .int (nI (D 0 0))) d_X1_handOn_4 fk_1_57 (o3_o H3) rfl ?_
    refine x_icmp_geN (tgt := 108) d_X1_handOn_7 (by decide) (by omega) (by omega) (fun c_1 => ?_) (fun c_1 => by exfalso; omega)
    exact x_return d_X1_handOn_108 rfl F.1 F.2.1 (Nat.zero_le _) (Nat.zero_le _) (⟨rfl, F, E, H, O, by rw [show D 0 0 = j by omega]; exact C⟩)
  | succ n ih =>
    intro j hj h E F H O C
    have H3 := o3_fr Hb F (ap_fr (S := fun _ => True) (ap_sy hcb))
    have q0 := Q.1
    refine x_iload_n rfl d_X1_handOn_2 ?_
    refine x_aload_n rfl d_X1_handOn_3 ?_
    refine x_getf co_all (v := .int (nI (D 0 0))) d_X1_handOn_4 fk_1_57 (o3_o H3) rfl ?_
    refine x_icmp_geN (tgt := 108) d_X1_handOn_7 (by decide) (by omega) (by omega) (fun c_1 => by exfalso; omega) (fun c_1 => ?_)
    refine x_aload_n rfl d_X1_handOn_10 ?_
    refine x_getf co_all (v := .ref (c + 1)) d_X1_handOn_11 fk_1_11 (o1_o H) rfl ?_
    refine x_iload_n rfl d_X1_handOn_14 ?_
    refine x_iconst (v := nI 1) (by decide) d_X1_handOn_15 ?_
    refine x_iaddN d_X1_handOn_16 ?_
    refine x_aaload d_X1_handOn_17 (o1_2 H) rfl (nIx_nI (j := r + 1) (by omega) (by decide)) rfl ?_
    refine x_iload_n rfl d_X1_handOn_18 ?_
    refine x_lconst (v := lN 0) (by decide) d_X1_handOn_19 ?_
    refine x_lastore d_X1_handOn_20 (o1_2i H (r := (r + 1)) (by omega)) (nIx_nI (j := j) (by omega) (by decide)) (Nat.le_trans (o1_B H) (Nat.le_add_right _ _)) ?_
    have H2_1 := o1_ast2 (r + 1) (j) (0) (by omega) H
    have f_3 := o1_f2 (r + 1) (j) (0) (by omega) H (F) (by exact ⟨by omega, by omega⟩)
    refine x_iconst (v := nI 0) (by decide) d_X1_handOn_21 ?_
    refine x_istore d_X1_handOn_22 (Nat.le_of_ble_eq_true rfl) ?_
    exact lp_ho1 Q hf hr hb h3 hcb Hb (by omega) (fun h E F H O C => ih (j + 1) (by omega) h E F H O C) (D 5 j) 0 (by omega) _ _ f_3 H2_1 (ho_oo (D := D) O hr) (ho_dn C) (by rw [u2_eq, gH_0])
theorem sp_handOn {c b r : Nat} {D E0 : Nat → Nat → Nat} (Q : rOK D) (hf : hFit D) (hr : r + 1 < 20) (hb : ∀ j q, j < D 0 0 → iwh D j q = true → E0 2 (20 * q + r) < 2 ^ 63) (h3 : ∀ k, k < 24 → E0 3 k ≤ 24) (hcb : ap c 23 b 7) {h0 : nPH} (Hb : o3 h0 b D) (H : o1 h0 c E0) : nWv YX1_handOn [.ref c, .int (nI r), .ref b] h0 none (fun h2 => nFr (nIv c 23) h0 h2 ∧ ∃ E2, o1 h2 c E2 ∧ ((∀ f i, f ≠ 2 → E2 f i = E0 f i) ∧ (∀ k r2, r2 < 20 → r2 ≠ r + 1 → E2 2 (20 * k + r2) = E0 2 (20 * k + r2))) ∧ (∀ j2, j2 < D 0 0 → E2 2 (20 * j2 + (r + 1)) = fb_sm (gH D E0 r j2) 24)) := by
  refine nSp_of (by decide +kernel) rfl (Nat.le_of_ble_eq_true rfl) (ls := [some (.ref (c)), some (.int (nI (r))), some (.ref (b)), none, none, none]) (by exact (And.intro rfl (And.intro rfl (And.intro rfl True.intro)))) ?_
  refine x_iconst (v := nI 0) (by decide) d_X1_handOn_0 ?_
  refine x_istore_n d_X1_handOn_1 (Nat.le_of_ble_eq_true rfl) ?_
  exact nG.sub (by exact (And.intro rfl (And.intro rfl (And.intro rfl (And.intro rfl True.intro))))) (lp_ho Q hf hr hb h3 hcb Hb (D 0 0) 0 (by omega) h0 E0 nFr.rf H ⟨fun f i _ => rfl, fun k r2 _ _ => rfl⟩ (fun j2 hj2 => absurd hj2 (by omega)))
