/-! the loads: one row to the next -/
theorem iwh_hg {D : Nat → Nat → Nat} {k q : Nat} (h : iwh D k q = true) : D 4 k ≤ q ∧ q < D 4 k + D 5 k := by
  unfold iwh at h
  rw [Bool.and_eq_true] at h
  exact hgb_T.mp h.1
theorem iwh_o {D : Nat → Nat → Nat} {k q : Nat} (h : ¬ (D 4 k ≤ q ∧ q < D 4 k + D 5 k)) : nb (iwh D k q) = 0 := by
  rw [nb_0]
  unfold iwh
  rw [hgb_F.mpr h, Bool.false_and]
theorem iwh_s {D : Nat → Nat → Nat} {k s : Nat} (h : s < D 5 k) : iwh D k (D 4 k + s) = !(D 6 k).testBit s := by
  unfold iwh
  rw [hgb_T.mpr ⟨by omega, by omega⟩, Bool.true_and, Nat.add_sub_cancel_left]
def wC (D : Nat → Nat → Nat) (j m : Nat) (E : Nat → Nat → Nat) : Prop := ∀ k, k < 24 → E 3 k = wbl D k j + if k < m then nb (iwh D j k) else 0
theorem wC_st {D E : Nat → Nat → Nat} {j s v : Nat} (h : wC D j (D 4 j + s) E) (hs : s < D 5 j) (hk : D 4 j + s < 24) (hv : v = E 3 (D 4 j + s) + nb (!(D 6 j).testBit s)) : wC D j (D 4 j + (s + 1)) (u2 E 3 (D 4 j + s) v) := fun k hk2 => by
  by_cases e : k = D 4 j + s
  · subst e
    rw [u2_eq, hv, h _ hk, if_neg (by omega), if_pos (by omega), iwh_s hs, Nat.add_zero]
  · rw [u2_ne (by omega), h k hk2]
    by_cases z : k < D 4 j + s
    · rw [if_pos z, if_pos (by omega)]
    · rw [if_neg z, if_neg (by omega)]
theorem wC_0 {D E : Nat → Nat → Nat} {j : Nat} (h : ∀ k, k < 24 → E 3 k = wbl D k j) : wC D j (D 4 j + 0) E := fun k hk => by
  rw [h k hk]
  split
  · rw [iwh_o (by omega), Nat.add_zero]
  · rfl
theorem wC_n {D E : Nat → Nat → Nat} {j s : Nat} (h : wC D j (D 4 j + s) E) (hs : D 5 j ≤ s) : ∀ k, k < 24 → E 3 k = wbl D k (j + 1) := fun k hk => by
  rw [h k hk, wbl_s]
  split
  · rfl
  · rw [iwh_o (by omega)]
theorem wC_st0 {D E : Nat → Nat → Nat} {j s : Nat} (h : wC D j (D 4 j + s) E) (hs : s < D 5 j) (hbs : (D 6 j).testBit s = true) : wC D j (D 4 j + (s + 1)) E := fun k hk => by
  rw [h k hk]
  by_cases e : k = D 4 j + s
  · subst e
    rw [if_neg (by omega), if_pos (by omega), iwh_s hs, nb_0.mpr (show (!(D 6 j).testBit s) = false by rw [hbs]; rfl)]
  · by_cases z : k < D 4 j + s
    · rw [if_pos z, if_pos (by omega)]
    · rw [if_neg z, if_neg (by omega)]
def hFit (D : Nat → Nat → Nat) : Prop := ∀ j, j < D 0 0 → D 5 j = 0 ∨ D 4 j + D 5 j ≤ 24
theorem lp_cws1 {c b : Nat} {D E0 : Nat → Nat → Nat} (Q : rOK D) (hf : hFit D) (hcb : ap c 23 b 7) {h0 : nPH} (Hb : o3 h0 b D) {j : Nat} (hj : j < D 0 0) (K : ∀ (h : nPH) (E : Nat → Nat → Nat), nFr (nIv c 23) h0 h → o1 h c E → (∀ f i, f ≠ 3 → E f i = E0 f i) → (∀ k, k < 24 → E 3 k = wbl D k (j + 1)) → nG YX1_countWholeSides (nKy YX1_countWholeSides h0.1 h0.2.1 (fun v h2 => v = none ∧ nFr (nIv c 23) h0 h2 ∧ ∃ E2, o1 h2 c E2 ∧ (∀ k, k < 24 → E2 3 k = wbl D k (D 0 0)) ∧ (∀ f i, f ≠ 3 → E2 f i = E0 f i))) 0 0 23 [some (.ref (c)), some (.ref (b)), some (.int (nI (j + 1))), none, none] [] h) : ∀ n s : Nat, s + n = D 5 j → ∀ (h : nPH) (E : Nat → Nat → Nat), nFr (nIv c 23) h0 h → o1 h c E → (∀ f i, f ≠ 3 → E f i = E0 f i) → wC D j (D 4 j + s) E → nG YX1_countWholeSides (nKy YX1_countWholeSides h0.1 h0.2.1 (fun v h2 => v = none ∧ nFr (nIv c 23) h0 h2 ∧ ∃ E2, o1 h2 c E2 ∧ (∀ k, k < 24 → E2 3 k = wbl D k (D 0 0)) ∧ (∀ f i, f ≠ 3 → E2 f i = E0 f i))) 0 0 33 [some (.ref (c)), some (.ref (b)), some (.int (nI (j))), some (.int (nI (s))), none] [] h := by
  intro n
  induction n with
  | zero =>
    intro s hs h E F H O C
    have H3 := o3_fr Hb F (ap_fr (S := fun _ => True) (ap_sy hcb))
    have q0 := Q.1
    have q5 := Q.2 j (by omega)
    refine x_iload_n rfl d_X1_countWholeSides_33 ?_
    refine x_aload_n rfl d_X1_countWholeSides_34 ?_
    refine x_getf co_all (v := .ref (b + 5)) d_X1_countWholeSides_35 fk_1_62 (o3_o H3) rfl ?_
    refine x_iload_n rfl d_X1_countWholeSides_38 ?_
    refine x_iaload d_X1_countWholeSides_39 (o3_5 H3) (nIx_nI (j := j) (by omega) (by decide)) ?_
    refine x_icmp_geN (tgt := 79) d_X1_countWholeSides_40 (by decide) (by omega) (by omega) (fun c_1 => ?_) (fun c_1 => by exfalso; omega)
    refine x_iincN (m := 1) d_X1_countWholeSides_79 rfl (by decide) (Nat.le_of_ble_eq_true rfl) ?_
    refine x_goto (tgt := 23) d_X1_countWholeSides_82 (by decide) ?_
    exact nG.sub (by exact (And.intro rfl (And.intro rfl (And.intro rfl True.intro)))) (K h E F H O (wC_n C (by omega)))
  | succ n ih =>
    intro s hs h E F H O C
    have H3 := o3_fr Hb F (ap_fr (S := fun _ => True) (ap_sy hcb))
    have q0 := Q.1
    have q5 := Q.2 j (by omega)
    have q7 := hf j hj
    cases hbs : (D 6 j).testBit s with
    | false =>
      refine x_iload_n rfl d_X1_countWholeSides_33 ?_
      refine x_aload_n rfl d_X1_countWholeSides_34 ?_
      refine x_getf co_all (v := .ref (b + 5)) d_X1_countWholeSides_35 fk_1_62 (o3_o H3) rfl ?_
      refine x_iload_n rfl d_X1_countWholeSides_38 ?_
      refine x_iaload d_X1_countWholeSides_39 (o3_5 H3) (nIx_nI (j := j) (by omega) (by decide)) ?_
      refine x_icmp_geN (tgt := 79) d_X1_countWholeSides_40 (by decide) (by omega) (by omega) (fun c_1 => by exfalso; omega) (fun c_1 => ?_)
      refine x_aload_n rfl d_X1_countWholeSides_43 ?_
      refine x_iload_n rfl d_X1_countWholeSides_44 ?_
      refine x_iload_n rfl d_X1_countWholeSides_45 ?_
      refine x_rdV d_X1_countWholeSides_46 lk_1_65 mo_X3_placeOfWholeSide vi_X3_placeOfWholeSide (sp_powIn H3 Q (k := j) (by omega) (j := s) (by omega) hbs) (o3_o H3) ⟨_, rfl, rfl⟩ rfl ⟨Nat.le_of_ble_eq_true rfl, Nat.le_of_ble_eq_true rfl⟩ rfl rfl (Nat.zero_le _) (Nat.zero_le _) (Nat.le_of_ble_eq_true rfl) rfl ?_
      refine x_istore d_X1_countWholeSides_49 (Nat.le_of_ble_eq_true rfl) ?_
      refine x_iload rfl d_X1_countWholeSides_51 ?_
      refine x_iconst (v := nI 0) (by decide) d_X1_countWholeSides_53 ?_
      refine x_bipush (v := nI 23) (by decide) d_X1_countWholeSides_54 ?_
      refine x_rdSN d_X1_countWholeSides_56 lk_1_69 mo_X7_within sc_X7_within (sp_within (nI (D 4 j + s)) (nI (0)) (nI (23))) rfl ⟨Nat.le_of_ble_eq_true rfl, Nat.le_of_ble_eq_true rfl⟩ rfl rfl (Nat.zero_le _) (Nat.zero_le _) (Nat.le_of_ble_eq_true rfl) rfl ?_
      rw [nB_T (show nI 0 ≤ nI (D 4 j + s) ∧ nI (D 4 j + s) ≤ nI 23 from ⟨(nI_leI (by decide) (by omega)).mpr (by omega), (nI_leI (by omega) (by decide)).mpr (by omega)⟩)]
      refine x_if_eqN (tgt := 73) d_X1_countWholeSides_59 (by decide) (by omega) (fun c_2 => by exfalso; omega) (fun c_2 => ?_)
      refine x_aload_n rfl d_X1_countWholeSides_62 ?_
      refine x_getf co_all (v := .ref (c + 22)) d_X1_countWholeSides_63 fk_1_16 (o1_o H) rfl ?_
      refine x_iload rfl d_X1_countWholeSides_66 ?_
      refine x_dup2 rfl rfl d_X1_countWholeSides_68 ?_
      refine x_iaload d_X1_countWholeSides_69 (o1_3 H) (nIx_nI (j := D 4 j + s) (by omega) (by decide)) ?_
      refine x_iconst (v := nI 1) (by decide) d_X1_countWholeSides_70 ?_
      refine x_iaddN d_X1_countWholeSides_71 ?_
      refine x_iastore d_X1_countWholeSides_72 (o1_3 H) (nIx_nI (j := D 4 j + s) (by omega) (by decide)) (Nat.le_trans (o1_B H) (Nat.le_add_right _ _)) ?_
      have H3_1 := o1_ast3 (D 4 j + s) ((E 3 (D 4 j + s)) + 1) H
      have f_4 := o1_f3 (D 4 j + s) ((E 3 (D 4 j + s)) + 1) H (F) (by exact ⟨by omega, by omega⟩)
      refine x_iincN (m := 1) d_X1_countWholeSides_73 rfl (by decide) (Nat.le_of_ble_eq_true rfl) ?_
      refine x_goto (tgt := 33) d_X1_countWholeSides_76 (by decide) ?_
      refine nG.sub (by exact (And.intro rfl (And.intro rfl (And.intro rfl (And.intro rfl True.intro))))) (ih (s + 1) (by omega) _ _ f_4 H3_1 (fun f i hf => (u2_ne (by omega)).trans (O f i hf)) (wC_st C (by omega) (by omega) ?_))
      show (E 3 (D 4 j + s)) + 1 = _ + nb (!(D 6 j).testBit s)
      rw [hbs]; rfl
    | true =>
      refine x_iload_n rfl d_X1_countWholeSides_33 ?_
      refine x_aload_n rfl d_X1_countWholeSides_34 ?_
      refine x_getf co_all (v := .ref (b + 5)) d_X1_countWholeSides_35 fk_1_62 (o3_o H3) rfl ?_
      refine x_iload_n rfl d_X1_countWholeSides_38 ?_
      refine x_iaload d_X1_countWholeSides_39 (o3_5 H3) (nIx_nI (j := j) (by omega) (by decide)) ?_
      refine x_icmp_geN (tgt := 79) d_X1_countWholeSides_40 (by decide) (by omega) (by omega) (fun c_1 => by exfalso; omega) (fun c_1 => ?_)
      refine x_aload_n rfl d_X1_countWholeSides_43 ?_
      refine x_iload_n rfl d_X1_countWholeSides_44 ?_
      refine x_iload_n rfl d_X1_countWholeSides_45 ?_
      refine x_rdV d_X1_countWholeSides_46 lk_1_65 mo_X3_placeOfWholeSide vi_X3_placeOfWholeSide (sp_powOut H3 Q (k := j) (by omega) (j := s) (by omega) hbs) (o3_o H3) ⟨_, rfl, rfl⟩ rfl ⟨Nat.le_of_ble_eq_true rfl, Nat.le_of_ble_eq_true rfl⟩ rfl rfl (Nat.zero_le _) (Nat.zero_le _) (Nat.le_of_ble_eq_true rfl) rfl ?_
      refine x_istore d_X1_countWholeSides_49 (Nat.le_of_ble_eq_true rfl) ?_
      refine x_iload rfl d_X1_countWholeSides_51 ?_
      refine x_iconst (v := nI 0) (by decide) d_X1_countWholeSides_53 ?_
      refine x_bipush (v := nI 23) (by decide) d_X1_countWholeSides_54 ?_
      refine x_rdSN d_X1_countWholeSides_56 lk_1_69 mo_X7_within sc_X7_within (sp_within (-1) (nI (0)) (nI (23))) rfl ⟨Nat.le_of_ble_eq_true rfl, Nat.le_of_ble_eq_true rfl⟩ rfl rfl (Nat.zero_le _) (Nat.zero_le _) (Nat.le_of_ble_eq_true rfl) rfl ?_
      rw [nB_F (show ¬ (nI 0 ≤ (-1 : Int32) ∧ (-1 : Int32) ≤ nI 23) by decide)]
      refine x_if_eqN (tgt := 73) d_X1_countWholeSides_59 (by decide) (by omega) (fun c_2 => ?_) (fun c_2 => by exfalso; omega)
      refine x_iincN (m := 1) d_X1_countWholeSides_73 rfl (by decide) (Nat.le_of_ble_eq_true rfl) ?_
      refine x_goto (tgt := 33) d_X1_countWholeSides_76 (by decide) ?_
      exact nG.sub (by exact (And.intro rfl (And.intro rfl (And.intro rfl (And.intro rfl True.intro))))) (ih (s + 1) (by omega) h E F H O (wC_st0 C (by omega) hbs))
theorem lp_cws2 {c b : Nat} {D E0 : Nat → Nat → Nat} (Q : rOK D) (hf : hFit D) (hcb : ap c 23 b 7) {h0 : nPH} (Hb : o3 h0 b D) : ∀ n j : Nat, j + n = D 0 0 → ∀ (h : nPH) (E : Nat → Nat → Nat), nFr (nIv c 23) h0 h → o1 h c E → (∀ f i, f ≠ 3 → E f i = E0 f i) → (∀ k, k < 24 → E 3 k = wbl D k j) → nG YX1_countWholeSides (nKy YX1_countWholeSides h0.1 h0.2.1 (fun v h2 => v = none ∧ nFr (nIv c 23) h0 h2 ∧ ∃ E2, o1 h2 c E2 ∧ (∀ k, k < 24 → E2 3 k = wbl D k (D 0 0)) ∧ (∀ f i, f ≠ 3 → E2 f i = E0 f i))) 0 0 23 [some (.ref (c)), some (.ref (b)), some (.int (nI (j))), none, none] [] h := by
  intro n
  induction n with
  | zero =>
    intro j hj h E F H O C
    have H3 := o3_fr Hb F (ap_fr (S := fun _ => True) (ap_sy hcb))
    have q0 := Q.1
    refine x_iload_n rfl d_X1_countWholeSides_23 ?_
    refine x_aload_n rfl d_X1_countWholeSides_24 ?_
    refine x_getf co_all (v := .int (nI (D 0 0))) d_X1_countWholeSides_25 fk_1_57 (o3_o H3) rfl ?_
    refine x_icmp_geN (tgt := 85) d_X1_countWholeSides_28 (by decide) (by omega) (by omega) (fun c_1 => ?_) (fun c_1 => by exfalso; omega)
    exact x_return d_X1_countWholeSides_85 rfl F.1 F.2.1 (Nat.zero_le _) (Nat.zero_le _) (⟨rfl, F, E, H, by rw [show D 0 0 = j by omega]; exact C, O⟩)
  | succ n ih =>
    intro j hj h E F H O C
    have H3 := o3_fr Hb F (ap_fr (S := fun _ => True) (ap_sy hcb))
    have q0 := Q.1
    refine x_iload_n rfl d_X1_countWholeSides_23 ?_
    refine x_aload_n rfl d_X1_countWholeSides_24 ?_
    refine x_getf co_all (v := .int (nI (D 0 0))) d_X1_countWholeSides_25 fk_1_57 (o3_o H3) rfl ?_
    refine x_icmp_geN (tgt := 85) d_X1_countWholeSides_28 (by decide) (by omega) (by omega) (fun c_1 => by exfalso; omega) (fun c_1 => ?_)
    refine x_iconst (v := nI 0) (by decide) d_X1_countWholeSides_31 ?_
    refine x_istore_n d_X1_countWholeSides_32 (Nat.le_of_ble_eq_true rfl) ?_
    exact lp_cws1 Q hf hcb Hb (by omega) (fun h E F H O C => ih (j + 1) (by omega) h E F H O C) (D 5 j) 0 (by omega) h E F H O (wC_0 C)
theorem lp_cws0 {c b : Nat} {D E0 : Nat → Nat → Nat} (Q : rOK D) (hf : hFit D) (hcb : ap c 23 b 7) {h0 : nPH} (Hb : o3 h0 b D) : ∀ n k : Nat, k + n = 24 → ∀ (h : nPH) (E : Nat → Nat → Nat), nFr (nIv c 23) h0 h → o1 h c E → (∀ f i, f ≠ 3 → E f i = E0 f i) → (∀ k2, k2 < k → E 3 k2 = 0) → nG YX1_countWholeSides (nKy YX1_countWholeSides h0.1 h0.2.1 (fun v h2 => v = none ∧ nFr (nIv c 23) h0 h2 ∧ ∃ E2, o1 h2 c E2 ∧ (∀ k, k < 24 → E2 3 k = wbl D k (D 0 0)) ∧ (∀ f i, f ≠ 3 → E2 f i = E0 f i))) 0 0 2 [some (.ref (c)), some (.ref (b)), some (.int (nI (k))), none, none] [] h := by
  intro n
  induction n with
  | zero =>
    intro k hk h E F H O C
    have H3 := o3_fr Hb F (ap_fr (S := fun _ => True) (ap_sy hcb))
    have q0 := Q.1
    refine x_iload_n rfl d_X1_countWholeSides_2 ?_
    refine x_bipush (v := nI 24) (by decide) d_X1_countWholeSides_3 ?_
    refine x_icmp_geN (tgt := 21) d_X1_countWholeSides_5 (by decide) (by omega) (by omega) (fun c_1 => ?_) (fun c_1 => by exfalso; omega)
    refine x_iconst (v := nI 0) (by decide) d_X1_countWholeSides_21 ?_
    refine x_istore_n d_X1_countWholeSides_22 (Nat.le_of_ble_eq_true rfl) ?_
    exact lp_cws2 Q hf hcb Hb (D 0 0) 0 (by omega) h E F H O (fun k2 hk2 => C k2 (by omega))
  | succ n ih =>
    intro k hk h E F H O C
    have H3 := o3_fr Hb F (ap_fr (S := fun _ => True) (ap_sy hcb))
    have q0 := Q.1
    refine x_iload_n rfl d_X1_countWholeSides_2 ?_
    refine x_bipush (v := nI 24) (by decide) d_X1_countWholeSides_3 ?_
    refine x_icmp_geN (tgt := 21) d_X1_countWholeSides_5 (by decide) (by omega) (by omega) (fun c_1 => by exfalso; omega) (fun c_1 => ?_)
    refine x_aload_n rfl d_X1_countWholeSides_8 ?_
    refine x_getf co_all (v := .ref (c + 22)) d_X1_countWholeSides_9 fk_1_16 (o1_o H) rfl ?_
    refine x_iload_n rfl d_X1_countWholeSides_12 ?_
    refine x_iconst (v := nI 0) (by decide) d_X1_countWholeSides_13 ?_
    refine x_iastore d_X1_countWholeSides_14 (o1_3 H) (nIx_nI (j := k) (by omega) (by decide)) (Nat.le_trans (o1_B H) (Nat.le_add_right _ _)) ?_
    have H2_1 := o1_ast3 (k) (0) H
    have f_3 := o1_f3 (k) (0) H (F) (by exact ⟨by omega, by omega⟩)
    refine x_iincN (m := 1) d_X1_countWholeSides_15 rfl (by decide) (Nat.le_of_ble_eq_true rfl) ?_
    refine x_goto (tgt := 2) d_X1_countWholeSides_18 (by decide) ?_
    refine ih (k + 1) (by omega) _ _ f_3 H2_1 (fun f i hf => (u2_ne (by omega)).trans (O f i hf)) (fun k2 hk2 => ?_)
    by_cases e : k2 = k
    · rw [e, u2_eq]
    · rw [u2_ne (by omega)]; exact C k2 (by omega)
theorem sp_cws {c b : Nat} {D E0 : Nat → Nat → Nat} (Q : rOK D) (hf : hFit D) (hcb : ap c 23 b 7) {h0 : nPH} (Hb : o3 h0 b D) (H : o1 h0 c E0) : nWv YX1_countWholeSides [.ref c, .ref b] h0 none (fun h2 => nFr (nIv c 23) h0 h2 ∧ ∃ E2, o1 h2 c E2 ∧ (∀ k, k < 24 → E2 3 k = wbl D k (D 0 0)) ∧ (∀ f i, f ≠ 3 → E2 f i = E0 f i)) := by
  refine nSp_of (by decide +kernel) rfl (Nat.le_of_ble_eq_true rfl) (ls := [some (.ref (c)), some (.ref (b)), none, none, none]) (by exact (And.intro rfl (And.intro rfl True.intro))) ?_
  refine x_iconst (v := nI 0) (by decide) d_X1_countWholeSides_0 ?_
  refine x_istore_n d_X1_countWholeSides_1 (Nat.le_of_ble_eq_true rfl) ?_
  exact nG.sub (by exact (And.intro rfl (And.intro rfl (And.intro rfl True.intro)))) (lp_cws0 Q hf hcb Hb 24 0 (by omega) h0 E0 nFr.rf H (fun f i _ => rfl) (fun k2 hk2 => absurd hk2 (by omega)))
theorem lp_lose {c b r : Nat} {D E0 : Nat → Nat → Nat} (hp : D 0 0 ≤ 24) (hr : r < 20) (h3 : ∀ k, k < 24 → E0 3 k ≤ 24) (hcb : ap c 23 b 7) {h0 : nPH} (Hb : o3 h0 b D) : ∀ n k : Nat, k + n = D 0 0 → ∀ (h : nPH) (E : Nat → Nat → Nat), nFr (nIv c 23) h0 h → o1 h c E → (∀ f i, f ≠ 0 → E f i = E0 f i) → E 0 0 = E0 0 0 + fb_sm (fun k => if E0 3 k = 0 then E0 2 (20 * k + r) else 0) k → nG YX1_lose (nKy YX1_lose h0.1 h0.2.1 (fun v h2 => v = none ∧ nFr (nIv c 23) h0 h2 ∧ ∃ E2, o1 h2 c E2 ∧ E2 0 0 = E0 0 0 + fb_sm (fun k => if E0 3 k = 0 then E0 2 (20 * k + r) else 0) (D 0 0) ∧ (∀ f i, f ≠ 0 → E2 f i = E0 f i))) 0 0 2 [some (.ref (c)), some (.int (nI (r))), some (.ref (b)), some (.int (nI (k)))] [] h := by
  intro n
  induction n with
  | zero =>
    intro k hk h E F H O C
    have H3 := o3_fr Hb F (ap_fr (S := fun _ => True) (ap_sy hcb))
    refine x_iload_n rfl d_X1_lose_2 ?_
    refine x_aload_n rfl d_X1_lose_3 ?_
    refine x_getf co_all (v := .int (nI (D 0 0))) d_X1_lose_4 fk_1_57 (o3_o H3) rfl ?_
    refine x_icmp_geN (tgt := 42) d_X1_lose_7 (by decide) (by omega) (by omega) (fun c_1 => ?_) (fun c_1 => by exfalso; omega)
    exact x_return d_X1_lose_42 rfl F.1 F.2.1 (Nat.zero_le _) (Nat.zero_le _) (⟨rfl, F, E, H, by rw [show D 0 0 = k by omega]; exact C, O⟩)
  | succ n ih =>
    intro k hk h E F H O C
    have H3 := o3_fr Hb F (ap_fr (S := fun _ => True) (ap_sy hcb))
    have e3 := O 3 k (by decide)
    have e4 := h3 k (by omega)
    refine x_iload_n rfl d_X1_lose_2 ?_
    refine x_aload_n rfl d_X1_lose_3 ?_
    refine x_getf co_all (v := .int (nI (D 0 0))) d_X1_lose_4 fk_1_57 (o3_o H3) rfl ?_
    refine x_icmp_geN (tgt := 42) d_X1_lose_7 (by decide) (by omega) (by omega) (fun c_1 => by exfalso; omega) (fun c_1 => ?_)
    refine x_aload_n rfl d_X1_lose_10 ?_
    refine x_getf co_all (v := .ref (c + 22)) d_X1_lose_11 fk_1_16 (o1_o H) rfl ?_
    refine x_iload_n rfl d_X1_lose_14 ?_
    refine x_iaload d_X1_lose_15 (o1_3 H) (nIx_nI (j := k) (by omega) (by decide)) ?_
    refine x_if_neN (tgt := 36) d_X1_lose_16 (by decide) (by omega) (fun c_2 => ?_) (fun c_2 => ?_)
    · refine x_iincN (m := 1) d_X1_lose_36 rfl (by decide) (Nat.le_of_ble_eq_true rfl) ?_
      refine x_goto (tgt := 2) d_X1_lose_39 (by decide) ?_
      exact ih (k + 1) (by omega) h E F H O (by rw [fb_sm_succ, if_neg (by omega), Nat.add_zero]; exact C)
    · refine x_aload_n rfl d_X1_lose_19 ?_
      refine x_dup rfl d_X1_lose_20 ?_
      refine x_getf co_all (v := .long (lN (E 0 0))) d_X1_lose_21 fk_1_20 (o1_o H) rfl ?_
      refine x_aload_n rfl d_X1_lose_24 ?_
      refine x_getf co_all (v := .ref (c + 1)) d_X1_lose_25 fk_1_11 (o1_o H) rfl ?_
      refine x_iload_n rfl d_X1_lose_28 ?_
      refine x_aaload d_X1_lose_29 (o1_2 H) rfl (nIx_nI (j := r) (by omega) (by decide)) rfl ?_
      refine x_iload_n rfl d_X1_lose_30 ?_
      refine x_laload d_X1_lose_31 (o1_2i H (r := (r)) (by omega)) (nIx_nI (j := k) (by omega) (by decide)) ?_
      show nG _ _ _ _ _ _ (.long (lN (E 2 (20 * k + r))) :: _) _
      refine x_laddN d_X1_lose_32 ?_
      refine x_putf co_all d_X1_lose_33 fk_1_20 ft_1_0 (o1_o H) (Nat.le_of_ble_eq_true rfl) rfl rfl (o1_B H) ?_
      have H3_1 := o1_put0 ((E 0 0) + (E 2 (20 * k + r))) H
      have f_4 := o1_g0 ((E 0 0) + (E 2 (20 * k + r))) H (F) (by exact ⟨by omega, by omega⟩)
      refine x_iincN (m := 1) d_X1_lose_36 rfl (by decide) (Nat.le_of_ble_eq_true rfl) ?_
      refine x_goto (tgt := 2) d_X1_lose_39 (by decide) ?_
      refine ih (k + 1) (by omega) _ _ f_4 H3_1 (fun f i hf => (u2_ne (by omega)).trans (O f i hf)) ?_
      rw [u2_eq, fb_sm_succ, if_pos (by omega), C, O 2 _ (by decide), Nat.add_assoc]
theorem sp_lose {c b r : Nat} {D E0 : Nat → Nat → Nat} (hp : D 0 0 ≤ 24) (hr : r < 20) (h3 : ∀ k, k < 24 → E0 3 k ≤ 24) (hcb : ap c 23 b 7) {h0 : nPH} (Hb : o3 h0 b D) (H : o1 h0 c E0) : nWv YX1_lose [.ref c, .int (nI r), .ref b] h0 none (fun h2 => nFr (nIv c 23) h0 h2 ∧ ∃ E2, o1 h2 c E2 ∧ E2 0 0 = E0 0 0 + fb_sm (fun k => if E0 3 k = 0 then E0 2 (20 * k + r) else 0) (D 0 0) ∧ (∀ f i, f ≠ 0 → E2 f i = E0 f i)) := by
  refine nSp_of (by decide +kernel) rfl (Nat.le_of_ble_eq_true rfl) (ls := [some (.ref (c)), some (.int (nI (r))), some (.ref (b)), none]) (by exact (And.intro rfl (And.intro rfl (And.intro rfl True.intro)))) ?_
  refine x_iconst (v := nI 0) (by decide) d_X1_lose_0 ?_
  refine x_istore_n d_X1_lose_1 (Nat.le_of_ble_eq_true rfl) ?_
  exact lp_lose hp hr h3 hcb Hb (D 0 0) 0 (by omega) h0 E0 nFr.rf H (fun f i _ => rfl) rfl
theorem lp_inAll {c b r : Nat} {D E : Nat → Nat → Nat} (hp : D 0 0 ≤ 24) (hr : r < 20) {h : nPH} (H3 : o3 h b D) (H : o1 h c E) : ∀ n k : Nat, k + n = D 0 0 → nG YX1_inAll (nKy YX1_inAll h.1 h.2.1 (fun v h2 => v = some (.long (lN (fb_sm (fun k => E 2 (20 * k + r)) (D 0 0)))) ∧ h2 = h)) 0 0 5 [some (.ref (c)), some (.int (nI (r))), some (.ref (b)), some (.long (lN (fb_sm (fun k => E 2 (20 * k + r)) k))), none, some (.int (nI (k)))] [] h := by
  intro n
  induction n with
  | zero =>
    intro k hk
    refine x_iload rfl d_X1_inAll_5 ?_
    refine x_aload_n rfl d_X1_inAll_7 ?_
    refine x_getf co_all (v := .int (nI (D 0 0))) d_X1_inAll_8 fk_1_57 (o3_o H3) rfl ?_
    refine x_icmp_geN (tgt := 32) d_X1_inAll_11 (by decide) (by omega) (by omega) (fun c_1 => ?_) (fun c_1 => by exfalso; omega)
    refine x_lload_n rfl d_X1_inAll_32 ?_
    exact x_lreturn d_X1_inAll_33 rfl rfl rfl (Nat.zero_le _) (Nat.zero_le _) (⟨by rw [show D 0 0 = k by omega], rfl⟩)
  | succ n ih =>
    intro k hk
    refine x_iload rfl d_X1_inAll_5 ?_
    refine x_aload_n rfl d_X1_inAll_7 ?_
    refine x_getf co_all (v := .int (nI (D 0 0))) d_X1_inAll_8 fk_1_57 (o3_o H3) rfl ?_
    refine x_icmp_geN (tgt := 32) d_X1_inAll_11 (by decide) (by omega) (by omega) (fun c_1 => by exfalso; omega) (fun c_1 => ?_)
    refine x_lload_n rfl d_X1_inAll_14 ?_
    refine x_aload_n rfl d_X1_inAll_15 ?_
    refine x_getf co_all (v := .ref (c + 1)) d_X1_inAll_16 fk_1_11 (o1_o H) rfl ?_
    refine x_iload_n rfl d_X1_inAll_19 ?_
    refine x_aaload d_X1_inAll_20 (o1_2 H) rfl (nIx_nI (j := r) (by omega) (by decide)) rfl ?_
    refine x_iload rfl d_X1_inAll_21 ?_
    refine x_laload d_X1_inAll_23 (o1_2i H (r := (r)) (by omega)) (nIx_nI (j := k) (by omega) (by decide)) ?_
    show nG _ _ _ _ _ _ (.long (lN (E 2 (20 * k + r))) :: _) _
    refine x_laddN d_X1_inAll_24 ?_
    refine x_lstore_n d_X1_inAll_25 (Nat.le_of_ble_eq_true rfl) ?_
    refine x_iincN (m := 1) d_X1_inAll_26 rfl (by decide) (Nat.le_of_ble_eq_true rfl) ?_
    refine x_goto (tgt := 5) d_X1_inAll_29 (by decide) ?_
    exact nG.sub (by exact (And.intro rfl (And.intro rfl (And.intro rfl (And.intro rfl (And.intro rfl True.intro)))))) (ih (k + 1) (by omega))
theorem sp_inAll {c b r : Nat} {D E : Nat → Nat → Nat} (hp : D 0 0 ≤ 24) (hr : r < 20) {h : nPH} (H3 : o3 h b D) (H : o1 h c E) : nRd YX1_inAll [.ref c, .int (nI r), .ref b] h (.long (lN (fb_sm (fun k => E 2 (20 * k + r)) (D 0 0)))) := by
  refine nSp_of (by decide +kernel) rfl (Nat.le_of_ble_eq_true rfl) (ls := [some (.ref (c)), some (.int (nI (r))), some (.ref (b)), none, none, none]) (by exact (And.intro rfl (And.intro rfl (And.intro rfl True.intro)))) ?_
  refine x_lconst (v := lN 0) (by decide) d_X1_inAll_0 ?_
  refine x_lstore_n d_X1_inAll_1 (Nat.le_of_ble_eq_true rfl) ?_
  refine x_iconst (v := nI 0) (by decide) d_X1_inAll_2 ?_
  refine x_istore d_X1_inAll_3 (Nat.le_of_ble_eq_true rfl) ?_
  exact nG.sub (by exact (And.intro rfl (And.intro rfl (And.intro rfl (And.intro rfl (And.intro rfl True.intro)))))) (lp_inAll hp hr H3 H (D 0 0) 0 (by omega))
