/-! the model: a row hangs -/
def mHg (M : Nat → Nat → Nat) (p r k : Nat) : Nat → Nat → Nat := fun f i => if (12 ≤ f ∧ f ≤ 14) ∧ 24 * (20 * p + (r + 1)) ≤ i ∧ i < 24 * (20 * p + (r + 1)) + k then (if f = 12 then fsO (mR M p r) (i - 24 * (20 * p + (r + 1))) + 1 else if f = 13 then sdO (mR M p r) (i - 24 * (20 * p + (r + 1))) else 0) else M f i
theorem mHg_0 (M : Nat → Nat → Nat) (p r f i : Nat) : mHg M p r 0 f i = M f i := if_neg (by omega)
theorem mHg_o {M : Nat → Nat → Nat} {p r k f i : Nat} (h : f < 12) : mHg M p r k f i = M f i := if_neg (by omega)
theorem mHg_s {M : Nat → Nat → Nat} {p r k u t : Nat} (hf : fsO (mR M p r) k = u) (ht : sdO (mR M p r) k = t) (f i : Nat) : mHg M p r (k + 1) f i = u2 (u2 (u2 (mHg M p r k) 12 (24 * (20 * p + (r + 1)) + k) (u + 1)) 13 (24 * (20 * p + (r + 1)) + k) t) 14 (24 * (20 * p + (r + 1)) + k) 0 f i := by
  generalize hx : 24 * (20 * p + (r + 1)) = x
  have e : ∀ k f i, mHg M p r k f i = if (12 ≤ f ∧ f ≤ 14) ∧ x ≤ i ∧ i < x + k then (if f = 12 then fsO (mR M p r) (i - x) + 1 else if f = 13 then sdO (mR M p r) (i - x) else 0) else M f i := fun k f i => by rw [← hx]; rfl
  by_cases h1 : i = x + k ∧ 12 ≤ f ∧ f ≤ 14
  · obtain ⟨rfl, h2, h3⟩ := h1
    rw [e, if_pos (by omega), Nat.add_sub_cancel_left, hf, ht]
    rcases (show f = 12 ∨ f = 13 ∨ f = 14 by omega) with rfl | rfl | rfl
    · rw [u2_ne (by omega), u2_ne (by omega), u2_eq]; rfl
    · rw [u2_ne (by omega), u2_eq]; rfl
    · rw [u2_eq]; rfl
  · rw [u2_ne (by omega), u2_ne (by omega), u2_ne (by omega), e, e]
    by_cases h2 : (12 ≤ f ∧ f ≤ 14) ∧ x ≤ i ∧ i < x + k
    · rw [if_pos (by omega), if_pos h2]
    · rw [if_neg (by omega), if_neg h2]
theorem lp_mnx {h h0 : nPH} {b : Nat} {M : Nat → Nat → Nat} {p r : Nat} (hp : p < 12) (hr : r + 1 < 20) (h24 : M 8 (20 * p + r) ≤ 24) (hg : ∀ k, k < 24 → M 11 (24 * (20 * p + r) + k) ≤ 2) (hof : off (mR M p r) (M 8 (20 * p + r)) ≤ 24) {j k : Nat} (H : o8 h b (mHg M p r j)) (kk : ∀ i, i = gvB (mR M p r) k → nG YX8_hangs (nKy YX8_hangs h0.1 h0.2.1 (fun v h2 => v = none ∧ nFr (nIv b 24) h0 h2 ∧ o8 h2 b (mHg M p r (off (mR M p r) (M 8 (20 * p + r)))))) 0 0 61 [some (.ref (b)), some (.int (nI (p))), some (.int (nI (r + 1))), some (.int (nI (M 8 (20 * p + r)))), some (.int (nI (j))), some (.int (nI (k))), some (.int (nI (i))), none, none, none] [] h) (hk : k < M 8 (20 * p + r)) : ∀ n i : Nat, k < i → i + n = M 8 (20 * p + r) → (gvb (mR M p r) (M 8 (20 * p + r)) n i = gvB (mR M p r) k) → nG YX8_hangs (nKy YX8_hangs h0.1 h0.2.1 (fun v h2 => v = none ∧ nFr (nIv b 24) h0 h2 ∧ o8 h2 b (mHg M p r (off (mR M p r) (M 8 (20 * p + r)))))) 0 0 32 [some (.ref (b)), some (.int (nI (p))), some (.int (nI (r + 1))), some (.int (nI (M 8 (20 * p + r)))), some (.int (nI (j))), some (.int (nI (k))), some (.int (nI (i))), none, none, none] [] h := by
  intro n
  induction n with
  | zero =>
    intro i hi hn hG
    refine x_iload rfl d_X8_hangs_32 ?_
    refine x_iload_n rfl d_X8_hangs_34 ?_
    refine x_icmp_geN (tgt := 61) d_X8_hangs_35 (by decide) (by omega) (by omega) (fun c_1 => ?_) (fun c_1 => by exfalso; omega)
    exact kk i hG
  | succ n ih =>
    intro i hi hn hG
    refine x_iload rfl d_X8_hangs_32 ?_
    refine x_iload_n rfl d_X8_hangs_34 ?_
    refine x_icmp_geN (tgt := 61) d_X8_hangs_35 (by decide) (by omega) (by omega) (fun c_1 => by exfalso; omega) (fun c_1 => ?_)
    refine x_aload_n rfl d_X8_hangs_38 ?_
    refine x_getf co_all (v := .ref (b + 10)) d_X8_hangs_39 fk_8_42 (o8_o H) rfl ?_
    refine x_iload_n rfl d_X8_hangs_42 ?_
    refine x_iload_n rfl d_X8_hangs_43 ?_
    refine x_iconst (v := nI 1) (by decide) d_X8_hangs_44 ?_
    refine x_isubN d_X8_hangs_45 (by omega) ?_
    rw [Nat.add_sub_cancel]
    refine x_iload rfl d_X8_hangs_46 ?_
    refine x_rdS d_X8_hangs_48 lk_8_99 mo_X8_at sc_X8_at (sp_at) rfl ⟨Nat.le_of_ble_eq_true rfl, Nat.le_of_ble_eq_true rfl⟩ rfl rfl (Nat.zero_le _) (Nat.zero_le _) (Nat.le_of_ble_eq_true rfl) rfl ?_
    refine x_iaload d_X8_hangs_51 (o8_11 H) (nIx_nI (j := 24 * (20 * p + r) + i) (by omega) (by decide)) ?_
    show nG _ _ _ _ _ _ (.int (nI (mHg M p r j 11 (24 * (20 * p + r) + i))) :: _) _
    rw [mHg_o (by decide)]
    refine x_if_neN (tgt := 61) d_X8_hangs_52 (by decide) (by have := hg i (by omega); omega) (fun c_2 => ?_) (fun c_2 => ?_)
    · refine kk i ?_
      rw [← hG]
      show _ = if M 8 (20 * p + r) ≤ i then M 8 (20 * p + r) else if 0 < mR M p r 2 i then i else gvb (mR M p r) (M 8 (20 * p + r)) n (i + 1)
      rw [if_neg (by omega), mR_2, if_pos (by omega)]
    · refine x_iincN (m := 1) d_X8_hangs_55 rfl (by decide) (Nat.le_of_ble_eq_true rfl) ?_
      refine x_goto (tgt := 32) d_X8_hangs_58 (by decide) ?_
      refine nG.eq rfl rfl rfl rfl rfl (ih (i + 1) (by omega) (by omega) ?_)
      rw [← hG]
      show _ = if M 8 (20 * p + r) ≤ i then M 8 (20 * p + r) else if 0 < mR M p r 2 i then i else gvb (mR M p r) (M 8 (20 * p + r)) n (i + 1)
      rw [if_neg (by omega), mR_2, if_neg (by omega)]
