def ssd (on g s : Nat) : Nat := if on = 0 then sset g s else sclr g s
theorem rOK_ssd {D : Nat → Nat → Nat} (R : rOK D) {k s : Nat} (on : Nat) (hs : s < D 5 k) : rOK (u2 D 6 k (ssd on (D 6 k) s)) := by
  refine ⟨R.1, fun j hj => ?_⟩
  obtain ⟨r1, r2, r3, r4, r5, r6⟩ := R.2 j hj
  refine ⟨r1, r2, r3, r4, r5, ?_⟩
  by_cases e : j = k
  · subst e
    rw [u2_eq, u2_ne (by omega)]
    unfold ssd
    split
    · exact sset_lt r6 hs
    · exact sclr_lt r6
  · rw [u2_ne (by omega), u2_ne (by omega)]
    exact r6
def sto (D : Nat → Nat → Nat) (on k q : Nat) : Nat → Nat → Nat := if hgb D k q = true then u2 D 6 k (ssd on (D 6 k) (q - D 4 k)) else D
theorem rOK_sto {D : Nat → Nat → Nat} (R : rOK D) (on k q : Nat) : rOK (sto D on k q) := by
  unfold sto
  split
  · rename_i h
    have := hgb_T.mp h
    exact rOK_ssd R on (by omega)
  · exact R
def gvo (z : Nat) : Nat := if z = 1 then 2 else if z = 2 then 0 else 1
theorem gvo_le (z : Nat) : gvo z ≤ 2 := by unfold gvo; split <;> (try split) <;> omega
def tke (e z k : Nat) : Nat := if (k + 1) % e = 0 ∧ ¬ (z = 2 ∧ k = 0) then z else 0
def rTE (e z n : Nat) (D : Nat → Nat → Nat) : Nat → Nat → Nat := fun f i => if f = 1 ∧ i < n then tke e z i else if f = 2 ∧ i < n then gvo (tke e z i) else D f i
theorem rTE_0 (e z : Nat) (D : Nat → Nat → Nat) (f i : Nat) : rTE e z 0 D f i = D f i := by unfold rTE; rw [if_neg (by omega), if_neg (by omega)]
theorem rTE_s {e z n t : Nat} {D : Nat → Nat → Nat} (ht : tke e z n = t) (f i : Nat) : rTE e z (n + 1) D f i = u2 (u2 (rTE e z n D) 1 n t) 2 n (gvo t) f i := by
  subst ht
  unfold u2 rTE
  by_cases h1 : f = 1 <;> by_cases h2 : f = 2 <;> by_cases h3 : i = n <;> by_cases h4 : i < n <;> simp_all <;> (try omega)
  all_goals first | (intro h; omega) | (rw [if_neg (by omega), if_neg (by omega)])
theorem rOK_TE {e z n : Nat} {D : Nat → Nat → Nat} (R : rOK D) (hz : z ≤ 3) : rOK (rTE e z n D) := by
  refine ⟨by unfold rTE; simpa using R.1, fun j hj => ?_⟩
  obtain ⟨r1, r2, r3, r4, r5, r6⟩ := R.2 j hj
  refine ⟨?_, ?_, r3, r4, r5, r6⟩
  · unfold rTE tke
    split
    · split <;> omega
    · simpa using r1
  · unfold rTE
    split
    · omega
    · split
      · exact gvo_le _
      · exact r2
/-- how many knots of the row below come from the knots ahead of n -/
def off (E : Nat → Nat → Nat) (n : Nat) : Nat := fb_sm (fun i => E 2 i) n
def hgo (E : Nat → Nat → Nat) : Nat → Nat → Nat
  | 0, _ => 0
  | n + 1, i => if off E n ≤ i then n else hgo E n i
def fsO (E : Nat → Nat → Nat) (i : Nat) : Nat := hgo E (E 0 0) i
def sdO (E : Nat → Nat → Nat) (i : Nat) : Nat := gvB E (fsO E i) - fsO E i + nB (i + 1 = off E (fsO E i + 1) ∧ gvB E (fsO E i) < E 0 0)
theorem off_s (E : Nat → Nat → Nat) (n : Nat) : off E (n + 1) = off E n + E 2 n := rfl
theorem off_mono (E : Nat → Nat → Nat) {m n : Nat} (h : m ≤ n) : off E m ≤ off E n := by
  obtain ⟨d, rfl⟩ := Nat.exists_eq_add_of_le h
  exact fb_sm_mono _ m d
theorem hgo_eq {E : Nat → Nat → Nat} {f i : Nat} (h1 : off E f ≤ i) (h2 : i < off E (f + 1)) : ∀ n, f < n → hgo E n i = f := by
  intro n
  induction n with
  | zero => intro h; omega
  | succ n ih =>
    intro h
    unfold hgo
    by_cases e : f = n
    · subst e; rw [if_pos h1]
    · have : off E (f + 1) ≤ off E n := off_mono E (by omega)
      rw [if_neg (by omega)]
      exact ih (by omega)
theorem fsO_eq {E : Nat → Nat → Nat} {f i : Nat} (hf : f < E 0 0) (h1 : off E f ≤ i) (h2 : i < off E (f + 1)) : fsO E i = f := hgo_eq h1 h2 _ hf
def rHG (E : Nat → Nat → Nat) (n : Nat) (D : Nat → Nat → Nat) : Nat → Nat → Nat := fun f i => if i < n then (if f = 4 then fsO E i else if f = 5 then sdO E i else if f = 6 then 0 else D f i) else D f i
theorem rHG_00 {E : Nat → Nat → Nat} {n : Nat} {D : Nat → Nat → Nat} {i : Nat} : rHG E n D 0 i = D 0 i := by unfold rHG; split <;> simp
theorem rHG_0 (E : Nat → Nat → Nat) (D : Nat → Nat → Nat) (f i : Nat) : rHG E 0 D f i = D f i := by unfold rHG; rw [if_neg (by omega)]
theorem rHG_s {E D : Nat → Nat → Nat} {n f t : Nat} (hf : fsO E n = f) (ht : sdO E n = t) (g i : Nat) : rHG E (n + 1) D g i = u2 (u2 (u2 (rHG E n D) 4 n f) 5 n t) 6 n 0 g i := by
  subst hf
  subst ht
  unfold u2 rHG
  by_cases h1 : g = 4 <;> by_cases h2 : g = 5 <;> by_cases h5 : g = 6 <;> by_cases h3 : i = n <;> by_cases h4 : i < n <;> simp_all <;> (try omega)
  all_goals first | (intro h; omega) | (rw [if_neg (by omega), if_neg (by omega)])
theorem gvb_rg (D : Nat → Nat → Nat) (n : Nat) : ∀ f i, i ≤ n → n ≤ i + f → i ≤ gvb D n f i ∧ gvb D n f i ≤ n := by
  intro f
  induction f with
  | zero => intro i h1 h2; unfold gvb; omega
  | succ f ih =>
    intro i h1 h2
    unfold gvb
    split
    · omega
    · split
      · omega
      · have := ih (i + 1) (by omega) (by omega); omega
theorem gvB_rg {D : Nat → Nat → Nat} {k : Nat} (h : k < D 0 0) : k < gvB D k ∧ gvB D k ≤ D 0 0 := by
  have := gvb_rg D (D 0 0) (D 0 0 - k) (k + 1) (by omega) (by omega)
  unfold gvB
  omega

theorem sp_setSide {h : nPH} {a : Nat} {D : Nat → Nat → Nat} (H : o3 h a D) (R : rOK D) {k : Nat} (hk : k < 24) {s on : Nat} (hs : s < 24) (hon : on ≤ 1) : nWv YX3_setSide [.ref (a), .int (nI (k)), .int (nI (s)), .int (nI (on))] h none (fun h2 => nFr (nIv a 7) h h2 ∧ o3 h2 a (u2 D 6 k (ssd on (D 6 k) s))) := by
  obtain ⟨r1, r2, r3, r4, r5, r6⟩ := R.2 k hk
  have r7 := rOK_6 R hk
  refine nSp_of (by decide +kernel) rfl (Nat.le_of_ble_eq_true rfl) (ls := [some (.ref (a)), some (.int (nI (k))), some (.int (nI (s))), some (.int (nI (on)))]) (by exact (And.intro rfl (And.intro rfl (And.intro rfl (And.intro rfl True.intro))))) ?_
  refine x_aload_n rfl d_X3_setSide_0 ?_
  refine x_getf co_all (v := .ref (a + 6)) d_X3_setSide_1 fk_3_27 (o3_o H) rfl ?_
  refine x_iload_n rfl d_X3_setSide_4 ?_
  refine x_iload_n rfl d_X3_setSide_5 ?_
  refine x_if_eqN (tgt := 24) d_X3_setSide_6 (by decide) (by omega) (fun c_1 => ?_) (fun c_1 => ?_)
  · refine x_aload_n rfl d_X3_setSide_24 ?_
    refine x_getf co_all (v := .ref (a + 6)) d_X3_setSide_25 fk_3_27 (o3_o H) rfl ?_
    refine x_iload_n rfl d_X3_setSide_28 ?_
    refine x_iaload d_X3_setSide_29 (o3_6 H) (nIx_nI (j := k) (by omega) (by decide)) ?_
    refine x_iconst (v := nI 1) (by decide) d_X3_setSide_30 ?_
    refine x_iload_n rfl d_X3_setSide_31 ?_
    refine x_ishl d_X3_setSide_32 ?_
    rw [nI_shl1 (by omega)]
    refine x_ior d_X3_setSide_33 ?_
    rw [nI_set]
    refine x_iastore d_X3_setSide_34 (o3_6 H) (nIx_nI (j := k) (by omega) (by decide)) (Nat.le_trans (o3_B H) (Nat.le_add_right _ _)) ?_
    have H2_3 := o3_ast6 (k) (sset (D 6 k) s) H
    have f_3 := o3_f6 (k) (sset (D 6 k) s) H ((nFr.rf (S := nIv a 7) (h := h))) (by exact ⟨by omega, by omega⟩)
    exact x_return d_X3_setSide_35 rfl (f_3).1 (f_3).2.1 (Nat.zero_le _) (Nat.zero_le _) (⟨rfl, f_3, by rw [show ssd on (D 6 k) s = sset (D 6 k) s from if_pos c_1]; exact H2_3⟩)
  · refine x_aload_n rfl d_X3_setSide_9 ?_
    refine x_getf co_all (v := .ref (a + 6)) d_X3_setSide_10 fk_3_27 (o3_o H) rfl ?_
    refine x_iload_n rfl d_X3_setSide_13 ?_
    refine x_iaload d_X3_setSide_14 (o3_6 H) (nIx_nI (j := k) (by omega) (by decide)) ?_
    refine x_iconst (v := nI 1) (by decide) d_X3_setSide_15 ?_
    refine x_iload_n rfl d_X3_setSide_16 ?_
    refine x_ishl d_X3_setSide_17 ?_
    rw [nI_shl1 (by omega)]
    refine x_iconst (v := -1) (by decide) d_X3_setSide_18 ?_
    refine x_ixor d_X3_setSide_19 ?_
    refine x_iand d_X3_setSide_20 ?_
    rw [nI_clr (by omega)]
    refine x_goto (tgt := 34) d_X3_setSide_21 (by decide) ?_
    refine x_iastore d_X3_setSide_34 (o3_6 H) (nIx_nI (j := k) (by omega) (by decide)) (Nat.le_trans (o3_B H) (Nat.le_add_right _ _)) ?_
    have H4_3 := o3_ast6 (k) (sclr (D 6 k) s) H
    have f_5 := o3_f6 (k) (sclr (D 6 k) s) H ((nFr.rf (S := nIv a 7) (h := h))) (by exact ⟨by omega, by omega⟩)
    exact x_return d_X3_setSide_35 rfl (f_5).1 (f_5).2.1 (Nat.zero_le _) (Nat.zero_le _) (⟨rfl, f_5, by rw [show ssd on (D 6 k) s = sclr (D 6 k) s from if_neg c_1]; exact H4_3⟩)
theorem sp_setSideTo {h : nPH} {a : Nat} {D : Nat → Nat → Nat} (H : o3 h a D) (R : rOK D) {k : Nat} (hk : k < 24) {q on : Nat} (hq : q < 2 ^ 30) (hon : on ≤ 1) : nWv YX3_setSideTo [.ref (a), .int (nI (k)), .int (nI (q)), .int (nI (on))] h none (fun h2 => nFr (nIv a 7) h h2 ∧ o3 h2 a (sto D on k q)) := by
  obtain ⟨r1, r2, r3, r4, r5, r6⟩ := R.2 k hk
  have r7 := rOK_6 R hk
  have hle := nb_le (hgb D k q)
  refine nSp_of (by decide +kernel) rfl (Nat.le_of_ble_eq_true rfl) (ls := [some (.ref (a)), some (.int (nI (k))), some (.int (nI (q))), some (.int (nI (on)))]) (by exact (And.intro rfl (And.intro rfl (And.intro rfl (And.intro rfl True.intro))))) ?_
  refine x_aload_n rfl d_X3_setSideTo_0 ?_
  refine x_iload_n rfl d_X3_setSideTo_1 ?_
  refine x_iload_n rfl d_X3_setSideTo_2 ?_
  refine x_rdV d_X3_setSideTo_3 lk_3_63 mo_X3_hangsBy vi_X3_hangsBy (sp_hangsBy H R hk (q := q) (by omega)) (o3_o H) ⟨_, rfl, rfl⟩ rfl ⟨Nat.le_of_ble_eq_true rfl, Nat.le_of_ble_eq_true rfl⟩ rfl rfl (Nat.zero_le _) (Nat.zero_le _) (Nat.le_of_ble_eq_true rfl) rfl ?_
  refine x_if_eqN (tgt := 23) d_X3_setSideTo_6 (by decide) (by omega) (fun c_1 => ?_) (fun c_1 => ?_)
  · exact x_return d_X3_setSideTo_23 rfl rfl rfl (Nat.zero_le _) (Nat.zero_le _) (⟨rfl, nFr.rf, by unfold sto; rw [if_neg (by rw [nb_0.mp c_1]; decide)]; exact H⟩)
  · refine x_aload_n rfl d_X3_setSideTo_9 ?_
    refine x_iload_n rfl d_X3_setSideTo_10 ?_
    refine x_iload_n rfl d_X3_setSideTo_11 ?_
    refine x_aload_n rfl d_X3_setSideTo_12 ?_
    refine x_getf co_all (v := .ref (a + 4)) d_X3_setSideTo_13 fk_3_21 (o3_o H) rfl ?_
    refine x_iload_n rfl d_X3_setSideTo_16 ?_
    refine x_iaload d_X3_setSideTo_17 (o3_4 H) (nIx_nI (j := k) (by omega) (by decide)) ?_
    have hg := hgb_T.mp (nb_n0.mp c_1)
    refine x_isubN d_X3_setSideTo_18 (by omega) ?_
    refine x_iload_n rfl d_X3_setSideTo_19 ?_
    refine x_wvV d_X3_setSideTo_20 lk_3_69 mo_X3_setSide vi_X3_setSide (sp_setSide H R hk (s := q - D 4 k) (on := on) (by omega) hon) (o3_o H) ⟨_, rfl, rfl⟩ rfl ⟨Nat.le_of_ble_eq_true rfl, Nat.le_of_ble_eq_true rfl⟩ (Nat.zero_le _) (Nat.zero_le _) (Nat.le_of_ble_eq_true rfl) rfl (fun h2 hp e1 e2 => ?_)
    exact x_return d_X3_setSideTo_23 rfl e1 e2 (Nat.zero_le _) (Nat.zero_le _) ⟨rfl, hp.1, by unfold sto; rw [if_pos (nb_n0.mp c_1)]; exact hp.2⟩
theorem sp_turn {h : nPH} {a : Nat} {D : Nat → Nat → Nat} (H : o3 h a D) {k : Nat} (hk : k < 24) {z : Nat} (hz : z ≤ 3) : nWv YX3_turn [.ref (a), .int (nI (k)), .int (nI (z))] h none (fun h2 => nFr (nIv a 7) h h2 ∧ o3 h2 a (u2 (u2 D 1 k z) 2 k (gvo z))) := by
  refine nSp_of (by decide +kernel) rfl (Nat.le_of_ble_eq_true rfl) (ls := [some (.ref (a)), some (.int (nI (k))), some (.int (nI (z)))]) (by exact (And.intro rfl (And.intro rfl (And.intro rfl True.intro)))) ?_
  refine x_aload_n rfl d_X3_turn_0 ?_
  refine x_getf co_all (v := .ref (a + 1)) d_X3_turn_1 fk_3_9 (o3_o H) rfl ?_
  refine x_iload_n rfl d_X3_turn_4 ?_
  refine x_iload_n rfl d_X3_turn_5 ?_
  refine x_iastore d_X3_turn_6 (o3_1 H) (nIx_nI (j := k) (by omega) (by decide)) (Nat.le_trans (o3_B H) (Nat.le_add_right _ _)) ?_
  have H1_3 := o3_ast1 (k) (z) H
  have f_2 := o3_f1 (k) (z) H ((nFr.rf (S := nIv a 7) (h := h))) (by exact ⟨by omega, by omega⟩)
  refine x_aload_n rfl d_X3_turn_7 ?_
  refine x_getf co_all (v := .ref (a + 2)) d_X3_turn_8 fk_3_15 (o3_o H1_3) rfl ?_
  refine x_iload_n rfl d_X3_turn_11 ?_
  refine x_iload_n rfl d_X3_turn_12 ?_
  refine x_iconst (v := nI 1) (by decide) d_X3_turn_13 ?_
  refine x_icmp_neN (tgt := 21) d_X3_turn_14 (by decide) (by omega) (by omega) (fun c_3 => ?_) (fun c_3 => ?_)
  · refine x_iload_n rfl d_X3_turn_21 ?_
    refine x_iconst (v := nI 2) (by decide) d_X3_turn_22 ?_
    refine x_icmp_neN (tgt := 30) d_X3_turn_23 (by decide) (by omega) (by omega) (fun c_4 => ?_) (fun c_4 => ?_)
    · refine x_iconst (v := nI 1) (by decide) d_X3_turn_30 ?_
      refine x_iastore d_X3_turn_31 (o3_2 H1_3) (nIx_nI (j := k) (by omega) (by decide)) (Nat.le_trans (o3_B H1_3) (Nat.le_add_right _ _)) ?_
      have H5_3 := o3_ast2 (k) (1) H1_3
      have f_6 := o3_f2 (k) (1) H1_3 (f_2) (by exact ⟨by omega, by omega⟩)
      exact x_return d_X3_turn_32 rfl (f_6).1 (f_6).2.1 (Nat.zero_le _) (Nat.zero_le _) (⟨rfl, f_6, by rw [show gvo z = 1 by unfold gvo; first | rw [if_pos (by omega)] | rw [if_neg (by omega), if_pos (by omega)] | rw [if_neg (by omega), if_neg (by omega)]]; exact H5_3⟩)
    · refine x_iconst (v := nI 0) (by decide) d_X3_turn_26 ?_
      refine x_goto (tgt := 31) d_X3_turn_27 (by decide) ?_
      refine x_iastore d_X3_turn_31 (o3_2 H1_3) (nIx_nI (j := k) (by omega) (by decide)) (Nat.le_trans (o3_B H1_3) (Nat.le_add_right _ _)) ?_
      have H7_3 := o3_ast2 (k) (0) H1_3
      have f_8 := o3_f2 (k) (0) H1_3 (f_2) (by exact ⟨by omega, by omega⟩)
      exact x_return d_X3_turn_32 rfl (f_8).1 (f_8).2.1 (Nat.zero_le _) (Nat.zero_le _) (⟨rfl, f_8, by rw [show gvo z = 0 by unfold gvo; first | rw [if_pos (by omega)] | rw [if_neg (by omega), if_pos (by omega)] | rw [if_neg (by omega), if_neg (by omega)]]; exact H7_3⟩)
  · refine x_iconst (v := nI 2) (by decide) d_X3_turn_17 ?_
    refine x_goto (tgt := 31) d_X3_turn_18 (by decide) ?_
    refine x_iastore d_X3_turn_31 (o3_2 H1_3) (nIx_nI (j := k) (by omega) (by decide)) (Nat.le_trans (o3_B H1_3) (Nat.le_add_right _ _)) ?_
    have H9_3 := o3_ast2 (k) (2) H1_3
    have f_10 := o3_f2 (k) (2) H1_3 (f_2) (by exact ⟨by omega, by omega⟩)
    exact x_return d_X3_turn_32 rfl (f_10).1 (f_10).2.1 (Nat.zero_le _) (Nat.zero_le _) (⟨rfl, f_10, by rw [show gvo z = 2 by unfold gvo; first | rw [if_pos (by omega)] | rw [if_neg (by omega), if_pos (by omega)] | rw [if_neg (by omega), if_neg (by omega)]]; exact H9_3⟩)
theorem lp_turnEvery {h0 : nPH} {a : Nat} {D : Nat → Nat → Nat} (R : D 0 0 ≤ 24) {e z : Nat} (he : 1 ≤ e) (he2 : e ≤ 24) (hz : 1 ≤ z) (hz2 : z ≤ 2) : ∀ n k : Nat, ∀ h : nPH, k + n = D 0 0 → nFr (nIv a 7) h0 h → o3 h a (rTE e z k D) → nG YX3_turnEvery (nKy YX3_turnEvery h0.1 h0.2.1 (fun v h2 => v = none ∧ nFr (nIv a 7) h0 h2 ∧ o3 h2 a (rTE e z (D 0 0) D))) 0 0 2 [some (.ref (a)), some (.int (nI (e))), some (.int (nI (z))), some (.int (nI (k))), none] [] h := by
  intro n
  induction n with
  | zero =>
    intro k h hk F H
    have e0 : rTE e z k D 0 0 = D 0 0 := by unfold rTE; rw [if_neg (by omega), if_neg (by omega)]
    refine x_iload_n rfl d_X3_turnEvery_2 ?_
    refine x_aload_n rfl d_X3_turnEvery_3 ?_
    refine x_getf co_all (v := .int (nI ((rTE e z k D) 0 0))) d_X3_turnEvery_4 fk_3_34 (o3_o H) rfl ?_
    refine x_icmp_geN (tgt := 59) d_X3_turnEvery_7 (by decide) (by omega) (by omega) (fun c_1 => ?_) (fun c_1 => by exfalso; omega)
    exact x_return d_X3_turnEvery_59 rfl F.1 F.2.1 (Nat.zero_le _) (Nat.zero_le _) (⟨rfl, F, by rw [show D 0 0 = k by omega]; exact H⟩)
  | succ n ih =>
    intro k h hk F H
    have e0 : rTE e z k D 0 0 = D 0 0 := by unfold rTE; rw [if_neg (by omega), if_neg (by omega)]
    refine x_iload_n rfl d_X3_turnEvery_2 ?_
    refine x_aload_n rfl d_X3_turnEvery_3 ?_
    refine x_getf co_all (v := .int (nI ((rTE e z k D) 0 0))) d_X3_turnEvery_4 fk_3_34 (o3_o H) rfl ?_
    refine x_icmp_geN (tgt := 59) d_X3_turnEvery_7 (by decide) (by omega) (by omega) (fun c_1 => by exfalso; omega) (fun c_1 => ?_)
    refine x_iload_n rfl d_X3_turnEvery_10 ?_
    refine x_if_leN (tgt := 35) d_X3_turnEvery_11 (by decide) (by omega) (fun c_2 => by exfalso; omega) (fun c_2 => ?_)
    refine x_iload_n rfl d_X3_turnEvery_14 ?_
    refine x_iconst (v := nI 1) (by decide) d_X3_turnEvery_15 ?_
    refine x_iaddN d_X3_turnEvery_16 ?_
    refine x_iload_n rfl d_X3_turnEvery_17 ?_
    refine x_iremN d_X3_turnEvery_18 (by omega) (by omega) (by omega) ?_
    refine x_if_neN (tgt := 35) d_X3_turnEvery_19 (by decide) (by exact Nat.lt_of_lt_of_le (Nat.mod_lt _ (by omega)) (by omega)) (fun c_3 => ?_) (fun c_3 => ?_)
    · refine x_iconst (v := nI 0) (by decide) d_X3_turnEvery_35 ?_
      refine x_istore d_X3_turnEvery_36 (Nat.le_of_ble_eq_true rfl) ?_
      refine x_aload_n rfl d_X3_turnEvery_38 ?_
      refine x_iload_n rfl d_X3_turnEvery_39 ?_
      refine x_iload rfl d_X3_turnEvery_40 ?_
      refine x_if_eqN (tgt := 49) d_X3_turnEvery_42 (by decide) (by omega) (fun c_4 => ?_) (fun c_4 => by exfalso; omega)
      refine x_iconst (v := nI 0) (by decide) d_X3_turnEvery_49 ?_
      refine x_wvV d_X3_turnEvery_50 lk_3_47 mo_X3_turn vi_X3_turn (sp_turn H (k := k) (by omega) (z := 0) (by omega)) (o3_o H) ⟨_, rfl, rfl⟩ rfl ⟨Nat.le_of_ble_eq_true rfl, Nat.le_of_ble_eq_true rfl⟩ (Nat.zero_le _) (Nat.zero_le _) (Nat.le_of_ble_eq_true rfl) rfl (fun h2 hp e1 e2 => ?_)
      refine x_iincN (m := 1) d_X3_turnEvery_53 rfl (by decide) (Nat.le_of_ble_eq_true rfl) ?_
      refine x_goto (tgt := 2) d_X3_turnEvery_56 (by decide) ?_
      exact nG.sub (by exact (And.intro rfl (And.intro rfl (And.intro rfl (And.intro rfl True.intro))))) (ih (k + 1) h2 (by omega) (F.tr hp.1) (o3_cg hp.2 (rTE_s (by unfold tke; rw [if_neg (by omega)]))))
    · refine x_iload_n rfl d_X3_turnEvery_22 ?_
      refine x_iconst (v := nI 2) (by decide) d_X3_turnEvery_23 ?_
      refine x_icmp_neN (tgt := 31) d_X3_turnEvery_24 (by decide) (by omega) (by omega) (fun c_5 => ?_) (fun c_5 => ?_)
      · refine x_iconst (v := nI 1) (by decide) d_X3_turnEvery_31 ?_
        refine x_goto (tgt := 36) d_X3_turnEvery_32 (by decide) ?_
        refine x_istore d_X3_turnEvery_36 (Nat.le_of_ble_eq_true rfl) ?_
        refine x_aload_n rfl d_X3_turnEvery_38 ?_
        refine x_iload_n rfl d_X3_turnEvery_39 ?_
        refine x_iload rfl d_X3_turnEvery_40 ?_
        refine x_if_eqN (tgt := 49) d_X3_turnEvery_42 (by decide) (by omega) (fun c_6 => by exfalso; omega) (fun c_6 => ?_)
        refine x_iload_n rfl d_X3_turnEvery_45 ?_
        refine x_goto (tgt := 50) d_X3_turnEvery_46 (by decide) ?_
        refine x_wvV d_X3_turnEvery_50 lk_3_47 mo_X3_turn vi_X3_turn (sp_turn H (k := k) (by omega) (z := z) (by omega)) (o3_o H) ⟨_, rfl, rfl⟩ rfl ⟨Nat.le_of_ble_eq_true rfl, Nat.le_of_ble_eq_true rfl⟩ (Nat.zero_le _) (Nat.zero_le _) (Nat.le_of_ble_eq_true rfl) rfl (fun h2 hp e1 e2 => ?_)
        refine x_iincN (m := 1) d_X3_turnEvery_53 rfl (by decide) (Nat.le_of_ble_eq_true rfl) ?_
        refine x_goto (tgt := 2) d_X3_turnEvery_56 (by decide) ?_
        exact nG.sub (by exact (And.intro rfl (And.intro rfl (And.intro rfl (And.intro rfl True.intro))))) (ih (k + 1) h2 (by omega) (F.tr hp.1) (o3_cg hp.2 (rTE_s (by unfold tke; rw [if_pos ⟨by omega, by omega⟩]))))
      · refine x_iload_n rfl d_X3_turnEvery_27 ?_
        refine x_if_eqN (tgt := 35) d_X3_turnEvery_28 (by decide) (by omega) (fun c_7 => ?_) (fun c_7 => ?_)
        · refine x_iconst (v := nI 0) (by decide) d_X3_turnEvery_35 ?_
          refine x_istore d_X3_turnEvery_36 (Nat.le_of_ble_eq_true rfl) ?_
          refine x_aload_n rfl d_X3_turnEvery_38 ?_
          refine x_iload_n rfl d_X3_turnEvery_39 ?_
          refine x_iload rfl d_X3_turnEvery_40 ?_
          refine x_if_eqN (tgt := 49) d_X3_turnEvery_42 (by decide) (by omega) (fun c_8 => ?_) (fun c_8 => by exfalso; omega)
          refine x_iconst (v := nI 0) (by decide) d_X3_turnEvery_49 ?_
          refine x_wvV d_X3_turnEvery_50 lk_3_47 mo_X3_turn vi_X3_turn (sp_turn H (k := k) (by omega) (z := 0) (by omega)) (o3_o H) ⟨_, rfl, rfl⟩ rfl ⟨Nat.le_of_ble_eq_true rfl, Nat.le_of_ble_eq_true rfl⟩ (Nat.zero_le _) (Nat.zero_le _) (Nat.le_of_ble_eq_true rfl) rfl (fun h2 hp e1 e2 => ?_)
          refine x_iincN (m := 1) d_X3_turnEvery_53 rfl (by decide) (Nat.le_of_ble_eq_true rfl) ?_
          refine x_goto (tgt := 2) d_X3_turnEvery_56 (by decide) ?_
          exact nG.sub (by exact (And.intro rfl (And.intro rfl (And.intro rfl (And.intro rfl True.intro))))) (ih (k + 1) h2 (by omega) (F.tr hp.1) (o3_cg hp.2 (rTE_s (by unfold tke; rw [if_neg (by omega)]))))
        · refine x_iconst (v := nI 1) (by decide) d_X3_turnEvery_31 ?_
          refine x_goto (tgt := 36) d_X3_turnEvery_32 (by decide) ?_
          refine x_istore d_X3_turnEvery_36 (Nat.le_of_ble_eq_true rfl) ?_
          refine x_aload_n rfl d_X3_turnEvery_38 ?_
          refine x_iload_n rfl d_X3_turnEvery_39 ?_
          refine x_iload rfl d_X3_turnEvery_40 ?_
          refine x_if_eqN (tgt := 49) d_X3_turnEvery_42 (by decide) (by omega) (fun c_9 => by exfalso; omega) (fun c_9 => ?_)
          refine x_iload_n rfl d_X3_turnEvery_45 ?_
          refine x_goto (tgt := 50) d_X3_turnEvery_46 (by decide) ?_
          refine x_wvV d_X3_turnEvery_50 lk_3_47 mo_X3_turn vi_X3_turn (sp_turn H (k := k) (by omega) (z := z) (by omega)) (o3_o H) ⟨_, rfl, rfl⟩ rfl ⟨Nat.le_of_ble_eq_true rfl, Nat.le_of_ble_eq_true rfl⟩ (Nat.zero_le _) (Nat.zero_le _) (Nat.le_of_ble_eq_true rfl) rfl (fun h2 hp e1 e2 => ?_)
          refine x_iincN (m := 1) d_X3_turnEvery_53 rfl (by decide) (Nat.le_of_ble_eq_true rfl) ?_
          refine x_goto (tgt := 2) d_X3_turnEvery_56 (by decide) ?_
          exact nG.sub (by exact (And.intro rfl (And.intro rfl (And.intro rfl (And.intro rfl True.intro))))) (ih (k + 1) h2 (by omega) (F.tr hp.1) (o3_cg hp.2 (rTE_s (by unfold tke; rw [if_pos ⟨by omega, by omega⟩]))))
theorem sp_turnEvery {h : nPH} {a : Nat} {D : Nat → Nat → Nat} (H : o3 h a D) (R : D 0 0 ≤ 24) {e z : Nat} (he : 1 ≤ e) (he2 : e ≤ 24) (hz : 1 ≤ z) (hz2 : z ≤ 2) : nWv YX3_turnEvery [.ref a, .int (nI e), .int (nI z)] h none (fun h2 => nFr (nIv a 7) h h2 ∧ o3 h2 a (rTE e z (D 0 0) D)) := by
  refine nSp_of (by decide +kernel) rfl (Nat.le_of_ble_eq_true rfl) (ls := [some (.ref (a)), some (.int (nI (e))), some (.int (nI (z))), none, none]) (by exact (And.intro rfl (And.intro rfl (And.intro rfl True.intro)))) ?_
  refine x_iconst (v := nI 0) (by decide) d_X3_turnEvery_0 ?_
  refine x_istore_n d_X3_turnEvery_1 (Nat.le_of_ble_eq_true rfl) ?_
  exact nG.sub (by exact (And.intro rfl (And.intro rfl (And.intro rfl (And.intro rfl True.intro))))) (lp_turnEvery R he he2 hz hz2 (D 0 0) 0 h (by omega) nFr.rf (o3_cg H (rTE_0 e z D)))
def rHN (n : Nat) (D : Nat → Nat → Nat) : Nat → Nat → Nat := fun f i => if (f = 5 ∨ f = 6) ∧ i < n then 0 else D f i
theorem rHN_s (n : Nat) (D : Nat → Nat → Nat) (f i : Nat) : rHN (n + 1) D f i = u2 (u2 (rHN n D) 5 n 0) 6 n 0 f i := by
  unfold u2 rHN
  by_cases h1 : f = 5 <;> by_cases h2 : f = 6 <;> by_cases h3 : i = n <;> by_cases h4 : i < n <;> simp_all <;> (try omega)
  all_goals first | (intro h; omega) | (rw [if_neg (by omega), if_neg (by omega)])
theorem rOK_HN {n : Nat} {D : Nat → Nat → Nat} (R : rOK D) : rOK (rHN n D) := by
  refine ⟨by unfold rHN; rw [if_neg (by omega)]; exact R.1, fun j hj => ?_⟩
  obtain ⟨r1, r2, r3, r4, r5, r6⟩ := R.2 j hj
  unfold rHN
  refine ⟨by rw [if_neg (by omega)]; exact r1, by rw [if_neg (by omega)]; exact r2, by rw [if_neg (by omega)]; exact r3, by rw [if_neg (by omega)]; exact r4, by split <;> omega, ?_⟩
  by_cases h : j < n
  · rw [if_pos ⟨Or.inr rfl, h⟩]; exact Nat.two_pow_pos _
  · rw [if_neg (by omega), if_neg (by omega)]; exact r6
theorem lp_hangN {h0 : nPH} {a : Nat} {D : Nat → Nat → Nat} : ∀ n k : Nat, ∀ h : nPH, k + n = 24 → nFr (nIv a 7) h0 h → o3 h a (rHN k D) → nG YX3_hangInNothing (nKy YX3_hangInNothing h0.1 h0.2.1 (fun v h2 => v = none ∧ nFr (nIv a 7) h0 h2 ∧ o3 h2 a (rHN 24 D))) 0 0 2 [some (.ref (a)), some (.int (nI (k)))] [] h := by
  intro n
  induction n with
  | zero =>
    intro k h hk F H
    refine x_iload_n rfl d_X3_hangInNothing_2 ?_
    refine x_bipush (v := nI 24) (by decide) d_X3_hangInNothing_3 ?_
    refine x_icmp_geN (tgt := 28) d_X3_hangInNothing_5 (by decide) (by omega) (by omega) (fun c_1 => ?_) (fun c_1 => by exfalso; omega)
    exact x_return d_X3_hangInNothing_28 rfl F.1 F.2.1 (Nat.zero_le _) (Nat.zero_le _) (⟨rfl, F, by rw [show 24 = k by omega]; exact H⟩)
  | succ n ih =>
    intro k h hk F H
    refine x_iload_n rfl d_X3_hangInNothing_2 ?_
    refine x_bipush (v := nI 24) (by decide) d_X3_hangInNothing_3 ?_
    refine x_icmp_geN (tgt := 28) d_X3_hangInNothing_5 (by decide) (by omega) (by omega) (fun c_1 => by exfalso; omega) (fun c_1 => ?_)
    refine x_aload_n rfl d_X3_hangInNothing_8 ?_
    refine x_getf co_all (v := .ref (a + 5)) d_X3_hangInNothing_9 fk_3_24 (o3_o H) rfl ?_
    refine x_iload_n rfl d_X3_hangInNothing_12 ?_
    refine x_iconst (v := nI 0) (by decide) d_X3_hangInNothing_13 ?_
    refine x_iastore d_X3_hangInNothing_14 (o3_5 H) (nIx_nI (j := k) (by omega) (by decide)) (Nat.le_trans (o3_B H) (Nat.le_add_right _ _)) ?_
    have H2_3 := o3_ast5 (k) (0) H
    have f_3 := o3_f5 (k) (0) H (F) (by exact ⟨by omega, by omega⟩)
    refine x_aload_n rfl d_X3_hangInNothing_15 ?_
    refine x_getf co_all (v := .ref (a + 6)) d_X3_hangInNothing_16 fk_3_27 (o3_o H2_3) rfl ?_
    refine x_iload_n rfl d_X3_hangInNothing_19 ?_
    refine x_iconst (v := nI 0) (by decide) d_X3_hangInNothing_20 ?_
    refine x_iastore d_X3_hangInNothing_21 (o3_6 H2_3) (nIx_nI (j := k) (by omega) (by decide)) (Nat.le_trans (o3_B H2_3) (Nat.le_add_right _ _)) ?_
    have H4_3 := o3_ast6 (k) (0) H2_3
    have f_5 := o3_f6 (k) (0) H2_3 (f_3) (by exact ⟨by omega, by omega⟩)
    refine x_iincN (m := 1) d_X3_hangInNothing_22 rfl (by decide) (Nat.le_of_ble_eq_true rfl) ?_
    refine x_goto (tgt := 2) d_X3_hangInNothing_25 (by decide) ?_
    exact nG.sub (by exact (And.intro rfl (And.intro rfl True.intro))) (ih (k + 1) _ (by omega) f_5 (o3_cg H4_3 (rHN_s k D)))
theorem sp_hangN {h : nPH} {a : Nat} {D : Nat → Nat → Nat} (H : o3 h a D) : nWv YX3_hangInNothing [.ref a] h none (fun h2 => nFr (nIv a 7) h h2 ∧ o3 h2 a (rHN 24 D)) := by
  refine nSp_of (by decide +kernel) rfl (Nat.le_of_ble_eq_true rfl) (ls := [some (.ref (a)), none]) (by exact (And.intro rfl True.intro)) ?_
  refine x_iconst (v := nI 0) (by decide) d_X3_hangInNothing_0 ?_
  refine x_istore_n d_X3_hangInNothing_1 (Nat.le_of_ble_eq_true rfl) ?_
  exact nG.sub (by exact (And.intro rfl (And.intro rfl True.intro))) (lp_hangN 24 0 h (by omega) nFr.rf (o3_cg H (fun f i => by unfold rHN; rw [if_neg (by omega)])))
theorem rHG_E {h0 h : nPH} {a b : Nat} {E : Nat → Nat → Nat} (hE : o3 h0 b E) (hab : b + 7 ≤ a ∨ a + 7 ≤ b) (F : nFr (nIv a 7) h0 h) : o3 h b E := o3_fr hE F (fun q h1 h2 h3 => by have := h3.1; have := h3.2; omega)
theorem lp_hangI {h0 : nPH} {a b : Nat} {D E : Nat → Nat → Nat} (RE : rOK E) (RD : D 0 0 ≤ 24) (hab : b + 7 ≤ a ∨ a + 7 ≤ b) (htot : off E (E 0 0) = D 0 0) (hE0 : o3 h0 b E) {f : Nat} (hf : f < E 0 0) (kk : ∀ h : nPH, nFr (nIv a 7) h0 h → o3 h a (rHG E (off E (f + 1)) D) → nG YX3_hangIn (nKy YX3_hangIn h0.1 h0.2.1 (fun v h2 => v = none ∧ nFr (nIv a 7) h0 h2 ∧ o3 h2 a (rHG E (D 0 0) D))) 0 0 108 [some (.ref (a)), some (.ref (b)), some (.int (nI (off E (f + 1)))), some (.int (nI (f))), none, none, none] [] h) : ∀ n k : Nat, ∀ h : nPH, k + n = off E (f + 1) → off E f ≤ k → nFr (nIv a 7) h0 h → o3 h a (rHG E k D) → nG YX3_hangIn (nKy YX3_hangIn h0.1 h0.2.1 (fun v h2 => v = none ∧ nFr (nIv a 7) h0 h2 ∧ o3 h2 a (rHG E (D 0 0) D))) 0 0 29 [some (.ref (a)), some (.ref (b)), some (.int (nI (k))), some (.int (nI (f))), some (.int (nI (gvB E f))), some (.int (nI (off E f + E 2 f))), none] [] h := by
  intro n
  have hpl := RE.1
  have hoff := off_mono E (show f + 1 ≤ E 0 0 by omega)
  have hos := off_s E f
  have hg2 := (RE.2 f (by omega)).2.1
  obtain ⟨g1, g2⟩ := gvB_rg hf
  induction n with
  | zero =>
    intro k h hk hk2 F H
    have HE := rHG_E hE0 hab F
    have e0 : rHG E k D 0 0 = D 0 0 := rHG_00
    refine x_iload_n rfl d_X3_hangIn_29 ?_
    refine x_iload rfl d_X3_hangIn_30 ?_
    refine x_icmp_geN (tgt := 108) d_X3_hangIn_32 (by decide) (by omega) (by omega) (fun c_1 => ?_) (fun c_1 => by exfalso; omega)
    have e : k = off E (f + 1) := by omega
    subst e
    exact nG.sub (by exact (And.intro rfl (And.intro rfl (And.intro rfl (And.intro rfl True.intro))))) (kk h F H)
  | succ n ih =>
    intro k h hk hk2 F H
    have HE := rHG_E hE0 hab F
    have e0 : rHG E k D 0 0 = D 0 0 := rHG_00
    refine x_iload_n rfl d_X3_hangIn_29 ?_
    refine x_iload rfl d_X3_hangIn_30 ?_
    refine x_icmp_geN (tgt := 108) d_X3_hangIn_32 (by decide) (by omega) (by omega) (fun c_1 => by exfalso; omega) (fun c_1 => ?_)
    refine x_iload_n rfl d_X3_hangIn_35 ?_
    refine x_aload_n rfl d_X3_hangIn_36 ?_
    refine x_getf co_all (v := .int (nI ((rHG E k D) 0 0))) d_X3_hangIn_37 fk_3_34 (o3_o H) rfl ?_
    refine x_icmp_geN (tgt := 108) d_X3_hangIn_40 (by decide) (by omega) (by omega) (fun c_2 => by exfalso; omega) (fun c_2 => ?_)
    refine x_iload_n rfl d_X3_hangIn_43 ?_
    refine x_iload rfl d_X3_hangIn_44 ?_
    refine x_iconst (v := nI 1) (by decide) d_X3_hangIn_46 ?_
    refine x_isubN d_X3_hangIn_47 (by omega) ?_
    refine x_icmp_neN (tgt := 64) d_X3_hangIn_48 (by decide) (by omega) (by omega) (fun c_3 => ?_) (fun c_3 => ?_)
    · refine x_iconst (v := nI 0) (by decide) d_X3_hangIn_64 ?_
      refine x_istore d_X3_hangIn_65 (Nat.le_of_ble_eq_true rfl) ?_
      refine x_aload_n rfl d_X3_hangIn_67 ?_
      refine x_getf co_all (v := .ref (a + 4)) d_X3_hangIn_68 fk_3_21 (o3_o H) rfl ?_
      refine x_iload_n rfl d_X3_hangIn_71 ?_
      refine x_iload_n rfl d_X3_hangIn_72 ?_
      refine x_iastore d_X3_hangIn_73 (o3_4 H) (nIx_nI (j := k) (by omega) (by decide)) (Nat.le_trans (o3_B H) (Nat.le_add_right _ _)) ?_
      have H4_3 := o3_ast4 (k) (f) H
      have f_5 := o3_f4 (k) (f) H (F) (by exact ⟨by omega, by omega⟩)
      refine x_aload_n rfl d_X3_hangIn_74 ?_
      refine x_getf co_all (v := .ref (a + 5)) d_X3_hangIn_75 fk_3_24 (o3_o H4_3) rfl ?_
      refine x_iload_n rfl d_X3_hangIn_78 ?_
      refine x_iload rfl d_X3_hangIn_79 ?_
      refine x_iload_n rfl d_X3_hangIn_81 ?_
      refine x_isubN d_X3_hangIn_82 (by omega) ?_
      refine x_iload rfl d_X3_hangIn_83 ?_
      refine x_if_eqN (tgt := 92) d_X3_hangIn_85 (by decide) (by omega) (fun c_6 => ?_) (fun c_6 => by exfalso; omega)
      refine x_iconst (v := nI 0) (by decide) d_X3_hangIn_92 ?_
      refine x_iaddN d_X3_hangIn_93 ?_
      refine x_iastore d_X3_hangIn_94 (o3_5 H4_3) (nIx_nI (j := k) (by omega) (by decide)) (Nat.le_trans (o3_B H4_3) (Nat.le_add_right _ _)) ?_
      have H7_3 := o3_ast5 (k) (((gvB E f) - f) + 0) H4_3
      have f_8 := o3_f5 (k) (((gvB E f) - f) + 0) H4_3 (f_5) (by exact ⟨by omega, by omega⟩)
      refine x_aload_n rfl d_X3_hangIn_95 ?_
      refine x_getf co_all (v := .ref (a + 6)) d_X3_hangIn_96 fk_3_27 (o3_o H7_3) rfl ?_
      refine x_iload_n rfl d_X3_hangIn_99 ?_
      refine x_iconst (v := nI 0) (by decide) d_X3_hangIn_100 ?_
      refine x_iastore d_X3_hangIn_101 (o3_6 H7_3) (nIx_nI (j := k) (by omega) (by decide)) (Nat.le_trans (o3_B H7_3) (Nat.le_add_right _ _)) ?_
      have H9_3 := o3_ast6 (k) (0) H7_3
      have f_10 := o3_f6 (k) (0) H7_3 (f_8) (by exact ⟨by omega, by omega⟩)
      refine x_iincN (m := 1) d_X3_hangIn_102 rfl (by decide) (Nat.le_of_ble_eq_true rfl) ?_
      refine x_goto (tgt := 29) d_X3_hangIn_105 (by decide) ?_
      have ef := fsO_eq hf hk2 (show k < off E (f + 1) by omega)
      have es : sdO E k = ((gvB E f) - f) + 0 := by
        unfold sdO
        rw [ef]
        first | (rw [nB_T ⟨by omega, by omega⟩]; done) | (rw [nB_F (by omega)]; done) | (rw [nB_T ⟨by omega, by omega⟩]; omega) | (rw [nB_F (by omega)]; omega)
      exact nG.sub (by exact (And.intro rfl (And.intro rfl (And.intro rfl (And.intro rfl (And.intro rfl (And.intro rfl True.intro))))))) (ih (k + 1) _ (by omega) (by omega) f_10 (o3_cg H9_3 (rHG_s ef es)))
    · refine x_iload rfl d_X3_hangIn_51 ?_
      refine x_aload_n rfl d_X3_hangIn_53 ?_
      refine x_getf co_all (v := .int (nI (E 0 0))) d_X3_hangIn_54 fk_3_34 (o3_o HE) rfl ?_
      refine x_icmp_geN (tgt := 64) d_X3_hangIn_57 (by decide) (by omega) (by omega) (fun c_11 => ?_) (fun c_11 => ?_)
      · refine x_iconst (v := nI 0) (by decide) d_X3_hangIn_64 ?_
        refine x_istore d_X3_hangIn_65 (Nat.le_of_ble_eq_true rfl) ?_
        refine x_aload_n rfl d_X3_hangIn_67 ?_
        refine x_getf co_all (v := .ref (a + 4)) d_X3_hangIn_68 fk_3_21 (o3_o H) rfl ?_
        refine x_iload_n rfl d_X3_hangIn_71 ?_
        refine x_iload_n rfl d_X3_hangIn_72 ?_
        refine x_iastore d_X3_hangIn_73 (o3_4 H) (nIx_nI (j := k) (by omega) (by decide)) (Nat.le_trans (o3_B H) (Nat.le_add_right _ _)) ?_
        have H12_3 := o3_ast4 (k) (f) H
        have f_13 := o3_f4 (k) (f) H (F) (by exact ⟨by omega, by omega⟩)
        refine x_aload_n rfl d_X3_hangIn_74 ?_
        refine x_getf co_all (v := .ref (a + 5)) d_X3_hangIn_75 fk_3_24 (o3_o H12_3) rfl ?_
        refine x_iload_n rfl d_X3_hangIn_78 ?_
        refine x_iload rfl d_X3_hangIn_79 ?_
        refine x_iload_n rfl d_X3_hangIn_81 ?_
        refine x_isubN d_X3_hangIn_82 (by omega) ?_
        refine x_iload rfl d_X3_hangIn_83 ?_
        refine x_if_eqN (tgt := 92) d_X3_hangIn_85 (by decide) (by omega) (fun c_14 => ?_) (fun c_14 => by exfalso; omega)
        refine x_iconst (v := nI 0) (by decide) d_X3_hangIn_92 ?_
        refine x_iaddN d_X3_hangIn_93 ?_
        refine x_iastore d_X3_hangIn_94 (o3_5 H12_3) (nIx_nI (j := k) (by omega) (by decide)) (Nat.le_trans (o3_B H12_3) (Nat.le_add_right _ _)) ?_
        have H15_3 := o3_ast5 (k) (((gvB E f) - f) + 0) H12_3
        have f_16 := o3_f5 (k) (((gvB E f) - f) + 0) H12_3 (f_13) (by exact ⟨by omega, by omega⟩)
        refine x_aload_n rfl d_X3_hangIn_95 ?_
        refine x_getf co_all (v := .ref (a + 6)) d_X3_hangIn_96 fk_3_27 (o3_o H15_3) rfl ?_
        refine x_iload_n rfl d_X3_hangIn_99 ?_
        refine x_iconst (v := nI 0) (by decide) d_X3_hangIn_100 ?_
        refine x_iastore d_X3_hangIn_101 (o3_6 H15_3) (nIx_nI (j := k) (by omega) (by decide)) (Nat.le_trans (o3_B H15_3) (Nat.le_add_right _ _)) ?_
        have H17_3 := o3_ast6 (k) (0) H15_3
        have f_18 := o3_f6 (k) (0) H15_3 (f_16) (by exact ⟨by omega, by omega⟩)
        refine x_iincN (m := 1) d_X3_hangIn_102 rfl (by decide) (Nat.le_of_ble_eq_true rfl) ?_
        refine x_goto (tgt := 29) d_X3_hangIn_105 (by decide) ?_
        have ef := fsO_eq hf hk2 (show k < off E (f + 1) by omega)
        have es : sdO E k = ((gvB E f) - f) + 0 := by
          unfold sdO
          rw [ef]
          first | (rw [nB_T ⟨by omega, by omega⟩]; done) | (rw [nB_F (by omega)]; done) | (rw [nB_T ⟨by omega, by omega⟩]; omega) | (rw [nB_F (by omega)]; omega)
        exact nG.sub (by exact (And.intro rfl (And.intro rfl (And.intro rfl (And.intro rfl (And.intro rfl (And.intro rfl True.intro))))))) (ih (k + 1) _ (by omega) (by omega) f_18 (o3_cg H17_3 (rHG_s ef es)))
      · refine x_iconst (v := nI 1) (by decide) d_X3_hangIn_60 ?_
        refine x_goto (tgt := 65) d_X3_hangIn_61 (by decide) ?_
        refine x_istore d_X3_hangIn_65 (Nat.le_of_ble_eq_true rfl) ?_
        refine x_aload_n rfl d_X3_hangIn_67 ?_
        refine x_getf co_all (v := .ref (a + 4)) d_X3_hangIn_68 fk_3_21 (o3_o H) rfl ?_
        refine x_iload_n rfl d_X3_hangIn_71 ?_
        refine x_iload_n rfl d_X3_hangIn_72 ?_
        refine x_iastore d_X3_hangIn_73 (o3_4 H) (nIx_nI (j := k) (by omega) (by decide)) (Nat.le_trans (o3_B H) (Nat.le_add_right _ _)) ?_
        have H19_3 := o3_ast4 (k) (f) H
        have f_20 := o3_f4 (k) (f) H (F) (by exact ⟨by omega, by omega⟩)
        refine x_aload_n rfl d_X3_hangIn_74 ?_
        refine x_getf co_all (v := .ref (a + 5)) d_X3_hangIn_75 fk_3_24 (o3_o H19_3) rfl ?_
        refine x_iload_n rfl d_X3_hangIn_78 ?_
        refine x_iload rfl d_X3_hangIn_79 ?_
        refine x_iload_n rfl d_X3_hangIn_81 ?_
        refine x_isubN d_X3_hangIn_82 (by omega) ?_
        refine x_iload rfl d_X3_hangIn_83 ?_
        refine x_if_eqN (tgt := 92) d_X3_hangIn_85 (by decide) (by omega) (fun c_21 => by exfalso; omega) (fun c_21 => ?_)
        refine x_iconst (v := nI 1) (by decide) d_X3_hangIn_88 ?_
        refine x_goto (tgt := 93) d_X3_hangIn_89 (by decide) ?_
        refine x_iaddN d_X3_hangIn_93 ?_
        refine x_iastore d_X3_hangIn_94 (o3_5 H19_3) (nIx_nI (j := k) (by omega) (by decide)) (Nat.le_trans (o3_B H19_3) (Nat.le_add_right _ _)) ?_
        have H22_3 := o3_ast5 (k) (((gvB E f) - f) + 1) H19_3
        have f_23 := o3_f5 (k) (((gvB E f) - f) + 1) H19_3 (f_20) (by exact ⟨by omega, by omega⟩)
        refine x_aload_n rfl d_X3_hangIn_95 ?_
        refine x_getf co_all (v := .ref (a + 6)) d_X3_hangIn_96 fk_3_27 (o3_o H22_3) rfl ?_
        refine x_iload_n rfl d_X3_hangIn_99 ?_
        refine x_iconst (v := nI 0) (by decide) d_X3_hangIn_100 ?_
        refine x_iastore d_X3_hangIn_101 (o3_6 H22_3) (nIx_nI (j := k) (by omega) (by decide)) (Nat.le_trans (o3_B H22_3) (Nat.le_add_right _ _)) ?_
        have H24_3 := o3_ast6 (k) (0) H22_3
        have f_25 := o3_f6 (k) (0) H22_3 (f_23) (by exact ⟨by omega, by omega⟩)
        refine x_iincN (m := 1) d_X3_hangIn_102 rfl (by decide) (Nat.le_of_ble_eq_true rfl) ?_
        refine x_goto (tgt := 29) d_X3_hangIn_105 (by decide) ?_
        have ef := fsO_eq hf hk2 (show k < off E (f + 1) by omega)
        have es : sdO E k = ((gvB E f) - f) + 1 := by
          unfold sdO
          rw [ef]
          first | (rw [nB_T ⟨by omega, by omega⟩]; done) | (rw [nB_F (by omega)]; done) | (rw [nB_T ⟨by omega, by omega⟩]; omega) | (rw [nB_F (by omega)]; omega)
        exact nG.sub (by exact (And.intro rfl (And.intro rfl (And.intro rfl (And.intro rfl (And.intro rfl (And.intro rfl True.intro))))))) (ih (k + 1) _ (by omega) (by omega) f_25 (o3_cg H24_3 (rHG_s ef es)))
theorem lp_hangO {h0 : nPH} {a b : Nat} {D E : Nat → Nat → Nat} (RE : rOK E) (RD : D 0 0 ≤ 24) (hab : b + 7 ≤ a ∨ a + 7 ≤ b) (htot : off E (E 0 0) = D 0 0) (hE0 : o3 h0 b E) : ∀ n f : Nat, ∀ h : nPH, f + n = E 0 0 → nFr (nIv a 7) h0 h → o3 h a (rHG E (off E f) D) → nG YX3_hangIn (nKy YX3_hangIn h0.1 h0.2.1 (fun v h2 => v = none ∧ nFr (nIv a 7) h0 h2 ∧ o3 h2 a (rHG E (D 0 0) D))) 0 0 4 [some (.ref (a)), some (.ref (b)), some (.int (nI (off E f))), some (.int (nI (f))), none, none, none] [] h := by
  intro n
  have hpl := RE.1
  induction n with
  | zero =>
    intro f h hk F H
    have HE := rHG_E hE0 hab F
    refine x_iload_n rfl d_X3_hangIn_4 ?_
    refine x_aload_n rfl d_X3_hangIn_5 ?_
    refine x_getf co_all (v := .int (nI (E 0 0))) d_X3_hangIn_6 fk_3_34 (o3_o HE) rfl ?_
    refine x_icmp_geN (tgt := 114) d_X3_hangIn_9 (by decide) (by omega) (by omega) (fun c_1 => ?_) (fun c_1 => by exfalso; omega)
    exact x_return d_X3_hangIn_114 rfl F.1 F.2.1 (Nat.zero_le _) (Nat.zero_le _) (⟨rfl, F, by rw [← htot, show E 0 0 = f by omega]; exact H⟩)
  | succ n ih =>
    intro f h hk F H
    have HE := rHG_E hE0 hab F
    refine x_iload_n rfl d_X3_hangIn_4 ?_
    refine x_aload_n rfl d_X3_hangIn_5 ?_
    refine x_getf co_all (v := .int (nI (E 0 0))) d_X3_hangIn_6 fk_3_34 (o3_o HE) rfl ?_
    refine x_icmp_geN (tgt := 114) d_X3_hangIn_9 (by decide) (by omega) (by omega) (fun c_1 => by exfalso; omega) (fun c_1 => ?_)
    refine x_aload_n rfl d_X3_hangIn_12 ?_
    refine x_iload_n rfl d_X3_hangIn_13 ?_
    refine x_rdV d_X3_hangIn_14 lk_3_51 mo_X3_giverBehind vi_X3_giverBehind (sp_giver HE RE (k := f) (by omega)) (o3_o HE) ⟨_, rfl, rfl⟩ rfl ⟨Nat.le_of_ble_eq_true rfl, Nat.le_of_ble_eq_true rfl⟩ rfl rfl (Nat.zero_le _) (Nat.zero_le _) (Nat.le_of_ble_eq_true rfl) rfl ?_
    refine x_istore d_X3_hangIn_17 (Nat.le_of_ble_eq_true rfl) ?_
    refine x_iload_n rfl d_X3_hangIn_19 ?_
    refine x_aload_n rfl d_X3_hangIn_20 ?_
    refine x_getf co_all (v := .ref (b + 2)) d_X3_hangIn_21 fk_3_15 (o3_o HE) rfl ?_
    refine x_iload_n rfl d_X3_hangIn_24 ?_
    refine x_iaload d_X3_hangIn_25 (o3_2 HE) (nIx_nI (j := f) (by omega) (by decide)) ?_
    refine x_iaddN d_X3_hangIn_26 ?_
    refine x_istore d_X3_hangIn_27 (Nat.le_of_ble_eq_true rfl) ?_
    refine nG.sub (by exact (And.intro rfl (And.intro rfl (And.intro rfl (And.intro rfl (And.intro rfl (And.intro rfl True.intro))))))) (lp_hangI RE RD hab htot hE0 (show f < E 0 0 by omega) (fun h3 F3 H3 => ?_) (E 2 f) (off E f) h (by rw [off_s]) (Nat.le_refl _) F H)
    refine x_iincN (m := 1) d_X3_hangIn_108 rfl (by decide) (Nat.le_of_ble_eq_true rfl) ?_
    refine x_goto (tgt := 4) d_X3_hangIn_111 (by decide) ?_
    exact nG.sub (by exact (And.intro rfl (And.intro rfl (And.intro rfl (And.intro rfl True.intro))))) (ih (f + 1) h3 (by omega) F3 H3)
theorem sp_hangIn {h : nPH} {a b : Nat} {D E : Nat → Nat → Nat} (H : o3 h a D) (HE : o3 h b E) (RE : rOK E) (RD : D 0 0 ≤ 24) (hab : b + 7 ≤ a ∨ a + 7 ≤ b) (htot : off E (E 0 0) = D 0 0) : nWv YX3_hangIn [.ref a, .ref b] h none (fun h2 => nFr (nIv a 7) h h2 ∧ o3 h2 a (rHG E (D 0 0) D)) := by
  refine nSp_of (by decide +kernel) rfl (Nat.le_of_ble_eq_true rfl) (ls := [some (.ref (a)), some (.ref (b)), none, none, none, none, none]) (by exact (And.intro rfl (And.intro rfl True.intro))) ?_
  refine x_iconst (v := nI 0) (by decide) d_X3_hangIn_0 ?_
  refine x_istore_n d_X3_hangIn_1 (Nat.le_of_ble_eq_true rfl) ?_
  refine x_iconst (v := nI 0) (by decide) d_X3_hangIn_2 ?_
  refine x_istore_n d_X3_hangIn_3 (Nat.le_of_ble_eq_true rfl) ?_
  exact nG.sub (by exact (And.intro rfl (And.intro rfl (And.intro rfl (And.intro rfl True.intro))))) (lp_hangO RE RD hab htot HE (E 0 0) 0 h (by omega) nFr.rf (o3_cg H (rHG_0 E D)))
