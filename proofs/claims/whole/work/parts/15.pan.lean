/-! the panel: its rows by number -/
def ap (x n y m : Nat) : Prop := x + n ≤ y ∨ y + m ≤ x
def pW (h : nPH) (a : Nat) (P : Nat → Nat → Nat) (R : Nat → Nat → Nat → Nat) : Prop :=
  o2 h a P ∧ P 5 0 ≤ 20 ∧ (∀ r, r < P 5 0 → o3 h (P 4 r) (R r) ∧ rOK (R r) ∧ ap a 3 (P 4 r) 7) ∧ (∀ r r2, r < P 5 0 → r2 < P 5 0 → r ≠ r2 → ap (P 4 r) 7 (P 4 r2) 7)
def uR (R : Nat → Nat → Nat → Nat) (j : Nat) (X : Nat → Nat → Nat) : Nat → Nat → Nat → Nat := fun r => if r = j then X else R r
theorem uR_eq (R : Nat → Nat → Nat → Nat) (j : Nat) (X : Nat → Nat → Nat) : uR R j X j = X := if_pos rfl
theorem uR_ne {R : Nat → Nat → Nat → Nat} {j r : Nat} {X : Nat → Nat → Nat} (h : r ≠ j) : uR R j X r = R r := if_neg h
theorem ap_fr {S : Nat → Prop} {x n y m : Nat} (h : ap x n y m) : ∀ q, x ≤ q → q < x + n → ¬ nIv y m q := fun q h1 h2 h3 => by
  have := h3.1
  have := h3.2
  rcases h with h | h <;> omega
theorem ap_sy {x n y m : Nat} (h : ap x n y m) : ap y m x n := by rcases h with h | h; exact Or.inr h; exact Or.inl h
/-- one row is another one now -/
theorem pW_up {h h2 : nPH} {a j : Nat} {P : Nat → Nat → Nat} {R : Nat → Nat → Nat → Nat} {X : Nat → Nat → Nat} (W : pW h a P R) (hj : j < P 5 0) (F : nFr (nIv (P 4 j) 7) h h2) (H : o3 h2 (P 4 j) X) (hX : rOK X) : pW h2 a P (uR R j X) := by
  obtain ⟨w1, w2, w3, w4⟩ := W
  refine ⟨o2_fr w1 F (ap_fr (S := fun _ => True) (w3 j hj).2.2), w2, fun r hr => ?_, w4⟩
  by_cases e : r = j
  · subst e
    rw [uR_eq]
    exact ⟨H, hX, (w3 r hr).2.2⟩
  · rw [uR_ne e]
    exact ⟨o3_fr (w3 r hr).1 F (ap_fr (S := fun _ => True) (w4 r j hr hj e)), (w3 r hr).2⟩
theorem pW_cg {h : nPH} {a : Nat} {P : Nat → Nat → Nat} {R R2 : Nat → Nat → Nat → Nat} (W : pW h a P R) (e : ∀ r f k, R2 r f k = R r f k) : pW h a P R2 := by
  have : R2 = R := funext fun r => funext fun f => funext fun k => e r f k
  rw [this]; exact W
theorem pW_fr {S : Nat → Prop} {h h2 : nPH} {a : Nat} {P : Nat → Nat → Nat} {R : Nat → Nat → Nat → Nat} (W : pW h a P R) (F : nFr S h h2) (h1 : ∀ q, a ≤ q → q < a + 3 → ¬ S q) (h3 : ∀ r, r < P 5 0 → ∀ q, P 4 r ≤ q → q < P 4 r + 7 → ¬ S q) : pW h2 a P R :=
  ⟨o2_fr W.1 F h1, W.2.1, fun r hr => ⟨o3_fr (W.2.2.1 r hr).1 F (h3 r hr), (W.2.2.1 r hr).2⟩, W.2.2.2⟩
theorem sp_rowAt {h : nPH} {a : Nat} {P : Nat → Nat → Nat} (H : o2 h a P) (hn : P 5 0 ≤ 20) {j : Nat} (hj : j < P 5 0) : nRd YX2_rowAt [.ref (a), .int (nI (j))] h (.ref (P 4 j)) := by
  refine nSp_of (by decide +kernel) rfl (Nat.le_of_ble_eq_true rfl) (ls := [some (.ref (a)), some (.int (nI (j)))]) (by exact (And.intro rfl (And.intro rfl True.intro))) ?_
  refine x_iload_n rfl d_X2_rowAt_0 ?_
  refine x_iconst (v := nI 0) (by decide) d_X2_rowAt_1 ?_
  refine x_aload_n rfl d_X2_rowAt_2 ?_
  refine x_getf co_all (v := .int (nI (P 5 0))) d_X2_rowAt_3 fk_2_34 (o2_o H) rfl ?_
  refine x_iconst (v := nI 1) (by decide) d_X2_rowAt_6 ?_
  refine x_isub d_X2_rowAt_7 ?_
  refine x_rdSN d_X2_rowAt_8 lk_2_37 mo_X7_within sc_X7_within (sp_wi (nI (j)) (n := P 5 0) (by omega)) rfl ⟨Nat.le_of_ble_eq_true rfl, Nat.le_of_ble_eq_true rfl⟩ rfl rfl (Nat.zero_le _) (Nat.zero_le _) (Nat.le_of_ble_eq_true rfl) rfl ?_
  have hle := nBi_le (nI (j)) (P 5 0)
  refine x_if_eqN (tgt := 23) d_X2_rowAt_11 (by decide) (by omega) (fun c_1 => by exfalso; rw [nBi_n (by omega)] at c_1; exact absurd hj (nB_0.mp c_1)) (fun c_1 => ?_)
  refine x_aload_n rfl d_X2_rowAt_14 ?_
  refine x_getf co_all (v := .ref (a + 1)) d_X2_rowAt_15 fk_2_20 (o2_o H) rfl ?_
  refine x_iload_n rfl d_X2_rowAt_18 ?_
  refine x_aaload d_X2_rowAt_19 (o2_4 H) rfl (nIx_nI (j := j) (by omega) (by decide)) (if_pos hj) ?_
  refine x_goto (tgt := 24) d_X2_rowAt_20 (by decide) ?_
  exact x_areturn d_X2_rowAt_24 rfl (Or.inl ⟨_, rfl⟩) (Or.inr ⟨_, rfl⟩) rfl rfl (Nat.zero_le _) (Nat.zero_le _) (⟨rfl, rfl⟩)
theorem sp_rowAtN {h : nPH} {a : Nat} {P : Nat → Nat → Nat} (H : o2 h a P) (hn : P 5 0 ≤ 20) {r : Int32} (hj : ¬ nIn r (P 5 0)) : nRd YX2_rowAt [.ref (a), .int (r)] h (.null) := by
  refine nSp_of (by decide +kernel) rfl (Nat.le_of_ble_eq_true rfl) (ls := [some (.ref (a)), some (.int (r))]) (by exact (And.intro rfl (And.intro rfl True.intro))) ?_
  refine x_iload_n rfl d_X2_rowAt_0 ?_
  refine x_iconst (v := nI 0) (by decide) d_X2_rowAt_1 ?_
  refine x_aload_n rfl d_X2_rowAt_2 ?_
  refine x_getf co_all (v := .int (nI (P 5 0))) d_X2_rowAt_3 fk_2_34 (o2_o H) rfl ?_
  refine x_iconst (v := nI 1) (by decide) d_X2_rowAt_6 ?_
  refine x_isub d_X2_rowAt_7 ?_
  refine x_rdSN d_X2_rowAt_8 lk_2_37 mo_X7_within sc_X7_within (sp_wi (r) (n := P 5 0) (by omega)) rfl ⟨Nat.le_of_ble_eq_true rfl, Nat.le_of_ble_eq_true rfl⟩ rfl rfl (Nat.zero_le _) (Nat.zero_le _) (Nat.le_of_ble_eq_true rfl) rfl ?_
  have hle := nBi_le (r) (P 5 0)
  refine x_if_eqN (tgt := 23) d_X2_rowAt_11 (by decide) (by omega) (fun c_1 => ?_) (fun c_1 => by exfalso; exact c_1 (nBi_F hj))
  refine x_null d_X2_rowAt_23 ?_
  exact x_areturn d_X2_rowAt_24 rfl (Or.inl ⟨_, rfl⟩) (Or.inl rfl) rfl rfl (Nat.zero_le _) (Nat.zero_le _) (⟨rfl, rfl⟩)
theorem sp_rowAtO {h : nPH} {a : Nat} {P : Nat → Nat → Nat} (H : o2 h a P) (hn : P 5 0 ≤ 20) {j : Nat} (hj : P 5 0 ≤ j) (hj2 : j < 2 ^ 31) : nRd YX2_rowAt [.ref a, .int (nI j)] h .null := sp_rowAtN H hn (fun z => by have := (nIn_nI hj2).mp z; omega)
theorem sp_lastRow {h : nPH} {a : Nat} {P : Nat → Nat → Nat} (H : o2 h a P) (hn : P 5 0 ≤ 20) (h1 : 1 ≤ P 5 0) : nRd YX2_lastRow [.ref (a)] h (.ref (P 4 (P 5 0 - 1))) := by
  refine nSp_of (by decide +kernel) rfl (Nat.le_of_ble_eq_true rfl) (ls := [some (.ref (a))]) (by exact (And.intro rfl True.intro)) ?_
  refine x_aload_n rfl d_X2_lastRow_0 ?_
  refine x_aload_n rfl d_X2_lastRow_1 ?_
  refine x_getf co_all (v := .int (nI (P 5 0))) d_X2_lastRow_2 fk_2_34 (o2_o H) rfl ?_
  refine x_iconst (v := nI 1) (by decide) d_X2_lastRow_5 ?_
  refine x_isubN d_X2_lastRow_6 (by omega) ?_
  refine x_rdV d_X2_lastRow_7 lk_2_41 mo_X2_rowAt vi_X2_rowAt (sp_rowAt H hn (j := P 5 0 - 1) (by omega)) (o2_o H) ⟨_, rfl, rfl⟩ rfl ⟨Nat.le_of_ble_eq_true rfl, Nat.le_of_ble_eq_true rfl⟩ rfl rfl (Nat.zero_le _) (Nat.zero_le _) (Nat.le_of_ble_eq_true rfl) rfl ?_
  exact x_areturn d_X2_lastRow_10 rfl (Or.inl ⟨_, rfl⟩) (Or.inr ⟨_, rfl⟩) rfl rfl (Nat.zero_le _) (Nat.zero_le _) (⟨rfl, rfl⟩)
theorem sp_rowWith {h : nPH} {a : Nat} {P : Nat → Nat → Nat} {R : Nat → Nat → Nat → Nat} (W : pW h a P R) {j i : Nat} (hj : j < P 5 0) (hi : i < R j 0 0) : nRd YX2_rowWith [.ref (a), .int (nI (j)), .int (nI (i))] h (.ref (P 4 j)) := by
  obtain ⟨H, hn, HR, hap⟩ := id W
  have hpl := (HR j hj).2.1.1
  refine nSp_of (by decide +kernel) rfl (Nat.le_of_ble_eq_true rfl) (ls := [some (.ref (a)), some (.int (nI (j))), some (.int (nI (i))), none]) (by exact (And.intro rfl (And.intro rfl (And.intro rfl True.intro)))) ?_
  refine x_aload_n rfl d_X2_rowWith_0 ?_
  refine x_iload_n rfl d_X2_rowWith_1 ?_
  refine x_rdV d_X2_rowWith_2 lk_2_41 mo_X2_rowAt vi_X2_rowAt (sp_rowAt H hn hj) (o2_o H) ⟨_, rfl, rfl⟩ rfl ⟨Nat.le_of_ble_eq_true rfl, Nat.le_of_ble_eq_true rfl⟩ rfl rfl (Nat.zero_le _) (Nat.zero_le _) (Nat.le_of_ble_eq_true rfl) rfl ?_
  refine x_astore_n d_X2_rowWith_5 (Nat.le_of_ble_eq_true rfl) ?_
  refine x_aload_n rfl d_X2_rowWith_6 ?_
  refine x_ifnull d_X2_rowWith_7 ?_
  refine x_aload_n rfl d_X2_rowWith_10 ?_
  refine x_iload_n rfl d_X2_rowWith_11 ?_
  refine x_rdV d_X2_rowWith_12 lk_2_45 mo_X3_has vi_X3_has (sp_has (HR j hj).1 (HR j hj).2.1.1 (nI i)) (o3_o (HR j hj).1) ⟨_, rfl, rfl⟩ rfl ⟨Nat.le_of_ble_eq_true rfl, Nat.le_of_ble_eq_true rfl⟩ rfl rfl (Nat.zero_le _) (Nat.zero_le _) (Nat.le_of_ble_eq_true rfl) rfl ?_
  have hle := nBi_le (nI i) (R j 0 0)
  refine x_if_eqN (tgt := 22) d_X2_rowWith_15 (by decide) (by omega) (fun c_1 => by exfalso; rw [nBi_n (by omega)] at c_1; exact absurd hi (nB_0.mp c_1)) (fun c_1 => ?_)
  refine x_aload_n rfl d_X2_rowWith_18 ?_
  refine x_goto (tgt := 23) d_X2_rowWith_19 (by decide) ?_
  exact x_areturn d_X2_rowWith_23 rfl (Or.inl ⟨_, rfl⟩) (Or.inr ⟨_, rfl⟩) rfl rfl (Nat.zero_le _) (Nat.zero_le _) (⟨rfl, rfl⟩)
theorem sp_rowWithN {h : nPH} {a : Nat} {P : Nat → Nat → Nat} {R : Nat → Nat → Nat → Nat} (W : pW h a P R) {r k : Int32} (hr : ¬ nIn r (P 5 0)) : nRd YX2_rowWith [.ref (a), .int (r), .int (k)] h (.null) := by
  obtain ⟨H, hn, HR, hap⟩ := id W
  refine nSp_of (by decide +kernel) rfl (Nat.le_of_ble_eq_true rfl) (ls := [some (.ref (a)), some (.int (r)), some (.int (k)), none]) (by exact (And.intro rfl (And.intro rfl (And.intro rfl True.intro)))) ?_
  refine x_aload_n rfl d_X2_rowWith_0 ?_
  refine x_iload_n rfl d_X2_rowWith_1 ?_
  refine x_rdV d_X2_rowWith_2 lk_2_41 mo_X2_rowAt vi_X2_rowAt (sp_rowAtN H hn hr) (o2_o H) ⟨_, rfl, rfl⟩ rfl ⟨Nat.le_of_ble_eq_true rfl, Nat.le_of_ble_eq_true rfl⟩ rfl rfl (Nat.zero_le _) (Nat.zero_le _) (Nat.le_of_ble_eq_true rfl) rfl ?_
  refine x_astore_nN d_X2_rowWith_5 (Nat.le_of_ble_eq_true rfl) ?_
  refine x_aload_nN rfl d_X2_rowWith_6 ?_
  refine x_ifnullN (tgt := 22) d_X2_rowWith_7 (by decide) ?_
  refine x_null d_X2_rowWith_22 ?_
  exact x_areturn d_X2_rowWith_23 rfl (Or.inl ⟨_, rfl⟩) (Or.inl rfl) rfl rfl (Nat.zero_le _) (Nat.zero_le _) (⟨rfl, rfl⟩)
theorem sp_rowWithK {h : nPH} {a : Nat} {P : Nat → Nat → Nat} {R : Nat → Nat → Nat → Nat} (W : pW h a P R) {j : Nat} {k : Int32} (hj : j < P 5 0) (hi : ¬ nIn k (R j 0 0)) : nRd YX2_rowWith [.ref (a), .int (nI (j)), .int (k)] h (.null) := by
  obtain ⟨H, hn, HR, hap⟩ := id W
  refine nSp_of (by decide +kernel) rfl (Nat.le_of_ble_eq_true rfl) (ls := [some (.ref (a)), some (.int (nI (j))), some (.int (k)), none]) (by exact (And.intro rfl (And.intro rfl (And.intro rfl True.intro)))) ?_
  refine x_aload_n rfl d_X2_rowWith_0 ?_
  refine x_iload_n rfl d_X2_rowWith_1 ?_
  refine x_rdV d_X2_rowWith_2 lk_2_41 mo_X2_rowAt vi_X2_rowAt (sp_rowAt H hn hj) (o2_o H) ⟨_, rfl, rfl⟩ rfl ⟨Nat.le_of_ble_eq_true rfl, Nat.le_of_ble_eq_true rfl⟩ rfl rfl (Nat.zero_le _) (Nat.zero_le _) (Nat.le_of_ble_eq_true rfl) rfl ?_
  refine x_astore_n d_X2_rowWith_5 (Nat.le_of_ble_eq_true rfl) ?_
  refine x_aload_n rfl d_X2_rowWith_6 ?_
  refine x_ifnull d_X2_rowWith_7 ?_
  refine x_aload_n rfl d_X2_rowWith_10 ?_
  refine x_iload_n rfl d_X2_rowWith_11 ?_
  refine x_rdV d_X2_rowWith_12 lk_2_45 mo_X3_has vi_X3_has (sp_has (HR j hj).1 (HR j hj).2.1.1 k) (o3_o (HR j hj).1) ⟨_, rfl, rfl⟩ rfl ⟨Nat.le_of_ble_eq_true rfl, Nat.le_of_ble_eq_true rfl⟩ rfl rfl (Nat.zero_le _) (Nat.zero_le _) (Nat.le_of_ble_eq_true rfl) rfl ?_
  have hle := nBi_le k (R j 0 0)
  refine x_if_eqN (tgt := 22) d_X2_rowWith_15 (by decide) (by omega) (fun c_1 => ?_) (fun c_1 => by exfalso; exact c_1 (nBi_F hi))
  refine x_null d_X2_rowWith_22 ?_
  exact x_areturn d_X2_rowWith_23 rfl (Or.inl ⟨_, rfl⟩) (Or.inl rfl) rfl rfl (Nat.zero_le _) (Nat.zero_le _) (⟨rfl, rfl⟩)
/-- gone sides of those that hang in knot i of the row above E -/
def gbl (E : Nat → Nat → Nat) (i n : Nat) : Nat := fb_sm (fun q => nb (igo E q i)) n
def wbl (E : Nat → Nat → Nat) (i n : Nat) : Nat := fb_sm (fun q => nb (iwh E q i)) n
theorem gbl_s (E : Nat → Nat → Nat) (i n : Nat) : gbl E i (n + 1) = gbl E i n + nb (igo E n i) := rfl
theorem wbl_s (E : Nat → Nat → Nat) (i n : Nat) : wbl E i (n + 1) = wbl E i n + nb (iwh E n i) := rfl
def gsd (P : Nat → Nat → Nat) (R : Nat → Nat → Nat → Nat) (j i : Nat) : Nat := pcn (R j 6 i) + (if j + 1 < P 5 0 then gbl (R (j + 1)) i (R (j + 1) 0 0) else 0)
theorem lp_gsd {h : nPH} {a : Nat} {P : Nat → Nat → Nat} {R : Nat → Nat → Nat → Nat} (W : pW h a P R) {j i : Nat} (hj : j < P 5 0) (hi : i < R j 0 0) (hj1 : j + 1 < P 5 0) : ∀ n q : Nat, q + n = R (j + 1) 0 0 → nG YX2_goneSidesAt (nKy YX2_goneSidesAt h.1 h.2.1 (fun v h2 => v = some (.int (nI (gsd P R j i))) ∧ h2 = h)) 0 0 36 [some (.ref (a)), some (.int (nI (j))), some (.int (nI (i))), some (.ref (P 4 j)), some (.int (nI (pcn (R j 6 i) + gbl (R (j + 1)) i q))), some (.ref (P 4 (j + 1))), some (.int (nI (q)))] [] h := by
  obtain ⟨H, hn, HR, hap⟩ := id W
  have hpl := (HR j hj).2.1.1
  have hp2 := (HR (j + 1) hj1).2.1.1
  intro n
  induction n with
  | zero =>
    intro q hq
    refine x_aload rfl d_X2_goneSidesAt_36 ?_
    refine x_ifnull d_X2_goneSidesAt_38 ?_
    refine x_iload rfl d_X2_goneSidesAt_41 ?_
    refine x_aload rfl d_X2_goneSidesAt_43 ?_
    refine x_getf co_all (v := .int (nI ((R (j + 1)) 0 0))) d_X2_goneSidesAt_45 fk_2_70 (o3_o (HR (j + 1) hj1).1) rfl ?_
    refine x_icmp_geN (tgt := 78) d_X2_goneSidesAt_48 (by decide) (by omega) (by omega) (fun c_1 => ?_) (fun c_1 => by exfalso; omega)
    refine x_iload rfl d_X2_goneSidesAt_78 ?_
    exact x_ireturn d_X2_goneSidesAt_80 rfl rfl rfl rfl (Nat.zero_le _) (Nat.zero_le _) (⟨by unfold gsd; rw [if_pos hj1, show R (j + 1) 0 0 = q by omega], rfl⟩)
  | succ n ih =>
    intro q hq
    refine x_aload rfl d_X2_goneSidesAt_36 ?_
    refine x_ifnull d_X2_goneSidesAt_38 ?_
    refine x_iload rfl d_X2_goneSidesAt_41 ?_
    refine x_aload rfl d_X2_goneSidesAt_43 ?_
    refine x_getf co_all (v := .int (nI ((R (j + 1)) 0 0))) d_X2_goneSidesAt_45 fk_2_70 (o3_o (HR (j + 1) hj1).1) rfl ?_
    refine x_icmp_geN (tgt := 78) d_X2_goneSidesAt_48 (by decide) (by omega) (by omega) (fun c_1 => by exfalso; omega) (fun c_1 => ?_)
    refine x_iload rfl d_X2_goneSidesAt_51 ?_
    refine x_aload rfl d_X2_goneSidesAt_53 ?_
    refine x_iload rfl d_X2_goneSidesAt_55 ?_
    refine x_iload_n rfl d_X2_goneSidesAt_57 ?_
    refine x_rdV d_X2_goneSidesAt_58 lk_2_99 mo_X3_isGone vi_X3_isGone (sp_isGone (HR (j + 1) hj1).1 (HR (j + 1) hj1).2.1 (k := q) (by omega) (q := i) (by omega)) (o3_o (HR (j + 1) hj1).1) ⟨_, rfl, rfl⟩ rfl ⟨Nat.le_of_ble_eq_true rfl, Nat.le_of_ble_eq_true rfl⟩ rfl rfl (Nat.zero_le _) (Nat.zero_le _) (Nat.le_of_ble_eq_true rfl) rfl ?_
    have hle := nb_le (igo (R (j + 1)) q i)
    refine x_if_eqN (tgt := 68) d_X2_goneSidesAt_61 (by decide) (by omega) (fun c_2 => ?_) (fun c_2 => ?_)
    · refine x_iconst (v := nI 0) (by decide) d_X2_goneSidesAt_68 ?_
      refine x_iaddN d_X2_goneSidesAt_69 ?_
      refine x_istore d_X2_goneSidesAt_70 (Nat.le_of_ble_eq_true rfl) ?_
      refine x_iincN (m := 1) d_X2_goneSidesAt_72 rfl (by decide) (Nat.le_of_ble_eq_true rfl) ?_
      refine x_goto (tgt := 36) d_X2_goneSidesAt_75 (by decide) ?_
      have ea : (pcn (R j 6 i) + gbl (R (j + 1)) i q) + 0 = pcn (R j 6 i) + gbl (R (j + 1)) i (q + 1) := by
        rw [gbl_s, nb_F (nb_0.mp c_2)]
        omega
      rw [ea]
      exact nG.sub (by exact (And.intro rfl (And.intro rfl (And.intro rfl (And.intro rfl (And.intro rfl (And.intro rfl (And.intro rfl True.intro)))))))) (ih (q + 1) (by omega))
    · refine x_iconst (v := nI 1) (by decide) d_X2_goneSidesAt_64 ?_
      refine x_goto (tgt := 69) d_X2_goneSidesAt_65 (by decide) ?_
      refine x_iaddN d_X2_goneSidesAt_69 ?_
      refine x_istore d_X2_goneSidesAt_70 (Nat.le_of_ble_eq_true rfl) ?_
      refine x_iincN (m := 1) d_X2_goneSidesAt_72 rfl (by decide) (Nat.le_of_ble_eq_true rfl) ?_
      refine x_goto (tgt := 36) d_X2_goneSidesAt_75 (by decide) ?_
      have ea : (pcn (R j 6 i) + gbl (R (j + 1)) i q) + 1 = pcn (R j 6 i) + gbl (R (j + 1)) i (q + 1) := by
        rw [gbl_s, nb_T (nb_n0.mp c_2)]
        omega
      rw [ea]
      exact nG.sub (by exact (And.intro rfl (And.intro rfl (And.intro rfl (And.intro rfl (And.intro rfl (And.intro rfl (And.intro rfl True.intro)))))))) (ih (q + 1) (by omega))
theorem sp_gsd {h : nPH} {a : Nat} {P : Nat → Nat → Nat} {R : Nat → Nat → Nat → Nat} (W : pW h a P R) {j i : Nat} (hj : j < P 5 0) (hi : i < R j 0 0) : nRd YX2_goneSidesAt [.ref a, .int (nI j), .int (nI i)] h (.int (nI (gsd P R j i))) := by
  obtain ⟨H, hn, HR, hap⟩ := id W
  have hpl := (HR j hj).2.1.1
  by_cases hj1 : j + 1 < P 5 0
  · refine nSp_of (by decide +kernel) rfl (Nat.le_of_ble_eq_true rfl) (ls := [some (.ref (a)), some (.int (nI (j))), some (.int (nI (i))), none, none, none, none]) (by exact (And.intro rfl (And.intro rfl (And.intro rfl True.intro)))) ?_
    refine x_aload_n rfl d_X2_goneSidesAt_0 ?_
    refine x_iload_n rfl d_X2_goneSidesAt_1 ?_
    refine x_iload_n rfl d_X2_goneSidesAt_2 ?_
    refine x_rdV d_X2_goneSidesAt_3 lk_2_86 mo_X2_rowWith vi_X2_rowWith (sp_rowWith W hj hi) (o2_o H) ⟨_, rfl, rfl⟩ rfl ⟨Nat.le_of_ble_eq_true rfl, Nat.le_of_ble_eq_true rfl⟩ rfl rfl (Nat.zero_le _) (Nat.zero_le _) (Nat.le_of_ble_eq_true rfl) rfl ?_
    refine x_astore_n d_X2_goneSidesAt_6 (Nat.le_of_ble_eq_true rfl) ?_
    refine x_aload_n rfl d_X2_goneSidesAt_7 ?_
    refine x_ifnonnull (tgt := 13) d_X2_goneSidesAt_8 (by decide) ?_
    refine x_aload_n rfl d_X2_goneSidesAt_13 ?_
    refine x_getf co_all (v := .ref (P 4 j + 6)) d_X2_goneSidesAt_14 fk_2_90 (o3_o (HR j hj).1) rfl ?_
    refine x_iload_n rfl d_X2_goneSidesAt_17 ?_
    refine x_iaload d_X2_goneSidesAt_18 (o3_6 (HR j hj).1) (nIx_nI (j := i) (by omega) (by decide)) ?_
    refine x_rdS d_X2_goneSidesAt_19 lk_2_93 mo_J6_bitCount_0f7a4 sc_J6_bitCount_0f7a4 (sp_bits (rOK_6 (HR j hj).2.1 (by omega))) rfl ⟨Nat.le_of_ble_eq_true rfl, Nat.le_of_ble_eq_true rfl⟩ rfl rfl (Nat.zero_le _) (Nat.zero_le _) (Nat.le_of_ble_eq_true rfl) rfl ?_
    refine x_istore d_X2_goneSidesAt_22 (Nat.le_of_ble_eq_true rfl) ?_
    refine x_aload_n rfl d_X2_goneSidesAt_24 ?_
    refine x_iload_n rfl d_X2_goneSidesAt_25 ?_
    refine x_iconst (v := nI 1) (by decide) d_X2_goneSidesAt_26 ?_
    refine x_iaddN d_X2_goneSidesAt_27 ?_
    refine x_rdV d_X2_goneSidesAt_28 lk_2_41 mo_X2_rowAt vi_X2_rowAt (sp_rowAt H hn hj1) (o2_o H) ⟨_, rfl, rfl⟩ rfl ⟨Nat.le_of_ble_eq_true rfl, Nat.le_of_ble_eq_true rfl⟩ rfl rfl (Nat.zero_le _) (Nat.zero_le _) (Nat.le_of_ble_eq_true rfl) rfl ?_
    refine x_astore d_X2_goneSidesAt_31 (Nat.le_of_ble_eq_true rfl) ?_
    refine x_iconst (v := nI 0) (by decide) d_X2_goneSidesAt_33 ?_
    refine x_istore d_X2_goneSidesAt_34 (Nat.le_of_ble_eq_true rfl) ?_
    exact nG.sub (by exact (And.intro rfl (And.intro rfl (And.intro rfl (And.intro rfl (And.intro rfl (And.intro rfl (And.intro rfl True.intro)))))))) (lp_gsd W hj hi hj1 (R (j + 1) 0 0) 0 (by omega))
  · refine nSp_of (by decide +kernel) rfl (Nat.le_of_ble_eq_true rfl) (ls := [some (.ref (a)), some (.int (nI (j))), some (.int (nI (i))), none, none, none, none]) (by exact (And.intro rfl (And.intro rfl (And.intro rfl True.intro)))) ?_
    refine x_aload_n rfl d_X2_goneSidesAt_0 ?_
    refine x_iload_n rfl d_X2_goneSidesAt_1 ?_
    refine x_iload_n rfl d_X2_goneSidesAt_2 ?_
    refine x_rdV d_X2_goneSidesAt_3 lk_2_86 mo_X2_rowWith vi_X2_rowWith (sp_rowWith W hj hi) (o2_o H) ⟨_, rfl, rfl⟩ rfl ⟨Nat.le_of_ble_eq_true rfl, Nat.le_of_ble_eq_true rfl⟩ rfl rfl (Nat.zero_le _) (Nat.zero_le _) (Nat.le_of_ble_eq_true rfl) rfl ?_
    refine x_astore_n d_X2_goneSidesAt_6 (Nat.le_of_ble_eq_true rfl) ?_
    refine x_aload_n rfl d_X2_goneSidesAt_7 ?_
    refine x_ifnonnull (tgt := 13) d_X2_goneSidesAt_8 (by decide) ?_
    refine x_aload_n rfl d_X2_goneSidesAt_13 ?_
    refine x_getf co_all (v := .ref (P 4 j + 6)) d_X2_goneSidesAt_14 fk_2_90 (o3_o (HR j hj).1) rfl ?_
    refine x_iload_n rfl d_X2_goneSidesAt_17 ?_
    refine x_iaload d_X2_goneSidesAt_18 (o3_6 (HR j hj).1) (nIx_nI (j := i) (by omega) (by decide)) ?_
    refine x_rdS d_X2_goneSidesAt_19 lk_2_93 mo_J6_bitCount_0f7a4 sc_J6_bitCount_0f7a4 (sp_bits (rOK_6 (HR j hj).2.1 (by omega))) rfl ⟨Nat.le_of_ble_eq_true rfl, Nat.le_of_ble_eq_true rfl⟩ rfl rfl (Nat.zero_le _) (Nat.zero_le _) (Nat.le_of_ble_eq_true rfl) rfl ?_
    refine x_istore d_X2_goneSidesAt_22 (Nat.le_of_ble_eq_true rfl) ?_
    refine x_aload_n rfl d_X2_goneSidesAt_24 ?_
    refine x_iload_n rfl d_X2_goneSidesAt_25 ?_
    refine x_iconst (v := nI 1) (by decide) d_X2_goneSidesAt_26 ?_
    refine x_iaddN d_X2_goneSidesAt_27 ?_
    refine x_rdV d_X2_goneSidesAt_28 lk_2_41 mo_X2_rowAt vi_X2_rowAt (sp_rowAtO H hn (j := j + 1) (by omega) (by omega)) (o2_o H) ⟨_, rfl, rfl⟩ rfl ⟨Nat.le_of_ble_eq_true rfl, Nat.le_of_ble_eq_true rfl⟩ rfl rfl (Nat.zero_le _) (Nat.zero_le _) (Nat.le_of_ble_eq_true rfl) rfl ?_
    refine x_astoreN d_X2_goneSidesAt_31 (Nat.le_of_ble_eq_true rfl) ?_
    refine x_iconst (v := nI 0) (by decide) d_X2_goneSidesAt_33 ?_
    refine x_istore d_X2_goneSidesAt_34 (Nat.le_of_ble_eq_true rfl) ?_
    refine x_aloadN rfl d_X2_goneSidesAt_36 ?_
    refine x_ifnullN (tgt := 78) d_X2_goneSidesAt_38 (by decide) ?_
    refine x_iload rfl d_X2_goneSidesAt_78 ?_
    exact x_ireturn d_X2_goneSidesAt_80 rfl rfl rfl rfl (Nat.zero_le _) (Nat.zero_le _) (⟨by unfold gsd; rw [if_neg hj1]; rfl, rfl⟩)
theorem lp_gAbS {h : nPH} {a : Nat} {P : Nat → Nat → Nat} {R : Nat → Nat → Nat → Nat} (W : pW h a P R) {j i : Nat} (hj : j < P 5 0) (hi : i < R j 0 0) {m : Nat} (hm : m < 24) (hno : ∀ q, q < m → igo (R j) i q = false) (hyes : igo (R j) i m = true) : ∀ n q : Nat, q + n = m → nG YX2_goneAbove (nKy YX2_goneAbove h.1 h.2.1 (fun v h2 => v = some (.int (nI m)) ∧ h2 = h)) 0 0 10 [some (.ref (a)), some (.int (nI (j))), some (.int (nI (i))), some (.ref (P 4 j)), some (.int (nI (q)))] [] h := by
  obtain ⟨H, hn, HR, hap⟩ := id W
  have hpl := (HR j hj).2.1.1
  intro n
  induction n with
  | zero =>
    intro q hq
    have eq : q = m := by omega
    subst eq
    refine x_aload_n rfl d_X2_goneAbove_10 ?_
    refine x_ifnull d_X2_goneAbove_11 ?_
    refine x_iload rfl d_X2_goneAbove_14 ?_
    refine x_bipush (v := nI 24) (by decide) d_X2_goneAbove_16 ?_
    refine x_icmp_geN (tgt := 40) d_X2_goneAbove_18 (by decide) (by omega) (by omega) (fun c_1 => by exfalso; omega) (fun c_1 => ?_)
    refine x_aload_n rfl d_X2_goneAbove_21 ?_
    refine x_iload_n rfl d_X2_goneAbove_22 ?_
    refine x_iload rfl d_X2_goneAbove_23 ?_
    refine x_rdV d_X2_goneAbove_25 lk_2_99 mo_X3_isGone vi_X3_isGone (sp_isGone (HR j hj).1 (HR j hj).2.1 (k := i) (by omega) (q := q) (by omega)) (o3_o (HR j hj).1) ⟨_, rfl, rfl⟩ rfl ⟨Nat.le_of_ble_eq_true rfl, Nat.le_of_ble_eq_true rfl⟩ rfl rfl (Nat.zero_le _) (Nat.zero_le _) (Nat.le_of_ble_eq_true rfl) rfl ?_
    have hle := nb_le (igo (R j) i q)
    refine x_if_eqN (tgt := 34) d_X2_goneAbove_28 (by decide) (by omega) (fun c_2 => by exfalso; rw [nb_T hyes] at c_2; omega) (fun c_2 => ?_)
    refine x_iload rfl d_X2_goneAbove_31 ?_
    exact x_ireturn d_X2_goneAbove_33 rfl rfl rfl rfl (Nat.zero_le _) (Nat.zero_le _) (⟨rfl, rfl⟩)
  | succ n ih =>
    intro q hq
    refine x_aload_n rfl d_X2_goneAbove_10 ?_
    refine x_ifnull d_X2_goneAbove_11 ?_
    refine x_iload rfl d_X2_goneAbove_14 ?_
    refine x_bipush (v := nI 24) (by decide) d_X2_goneAbove_16 ?_
    refine x_icmp_geN (tgt := 40) d_X2_goneAbove_18 (by decide) (by omega) (by omega) (fun c_1 => by exfalso; omega) (fun c_1 => ?_)
    refine x_aload_n rfl d_X2_goneAbove_21 ?_
    refine x_iload_n rfl d_X2_goneAbove_22 ?_
    refine x_iload rfl d_X2_goneAbove_23 ?_
    refine x_rdV d_X2_goneAbove_25 lk_2_99 mo_X3_isGone vi_X3_isGone (sp_isGone (HR j hj).1 (HR j hj).2.1 (k := i) (by omega) (q := q) (by omega)) (o3_o (HR j hj).1) ⟨_, rfl, rfl⟩ rfl ⟨Nat.le_of_ble_eq_true rfl, Nat.le_of_ble_eq_true rfl⟩ rfl rfl (Nat.zero_le _) (Nat.zero_le _) (Nat.le_of_ble_eq_true rfl) rfl ?_
    have hle := nb_le (igo (R j) i q)
    refine x_if_eqN (tgt := 34) d_X2_goneAbove_28 (by decide) (by omega) (fun c_2 => ?_) (fun c_2 => by exfalso; rw [nb_F (hno q (by omega))] at c_2; omega)
    refine x_iincN (m := 1) d_X2_goneAbove_34 rfl (by decide) (Nat.le_of_ble_eq_true rfl) ?_
    refine x_goto (tgt := 10) d_X2_goneAbove_37 (by decide) ?_
    exact nG.sub (by exact (And.intro rfl (And.intro rfl (And.intro rfl (And.intro rfl (And.intro rfl True.intro)))))) (ih (q + 1) (by omega))
theorem sp_gAbS {h : nPH} {a : Nat} {P : Nat → Nat → Nat} {R : Nat → Nat → Nat → Nat} (W : pW h a P R) {j i : Nat} (hj : j < P 5 0) (hi : i < R j 0 0) {m : Nat} (hm : m < 24) (hno : ∀ q, q < m → igo (R j) i q = false) (hyes : igo (R j) i m = true) : nRd YX2_goneAbove [.ref a, .int (nI j), .int (nI i)] h (.int (nI m)) := by
  obtain ⟨H, hn, HR, hap⟩ := id W
  have hpl := (HR j hj).2.1.1
  refine nSp_of (by decide +kernel) rfl (Nat.le_of_ble_eq_true rfl) (ls := [some (.ref (a)), some (.int (nI (j))), some (.int (nI (i))), none, none]) (by exact (And.intro rfl (And.intro rfl (And.intro rfl True.intro)))) ?_
  refine x_aload_n rfl d_X2_goneAbove_0 ?_
  refine x_iload_n rfl d_X2_goneAbove_1 ?_
  refine x_iload_n rfl d_X2_goneAbove_2 ?_
  refine x_rdV d_X2_goneAbove_3 lk_2_86 mo_X2_rowWith vi_X2_rowWith (sp_rowWith W hj hi) (o2_o H) ⟨_, rfl, rfl⟩ rfl ⟨Nat.le_of_ble_eq_true rfl, Nat.le_of_ble_eq_true rfl⟩ rfl rfl (Nat.zero_le _) (Nat.zero_le _) (Nat.le_of_ble_eq_true rfl) rfl ?_
  refine x_astore_n d_X2_goneAbove_6 (Nat.le_of_ble_eq_true rfl) ?_
  refine x_iconst (v := nI 0) (by decide) d_X2_goneAbove_7 ?_
  refine x_istore d_X2_goneAbove_8 (Nat.le_of_ble_eq_true rfl) ?_
  exact nG.sub (by exact (And.intro rfl (And.intro rfl (And.intro rfl (And.intro rfl (And.intro rfl True.intro)))))) (lp_gAbS W hj hi hm hno hyes (m) 0 (by omega))
theorem lp_gAbN {h : nPH} {a : Nat} {P : Nat → Nat → Nat} {R : Nat → Nat → Nat → Nat} (W : pW h a P R) {j i : Nat} (hj : j < P 5 0) (hi : i < R j 0 0) (hno : ∀ q, q < 24 → igo (R j) i q = false) : ∀ n q : Nat, q + n = 24 → nG YX2_goneAbove (nKy YX2_goneAbove h.1 h.2.1 (fun v h2 => v = some (.int (-1)) ∧ h2 = h)) 0 0 10 [some (.ref (a)), some (.int (nI (j))), some (.int (nI (i))), some (.ref (P 4 j)), some (.int (nI (q)))] [] h := by
  obtain ⟨H, hn, HR, hap⟩ := id W
  have hpl := (HR j hj).2.1.1
  intro n
  induction n with
  | zero =>
    intro q hq
    refine x_aload_n rfl d_X2_goneAbove_10 ?_
    refine x_ifnull d_X2_goneAbove_11 ?_
    refine x_iload rfl d_X2_goneAbove_14 ?_
    refine x_bipush (v := nI 24) (by decide) d_X2_goneAbove_16 ?_
    refine x_icmp_geN (tgt := 40) d_X2_goneAbove_18 (by decide) (by omega) (by omega) (fun c_1 => ?_) (fun c_1 => by exfalso; omega)
    refine x_iconst (v := -1) (by decide) d_X2_goneAbove_40 ?_
    exact x_ireturn d_X2_goneAbove_41 rfl rfl rfl rfl (Nat.zero_le _) (Nat.zero_le _) (⟨rfl, rfl⟩)
  | succ n ih =>
    intro q hq
    refine x_aload_n rfl d_X2_goneAbove_10 ?_
    refine x_ifnull d_X2_goneAbove_11 ?_
    refine x_iload rfl d_X2_goneAbove_14 ?_
    refine x_bipush (v := nI 24) (by decide) d_X2_goneAbove_16 ?_
    refine x_icmp_geN (tgt := 40) d_X2_goneAbove_18 (by decide) (by omega) (by omega) (fun c_1 => by exfalso; omega) (fun c_1 => ?_)
    refine x_aload_n rfl d_X2_goneAbove_21 ?_
    refine x_iload_n rfl d_X2_goneAbove_22 ?_
    refine x_iload rfl d_X2_goneAbove_23 ?_
    refine x_rdV d_X2_goneAbove_25 lk_2_99 mo_X3_isGone vi_X3_isGone (sp_isGone (HR j hj).1 (HR j hj).2.1 (k := i) (by omega) (q := q) (by omega)) (o3_o (HR j hj).1) ⟨_, rfl, rfl⟩ rfl ⟨Nat.le_of_ble_eq_true rfl, Nat.le_of_ble_eq_true rfl⟩ rfl rfl (Nat.zero_le _) (Nat.zero_le _) (Nat.le_of_ble_eq_true rfl) rfl ?_
    have hle := nb_le (igo (R j) i q)
    refine x_if_eqN (tgt := 34) d_X2_goneAbove_28 (by decide) (by omega) (fun c_2 => ?_) (fun c_2 => by exfalso; rw [nb_F (hno q (by omega))] at c_2; omega)
    refine x_iincN (m := 1) d_X2_goneAbove_34 rfl (by decide) (Nat.le_of_ble_eq_true rfl) ?_
    refine x_goto (tgt := 10) d_X2_goneAbove_37 (by decide) ?_
    exact nG.sub (by exact (And.intro rfl (And.intro rfl (And.intro rfl (And.intro rfl (And.intro rfl True.intro)))))) (ih (q + 1) (by omega))
theorem sp_gAbN {h : nPH} {a : Nat} {P : Nat → Nat → Nat} {R : Nat → Nat → Nat → Nat} (W : pW h a P R) {j i : Nat} (hj : j < P 5 0) (hi : i < R j 0 0) (hno : ∀ q, q < 24 → igo (R j) i q = false) : nRd YX2_goneAbove [.ref a, .int (nI j), .int (nI i)] h (.int (-1)) := by
  obtain ⟨H, hn, HR, hap⟩ := id W
  have hpl := (HR j hj).2.1.1
  refine nSp_of (by decide +kernel) rfl (Nat.le_of_ble_eq_true rfl) (ls := [some (.ref (a)), some (.int (nI (j))), some (.int (nI (i))), none, none]) (by exact (And.intro rfl (And.intro rfl (And.intro rfl True.intro)))) ?_
  refine x_aload_n rfl d_X2_goneAbove_0 ?_
  refine x_iload_n rfl d_X2_goneAbove_1 ?_
  refine x_iload_n rfl d_X2_goneAbove_2 ?_
  refine x_rdV d_X2_goneAbove_3 lk_2_86 mo_X2_rowWith vi_X2_rowWith (sp_rowWith W hj hi) (o2_o H) ⟨_, rfl, rfl⟩ rfl ⟨Nat.le_of_ble_eq_true rfl, Nat.le_of_ble_eq_true rfl⟩ rfl rfl (Nat.zero_le _) (Nat.zero_le _) (Nat.le_of_ble_eq_true rfl) rfl ?_
  refine x_astore_n d_X2_goneAbove_6 (Nat.le_of_ble_eq_true rfl) ?_
  refine x_iconst (v := nI 0) (by decide) d_X2_goneAbove_7 ?_
  refine x_istore d_X2_goneAbove_8 (Nat.le_of_ble_eq_true rfl) ?_
  exact nG.sub (by exact (And.intro rfl (And.intro rfl (And.intro rfl (And.intro rfl (And.intro rfl True.intro)))))) (lp_gAbN W hj hi hno (24) 0 (by omega))
theorem lp_gBeS {h : nPH} {a : Nat} {P : Nat → Nat → Nat} {R : Nat → Nat → Nat → Nat} (W : pW h a P R) {j i : Nat} (hj : j < P 5 0) (hi : i < R j 0 0) (hj1 : j + 1 < P 5 0) {m : Nat} (hm : m < R (j + 1) 0 0) (hno : ∀ q, q < m → igo (R (j + 1)) q i = false) (hyes : igo (R (j + 1)) m i = true) : ∀ n q : Nat, q + n = m → nG YX2_goneBelow (nKy YX2_goneBelow h.1 h.2.1 (fun v h2 => v = some (.int (nI m)) ∧ h2 = h)) 0 0 11 [some (.ref (a)), some (.int (nI (j))), some (.int (nI (i))), some (.ref (P 4 (j + 1))), some (.int (nI (q)))] [] h := by
  obtain ⟨H, hn, HR, hap⟩ := id W
  have hpl := (HR j hj).2.1.1
  have hp2 := (HR (j + 1) hj1).2.1.1
  intro n
  induction n with
  | zero =>
    intro q hq
    have eq : q = m := by omega
    subst eq
    refine x_aload_n rfl d_X2_goneBelow_11 ?_
    refine x_ifnull d_X2_goneBelow_12 ?_
    refine x_iload rfl d_X2_goneBelow_15 ?_
    refine x_aload_n rfl d_X2_goneBelow_17 ?_
    refine x_getf co_all (v := .int (nI ((R (j + 1)) 0 0))) d_X2_goneBelow_18 fk_2_70 (o3_o (HR (j + 1) hj1).1) rfl ?_
    refine x_icmp_geN (tgt := 43) d_X2_goneBelow_21 (by decide) (by omega) (by omega) (fun c_1 => by exfalso; omega) (fun c_1 => ?_)
    refine x_aload_n rfl d_X2_goneBelow_24 ?_
    refine x_iload rfl d_X2_goneBelow_25 ?_
    refine x_iload_n rfl d_X2_goneBelow_27 ?_
    refine x_rdV d_X2_goneBelow_28 lk_2_99 mo_X3_isGone vi_X3_isGone (sp_isGone (HR (j + 1) hj1).1 (HR (j + 1) hj1).2.1 (k := q) (by omega) (q := i) (by omega)) (o3_o (HR (j + 1) hj1).1) ⟨_, rfl, rfl⟩ rfl ⟨Nat.le_of_ble_eq_true rfl, Nat.le_of_ble_eq_true rfl⟩ rfl rfl (Nat.zero_le _) (Nat.zero_le _) (Nat.le_of_ble_eq_true rfl) rfl ?_
    have hle := nb_le (igo (R (j + 1)) q i)
    refine x_if_eqN (tgt := 37) d_X2_goneBelow_31 (by decide) (by omega) (fun c_2 => by exfalso; rw [nb_T hyes] at c_2; omega) (fun c_2 => ?_)
    refine x_iload rfl d_X2_goneBelow_34 ?_
    exact x_ireturn d_X2_goneBelow_36 rfl rfl rfl rfl (Nat.zero_le _) (Nat.zero_le _) (⟨rfl, rfl⟩)
  | succ n ih =>
    intro q hq
    refine x_aload_n rfl d_X2_goneBelow_11 ?_
    refine x_ifnull d_X2_goneBelow_12 ?_
    refine x_iload rfl d_X2_goneBelow_15 ?_
    refine x_aload_n rfl d_X2_goneBelow_17 ?_
    refine x_getf co_all (v := .int (nI ((R (j + 1)) 0 0))) d_X2_goneBelow_18 fk_2_70 (o3_o (HR (j + 1) hj1).1) rfl ?_
    refine x_icmp_geN (tgt := 43) d_X2_goneBelow_21 (by decide) (by omega) (by omega) (fun c_1 => by exfalso; omega) (fun c_1 => ?_)
    refine x_aload_n rfl d_X2_goneBelow_24 ?_
    refine x_iload rfl d_X2_goneBelow_25 ?_
    refine x_iload_n rfl d_X2_goneBelow_27 ?_
    refine x_rdV d_X2_goneBelow_28 lk_2_99 mo_X3_isGone vi_X3_isGone (sp_isGone (HR (j + 1) hj1).1 (HR (j + 1) hj1).2.1 (k := q) (by omega) (q := i) (by omega)) (o3_o (HR (j + 1) hj1).1) ⟨_, rfl, rfl⟩ rfl ⟨Nat.le_of_ble_eq_true rfl, Nat.le_of_ble_eq_true rfl⟩ rfl rfl (Nat.zero_le _) (Nat.zero_le _) (Nat.le_of_ble_eq_true rfl) rfl ?_
    have hle := nb_le (igo (R (j + 1)) q i)
    refine x_if_eqN (tgt := 37) d_X2_goneBelow_31 (by decide) (by omega) (fun c_2 => ?_) (fun c_2 => by exfalso; rw [nb_F (hno q (by omega))] at c_2; omega)
    refine x_iincN (m := 1) d_X2_goneBelow_37 rfl (by decide) (Nat.le_of_ble_eq_true rfl) ?_
    refine x_goto (tgt := 11) d_X2_goneBelow_40 (by decide) ?_
    exact nG.sub (by exact (And.intro rfl (And.intro rfl (And.intro rfl (And.intro rfl (And.intro rfl True.intro)))))) (ih (q + 1) (by omega))
theorem sp_gBeS {h : nPH} {a : Nat} {P : Nat → Nat → Nat} {R : Nat → Nat → Nat → Nat} (W : pW h a P R) {j i : Nat} (hj : j < P 5 0) (hi : i < R j 0 0) (hj1 : j + 1 < P 5 0) {m : Nat} (hm : m < R (j + 1) 0 0) (hno : ∀ q, q < m → igo (R (j + 1)) q i = false) (hyes : igo (R (j + 1)) m i = true) : nRd YX2_goneBelow [.ref a, .int (nI j), .int (nI i)] h (.int (nI m)) := by
  obtain ⟨H, hn, HR, hap⟩ := id W
  have hpl := (HR j hj).2.1.1
  have hp2 := (HR (j + 1) hj1).2.1.1
  refine nSp_of (by decide +kernel) rfl (Nat.le_of_ble_eq_true rfl) (ls := [some (.ref (a)), some (.int (nI (j))), some (.int (nI (i))), none, none]) (by exact (And.intro rfl (And.intro rfl (And.intro rfl True.intro)))) ?_
  refine x_aload_n rfl d_X2_goneBelow_0 ?_
  refine x_iload_n rfl d_X2_goneBelow_1 ?_
  refine x_iconst (v := nI 1) (by decide) d_X2_goneBelow_2 ?_
  refine x_iaddN d_X2_goneBelow_3 ?_
  refine x_rdV d_X2_goneBelow_4 lk_2_41 mo_X2_rowAt vi_X2_rowAt (sp_rowAt H hn hj1) (o2_o H) ⟨_, rfl, rfl⟩ rfl ⟨Nat.le_of_ble_eq_true rfl, Nat.le_of_ble_eq_true rfl⟩ rfl rfl (Nat.zero_le _) (Nat.zero_le _) (Nat.le_of_ble_eq_true rfl) rfl ?_
  refine x_astore_n d_X2_goneBelow_7 (Nat.le_of_ble_eq_true rfl) ?_
  refine x_iconst (v := nI 0) (by decide) d_X2_goneBelow_8 ?_
  refine x_istore d_X2_goneBelow_9 (Nat.le_of_ble_eq_true rfl) ?_
  exact nG.sub (by exact (And.intro rfl (And.intro rfl (And.intro rfl (And.intro rfl (And.intro rfl True.intro)))))) (lp_gBeS W hj hi hj1 hm hno hyes (m) 0 (by omega))
theorem lp_gBeN {h : nPH} {a : Nat} {P : Nat → Nat → Nat} {R : Nat → Nat → Nat → Nat} (W : pW h a P R) {j i : Nat} (hj : j < P 5 0) (hi : i < R j 0 0) (hj1 : j + 1 < P 5 0) (hno : ∀ q, q < R (j + 1) 0 0 → igo (R (j + 1)) q i = false) : ∀ n q : Nat, q + n = R (j + 1) 0 0 → nG YX2_goneBelow (nKy YX2_goneBelow h.1 h.2.1 (fun v h2 => v = some (.int (-1)) ∧ h2 = h)) 0 0 11 [some (.ref (a)), some (.int (nI (j))), some (.int (nI (i))), some (.ref (P 4 (j + 1))), some (.int (nI (q)))] [] h := by
  obtain ⟨H, hn, HR, hap⟩ := id W
  have hpl := (HR j hj).2.1.1
  have hp2 := (HR (j + 1) hj1).2.1.1
  intro n
  induction n with
  | zero =>
    intro q hq
    refine x_aload_n rfl d_X2_goneBelow_11 ?_
    refine x_ifnull d_X2_goneBelow_12 ?_
    refine x_iload rfl d_X2_goneBelow_15 ?_
    refine x_aload_n rfl d_X2_goneBelow_17 ?_
    refine x_getf co_all (v := .int (nI ((R (j + 1)) 0 0))) d_X2_goneBelow_18 fk_2_70 (o3_o (HR (j + 1) hj1).1) rfl ?_
    refine x_icmp_geN (tgt := 43) d_X2_goneBelow_21 (by decide) (by omega) (by omega) (fun c_1 => ?_) (fun c_1 => by exfalso; omega)
    refine x_iconst (v := -1) (by decide) d_X2_goneBelow_43 ?_
    exact x_ireturn d_X2_goneBelow_44 rfl rfl rfl rfl (Nat.zero_le _) (Nat.zero_le _) (⟨rfl, rfl⟩)
  | succ n ih =>
    intro q hq
    refine x_aload_n rfl d_X2_goneBelow_11 ?_
    refine x_ifnull d_X2_goneBelow_12 ?_
    refine x_iload rfl d_X2_goneBelow_15 ?_
    refine x_aload_n rfl d_X2_goneBelow_17 ?_
    refine x_getf co_all (v := .int (nI ((R (j + 1)) 0 0))) d_X2_goneBelow_18 fk_2_70 (o3_o (HR (j + 1) hj1).1) rfl ?_
    refine x_icmp_geN (tgt := 43) d_X2_goneBelow_21 (by decide) (by omega) (by omega) (fun c_1 => by exfalso; omega) (fun c_1 => ?_)
    refine x_aload_n rfl d_X2_goneBelow_24 ?_
    refine x_iload rfl d_X2_goneBelow_25 ?_
    refine x_iload_n rfl d_X2_goneBelow_27 ?_
    refine x_rdV d_X2_goneBelow_28 lk_2_99 mo_X3_isGone vi_X3_isGone (sp_isGone (HR (j + 1) hj1).1 (HR (j + 1) hj1).2.1 (k := q) (by omega) (q := i) (by omega)) (o3_o (HR (j + 1) hj1).1) ⟨_, rfl, rfl⟩ rfl ⟨Nat.le_of_ble_eq_true rfl, Nat.le_of_ble_eq_true rfl⟩ rfl rfl (Nat.zero_le _) (Nat.zero_le _) (Nat.le_of_ble_eq_true rfl) rfl ?_
    have hle := nb_le (igo (R (j + 1)) q i)
    refine x_if_eqN (tgt := 37) d_X2_goneBelow_31 (by decide) (by omega) (fun c_2 => ?_) (fun c_2 => by exfalso; rw [nb_F (hno q (by omega))] at c_2; omega)
    refine x_iincN (m := 1) d_X2_goneBelow_37 rfl (by decide) (Nat.le_of_ble_eq_true rfl) ?_
    refine x_goto (tgt := 11) d_X2_goneBelow_40 (by decide) ?_
    exact nG.sub (by exact (And.intro rfl (And.intro rfl (And.intro rfl (And.intro rfl (And.intro rfl True.intro)))))) (ih (q + 1) (by omega))
theorem sp_gBeN {h : nPH} {a : Nat} {P : Nat → Nat → Nat} {R : Nat → Nat → Nat → Nat} (W : pW h a P R) {j i : Nat} (hj : j < P 5 0) (hi : i < R j 0 0) (hj1 : j + 1 < P 5 0) (hno : ∀ q, q < R (j + 1) 0 0 → igo (R (j + 1)) q i = false) : nRd YX2_goneBelow [.ref a, .int (nI j), .int (nI i)] h (.int (-1)) := by
  obtain ⟨H, hn, HR, hap⟩ := id W
  have hpl := (HR j hj).2.1.1
  have hp2 := (HR (j + 1) hj1).2.1.1
  refine nSp_of (by decide +kernel) rfl (Nat.le_of_ble_eq_true rfl) (ls := [some (.ref (a)), some (.int (nI (j))), some (.int (nI (i))), none, none]) (by exact (And.intro rfl (And.intro rfl (And.intro rfl True.intro)))) ?_
  refine x_aload_n rfl d_X2_goneBelow_0 ?_
  refine x_iload_n rfl d_X2_goneBelow_1 ?_
  refine x_iconst (v := nI 1) (by decide) d_X2_goneBelow_2 ?_
  refine x_iaddN d_X2_goneBelow_3 ?_
  refine x_rdV d_X2_goneBelow_4 lk_2_41 mo_X2_rowAt vi_X2_rowAt (sp_rowAt H hn hj1) (o2_o H) ⟨_, rfl, rfl⟩ rfl ⟨Nat.le_of_ble_eq_true rfl, Nat.le_of_ble_eq_true rfl⟩ rfl rfl (Nat.zero_le _) (Nat.zero_le _) (Nat.le_of_ble_eq_true rfl) rfl ?_
  refine x_astore_n d_X2_goneBelow_7 (Nat.le_of_ble_eq_true rfl) ?_
  refine x_iconst (v := nI 0) (by decide) d_X2_goneBelow_8 ?_
  refine x_istore d_X2_goneBelow_9 (Nat.le_of_ble_eq_true rfl) ?_
  exact nG.sub (by exact (And.intro rfl (And.intro rfl (And.intro rfl (And.intro rfl (And.intro rfl True.intro)))))) (lp_gBeN W hj hi hj1 hno (R (j + 1) 0 0) 0 (by omega))
theorem sp_gBeO {h : nPH} {a : Nat} {P : Nat → Nat → Nat} {R : Nat → Nat → Nat → Nat} (W : pW h a P R) {j i : Nat} (hj : j < P 5 0) (hi : i < R j 0 0) (hj1 : ¬ j + 1 < P 5 0) : nRd YX2_goneBelow [.ref a, .int (nI j), .int (nI i)] h (.int (-1)) := by
  obtain ⟨H, hn, HR, hap⟩ := id W
  have hpl := (HR j hj).2.1.1
  refine nSp_of (by decide +kernel) rfl (Nat.le_of_ble_eq_true rfl) (ls := [some (.ref (a)), some (.int (nI (j))), some (.int (nI (i))), none, none]) (by exact (And.intro rfl (And.intro rfl (And.intro rfl True.intro)))) ?_
  refine x_aload_n rfl d_X2_goneBelow_0 ?_
  refine x_iload_n rfl d_X2_goneBelow_1 ?_
  refine x_iconst (v := nI 1) (by decide) d_X2_goneBelow_2 ?_
  refine x_iaddN d_X2_goneBelow_3 ?_
  refine x_rdV d_X2_goneBelow_4 lk_2_41 mo_X2_rowAt vi_X2_rowAt (sp_rowAtO H hn (j := j + 1) (by omega) (by omega)) (o2_o H) ⟨_, rfl, rfl⟩ rfl ⟨Nat.le_of_ble_eq_true rfl, Nat.le_of_ble_eq_true rfl⟩ rfl rfl (Nat.zero_le _) (Nat.zero_le _) (Nat.le_of_ble_eq_true rfl) rfl ?_
  refine x_astore_nN d_X2_goneBelow_7 (Nat.le_of_ble_eq_true rfl) ?_
  refine x_iconst (v := nI 0) (by decide) d_X2_goneBelow_8 ?_
  refine x_istore d_X2_goneBelow_9 (Nat.le_of_ble_eq_true rfl) ?_
  refine x_aload_nN rfl d_X2_goneBelow_11 ?_
  refine x_ifnullN (tgt := 43) d_X2_goneBelow_12 (by decide) ?_
  refine x_iconst (v := -1) (by decide) d_X2_goneBelow_43 ?_
  exact x_ireturn d_X2_goneBelow_44 rfl rfl rfl rfl (Nat.zero_le _) (Nat.zero_le _) (⟨rfl, rfl⟩)
def tot (P : Nat → Nat → Nat) (R : Nat → Nat → Nat → Nat) (c n : Nat) : Nat := fb_sm (fun r => cov (R r) c (R r 0 0)) n
theorem lp_tot {h : nPH} {a : Nat} {P : Nat → Nat → Nat} {R : Nat → Nat → Nat → Nat} (W : pW h a P R) {c : Nat} (h1 : 5 ≤ c) (h2 : c ≤ 8) : ∀ n r : Nat, r + n = P 5 0 → nG YX2_totalOf (nKy YX2_totalOf h.1 h.2.1 (fun v h2 => v = some (.int (nI (tot P R c (P 5 0)))) ∧ h2 = h)) 0 0 16 [some (.ref (a)), some (.int (nI (c))), some (.int (nI (tot P R c r))), some (.int (nI (r))), none] [] h := by
  obtain ⟨H, hn, HR, hap⟩ := id W
  intro n
  induction n with
  | zero =>
    intro r hr
    refine x_iload_n rfl d_X2_totalOf_16 ?_
    refine x_aload_n rfl d_X2_totalOf_17 ?_
    refine x_getf co_all (v := .int (nI (P 5 0))) d_X2_totalOf_18 fk_2_34 (o2_o H) rfl ?_
    refine x_icmp_geN (tgt := 55) d_X2_totalOf_21 (by decide) (by omega) (by omega) (fun c_1 => ?_) (fun c_1 => by exfalso; omega)
    refine x_iload_n rfl d_X2_totalOf_55 ?_
    exact x_ireturn d_X2_totalOf_56 rfl rfl rfl rfl (Nat.zero_le _) (Nat.zero_le _) (⟨by rw [show P 5 0 = r by omega], rfl⟩)
  | succ n ih =>
    intro r hr
    have hr1 : r < P 5 0 := by omega
    refine x_iload_n rfl d_X2_totalOf_16 ?_
    refine x_aload_n rfl d_X2_totalOf_17 ?_
    refine x_getf co_all (v := .int (nI (P 5 0))) d_X2_totalOf_18 fk_2_34 (o2_o H) rfl ?_
    refine x_icmp_geN (tgt := 55) d_X2_totalOf_21 (by decide) (by omega) (by omega) (fun c_1 => by exfalso; omega) (fun c_1 => ?_)
    refine x_aload_n rfl d_X2_totalOf_24 ?_
    refine x_iload_n rfl d_X2_totalOf_25 ?_
    refine x_rdV d_X2_totalOf_26 lk_2_41 mo_X2_rowAt vi_X2_rowAt (sp_rowAt H hn hr1) (o2_o H) ⟨_, rfl, rfl⟩ rfl ⟨Nat.le_of_ble_eq_true rfl, Nat.le_of_ble_eq_true rfl⟩ rfl rfl (Nat.zero_le _) (Nat.zero_le _) (Nat.le_of_ble_eq_true rfl) rfl ?_
    refine x_astore d_X2_totalOf_29 (Nat.le_of_ble_eq_true rfl) ?_
    refine x_iload_n rfl d_X2_totalOf_31 ?_
    refine x_aload rfl d_X2_totalOf_32 ?_
    refine x_ifnonnull (tgt := 41) d_X2_totalOf_34 (by decide) ?_
    refine x_aload rfl d_X2_totalOf_41 ?_
    refine x_iload_n rfl d_X2_totalOf_43 ?_
    refine x_rdV d_X2_totalOf_44 lk_2_113 mo_X3_countOver vi_X3_countOver (sp_count (HR r hr1).1 (HR r hr1).2.1 h1 h2) (o3_o (HR r hr1).1) ⟨_, rfl, rfl⟩ rfl ⟨Nat.le_of_ble_eq_true rfl, Nat.le_of_ble_eq_true rfl⟩ rfl rfl (Nat.zero_le _) (Nat.zero_le _) (Nat.le_of_ble_eq_true rfl) rfl ?_
    refine x_iaddN d_X2_totalOf_47 ?_
    refine x_istore_n d_X2_totalOf_48 (Nat.le_of_ble_eq_true rfl) ?_
    refine x_iincN (m := 1) d_X2_totalOf_49 rfl (by decide) (Nat.le_of_ble_eq_true rfl) ?_
    refine x_goto (tgt := 16) d_X2_totalOf_52 (by decide) ?_
    exact nG.sub (by exact (And.intro rfl (And.intro rfl (And.intro rfl (And.intro rfl True.intro))))) (ih (r + 1) (by omega))
theorem sp_tot {h : nPH} {a : Nat} {P : Nat → Nat → Nat} {R : Nat → Nat → Nat → Nat} (W : pW h a P R) {c : Nat} (h1 : 5 ≤ c) (h2 : c ≤ 8) : nRd YX2_totalOf [.ref a, .int (nI c)] h (.int (nI (tot P R c (P 5 0)))) := by
  obtain ⟨H, hn, HR, hap⟩ := id W
  refine nSp_of (by decide +kernel) rfl (Nat.le_of_ble_eq_true rfl) (ls := [some (.ref (a)), some (.int (nI (c))), none, none, none]) (by exact (And.intro rfl (And.intro rfl True.intro))) ?_
  refine x_iload_n rfl d_X2_totalOf_0 ?_
  refine x_iconst (v := nI 5) (by decide) d_X2_totalOf_1 ?_
  refine x_bipush (v := nI 8) (by decide) d_X2_totalOf_2 ?_
  refine x_rdSN d_X2_totalOf_4 lk_2_37 mo_X7_within sc_X7_within (sp_wn (a := c) (b := 5) (c := 8) (by omega) (by decide) (by decide)) rfl ⟨Nat.le_of_ble_eq_true rfl, Nat.le_of_ble_eq_true rfl⟩ rfl rfl (Nat.zero_le _) (Nat.zero_le _) (Nat.le_of_ble_eq_true rfl) rfl ?_
  have hle := nB_le (5 ≤ c ∧ c ≤ 8)
  refine x_if_neN (tgt := 12) d_X2_totalOf_7 (by decide) (by omega) (fun c_1 => ?_) (fun c_1 => by exfalso; rw [nB_T ⟨h1, h2⟩] at c_1; omega)
  refine x_iconst (v := nI 0) (by decide) d_X2_totalOf_12 ?_
  refine x_istore_n d_X2_totalOf_13 (Nat.le_of_ble_eq_true rfl) ?_
  refine x_iconst (v := nI 0) (by decide) d_X2_totalOf_14 ?_
  refine x_istore_n d_X2_totalOf_15 (Nat.le_of_ble_eq_true rfl) ?_
  exact nG.sub (by exact (And.intro rfl (And.intro rfl (And.intro rfl (And.intro rfl True.intro))))) (lp_tot W h1 h2 (P 5 0) 0 (by omega))
theorem sp_totN {h : nPH} {a : Nat} {P : Nat → Nat → Nat} {R : Nat → Nat → Nat → Nat} (W : pW h a P R) {c : Int32} (hc : ¬ (nI 5 ≤ c ∧ c ≤ nI 8)) : nRd YX2_totalOf [.ref a, .int c] h (.int (-1)) := by
  refine nSp_of (by decide +kernel) rfl (Nat.le_of_ble_eq_true rfl) (ls := [some (.ref (a)), some (.int (c)), none, none, none]) (by exact (And.intro rfl (And.intro rfl True.intro))) ?_
  refine x_iload_n rfl d_X2_totalOf_0 ?_
  refine x_iconst (v := nI 5) (by decide) d_X2_totalOf_1 ?_
  refine x_bipush (v := nI 8) (by decide) d_X2_totalOf_2 ?_
  refine x_rdSN d_X2_totalOf_4 lk_2_37 mo_X7_within sc_X7_within (sp_within c (nI 5) (nI 8)) rfl ⟨Nat.le_of_ble_eq_true rfl, Nat.le_of_ble_eq_true rfl⟩ rfl rfl (Nat.zero_le _) (Nat.zero_le _) (Nat.le_of_ble_eq_true rfl) rfl ?_
  have hle := nB_le (nI 5 ≤ c ∧ c ≤ nI 8)
  refine x_if_neN (tgt := 12) d_X2_totalOf_7 (by decide) (by omega) (fun c_1 => by exfalso; exact c_1 (nB_F hc)) (fun c_1 => ?_)
  refine x_iconst (v := -1) (by decide) d_X2_totalOf_10 ?_
  exact x_ireturn d_X2_totalOf_11 rfl rfl rfl rfl (Nat.zero_le _) (Nat.zero_le _) (⟨rfl, rfl⟩)
