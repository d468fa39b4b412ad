/-! the loft: parts, holes, loads, tapers -/
theorem cl_partsN {h : nPH} {a b : Nat} {V : Nat → Nat → Nat} {P : Nat → Nat → Nat → Nat} {R : Nat → Nat → Nat → Nat → Nat} {E Y T S : Nat → Nat → Nat} (C : cW h a b V P R E Y T S) {n : Int32} (hn : ¬ (-1 ≤ n ∧ n ≤ nI 101)) : nRd YX7_parts [.ref (a), .int (n)] h (.int (nI 0)) := by
  refine nSp_of (by decide +kernel) rfl (Nat.le_of_ble_eq_true rfl) (ls := [some (.ref (a)), some (.int (n)), none]) (by exact (And.intro rfl (And.intro rfl True.intro))) ?_
  refine x_iload_n rfl d_X7_parts_0 ?_
  refine x_iconst (v := -1) (by decide) d_X7_parts_1 ?_
  refine x_bipush (v := nI 101) (by decide) d_X7_parts_2 ?_
  refine x_rdS d_X7_parts_4 lk_7_64 mo_X7_within sc_X7_within (sp_within (n) (-1) (nI 101)) rfl ⟨Nat.le_of_ble_eq_true rfl, Nat.le_of_ble_eq_true rfl⟩ rfl rfl (Nat.zero_le _) (Nat.zero_le _) (Nat.le_of_ble_eq_true rfl) rfl ?_
  rw [nB_F hn]
  refine x_if_neN (tgt := 12) d_X7_parts_7 (by decide) (by omega) (fun c_1 => by exfalso; exact c_1 rfl) (fun c_1 => ?_)
  refine x_iconst (v := nI 0) (by decide) d_X7_parts_10 ?_
  exact x_ireturn d_X7_parts_11 rfl (by first | rfl | exact nB_nar _ | exact nB_nar1 (by omega)) rfl rfl (Nat.zero_le _) (Nat.zero_le _) (⟨rfl, rfl⟩)
def pZr (V : Nat → Nat → Nat) (k : Nat) : Nat → Nat → Nat := fun f i => if f = 2 ∧ i < k then 0 else V f i
theorem pZr_s (V : Nat → Nat → Nat) (k f i : Nat) : pZr V (k + 1) f i = u2 (pZr V k) 2 k 0 f i := by
  show (if f = 2 ∧ i < k + 1 then 0 else V f i) = (if f = 2 ∧ i = k then 0 else if f = 2 ∧ i < k then 0 else V f i)
  by_cases h2 : f = 2 ∧ i = k
  · rw [if_pos (by omega), if_pos (by omega)]
  · rw [if_neg (show ¬ (f = 2 ∧ i = k) by omega)]
    by_cases h4 : f = 2 ∧ i < k
    · rw [if_pos (by omega), if_pos h4]
    · rw [if_neg (by omega), if_neg h4]
theorem o7_cg {D2 : Nat → Nat → Nat} {h : nPH} {a : Nat} {D : Nat → Nat → Nat} (H : o7 h a D) (e : ∀ k i, D2 k i = D k i) : o7 h a D2 := by
  have : D2 = D := funext fun k => funext fun i => e k i
  rw [this]; exact H
def pZe (V : Nat → Nat → Nat) (n : Nat) : Nat → Nat → Nat := fun f i => if f = 3 ∧ i = 0 then n else if f = 2 ∧ i < 101 then 0 else V f i
theorem pZe_z (V : Nat → Nat → Nat) (n f i : Nat) : pZe V n f i = u2 (pZr V 101) 3 0 n f i := by
  unfold pZe u2 pZr
  by_cases e : f = 3 ∧ i = 0
  · rw [if_pos e]
  · rw [if_neg e]
theorem pV_of {n : Int32} (h : -1 ≤ n ∧ n ≤ nI 101) : ∃ m, m ≤ 102 ∧ n = nV m := by
  have h1 := Int32.le_iff_toInt_le.mp h.1
  have h2 := Int32.le_iff_toInt_le.mp h.2
  have e1 : (-1 : Int32).toInt = -1 := by decide
  have e2 : (nI 101).toInt = 101 := by decide
  rw [e1] at h1
  rw [e2] at h2
  refine ⟨(n.toInt + 1).toNat, by omega, ?_⟩
  unfold nV
  rcases Int.lt_or_le n.toInt 0 with z | z
  · have : n.toInt = -1 := by omega
    rw [this]
    show n = nI 0 - 1
    exact Int32.toInt_inj.mp (by rw [this]; decide)
  · rw [show (n.toInt + 1).toNat = n.toInt.toNat + 1 by omega, nI_pred]
    refine Int32.toInt_inj.mp ?_
    rw [nI_toInt (by omega)]
    omega
theorem pV_in {m : Nat} (h : m ≤ 102) : -1 ≤ nV m ∧ nV m ≤ nI 101 := by
  rcases Nat.eq_zero_or_pos m with z | z
  · subst z; decide
  · obtain ⟨k, rfl⟩ : ∃ k, m = k + 1 := ⟨m - 1, by omega⟩
    rw [nV_s]
    refine ⟨?_, (nI_leI (by omega) (by decide)).mpr (by omega)⟩
    rw [Int32.le_iff_toInt_le, nI_toInt (by omega)]
    have e1 : (-1 : Int32).toInt = -1 := by decide
    omega
theorem lp_parts {h0 : nPH} {a m : Nat} {V : Nat → Nat → Nat} : ∀ n i : Nat, i + n = 101 → ∀ h : nPH, nFr (nIv a 3) h0 h → o7 h a (pZr V i) → nG YX7_parts (nKy YX7_parts h0.1 h0.2.1 (fun v h2 => v = some (.int (nI 1)) ∧ nFr (nIv a 3) h0 h2 ∧ o7 h2 a (pZe V m))) 0 0 14 [some (.ref (a)), some (.int (nV m)), some (.int (nI (i)))] [] h := by
  intro n
  induction n with
  | zero =>
    intro i hi h F H
    have e : i = 101 := by omega
    subst e
    refine x_iload_n rfl d_X7_parts_14 ?_
    refine x_bipush (v := nI 101) (by decide) d_X7_parts_15 ?_
    refine x_icmp_geN (tgt := 33) d_X7_parts_17 (by decide) (by omega) (by omega) (fun c_1 => ?_) (fun c_1 => by exfalso; omega)
    refine x_aload_n rfl d_X7_parts_33 ?_
    refine x_iload_n rfl d_X7_parts_34 ?_
    refine x_putf co_all d_X7_parts_35 fk_7_19 ft_7_3 (o7_o H) (Nat.le_of_ble_eq_true rfl) rfl rfl (o7_B H) ?_
    have H2_7 := o7_put3 (m) H
    have f_3 := o7_g3 (m) H (F) (by exact ⟨by omega, by omega⟩)
    refine x_iconst (v := nI 1) (by decide) d_X7_parts_38 ?_
    exact x_ireturn d_X7_parts_39 rfl (by first | rfl | exact nB_nar _ | exact nB_nar1 (by omega)) (f_3).1 (f_3).2.1 (Nat.zero_le _) (Nat.zero_le _) (⟨rfl, f_3, o7_cg H2_7 (fun f i => pZe_z V m f i)⟩)
  | succ n ih =>
    intro i hi h F H
    refine x_iload_n rfl d_X7_parts_14 ?_
    refine x_bipush (v := nI 101) (by decide) d_X7_parts_15 ?_
    refine x_icmp_geN (tgt := 33) d_X7_parts_17 (by decide) (by omega) (by omega) (fun c_1 => by exfalso; omega) (fun c_1 => ?_)
    refine x_aload_n rfl d_X7_parts_20 ?_
    refine x_getf co_all (v := .ref (a + 2)) d_X7_parts_21 fk_7_15 (o7_o H) rfl ?_
    refine x_iload_n rfl d_X7_parts_24 ?_
    refine x_iconst (v := nI 0) (by decide) d_X7_parts_25 ?_
    refine x_iastore d_X7_parts_26 (o7_2 H) (nIx_nI (j := i) (by omega) (by decide)) (Nat.le_trans (o7_B H) (Nat.le_add_right _ _)) ?_
    have H2_7 := o7_ast2 (i) (0) H
    have f_3 := o7_f2 (i) (0) H (F) (by exact ⟨by omega, by omega⟩)
    refine x_iincN (m := 1) d_X7_parts_27 rfl (by decide) (Nat.le_of_ble_eq_true rfl) ?_
    refine x_goto (tgt := 14) d_X7_parts_30 (by decide) ?_
    exact ih (i + 1) (by omega) _ f_3 (o7_cg H2_7 (fun f j => pZr_s V i f j))
theorem cl_parts {h : nPH} {a b : Nat} {V : Nat → Nat → Nat} {P : Nat → Nat → Nat → Nat} {R : Nat → Nat → Nat → Nat → Nat} {E Y T S : Nat → Nat → Nat} (C : cW h a b V P R E Y T S) {m : Nat} (hm : m ≤ 102) : nWv YX7_parts [.ref a, .int (nV m)] h (some (.int (nI 1))) (fun h2 => kB b h h2 ∧ cW h2 a b (pZe V m) P R E Y T S) := by
  refine nSp.mono (P := fun v h2 => v = some (.int (nI 1)) ∧ nFr (nIv a 3) h h2 ∧ o7 h2 a (pZe V m)) ?_ (fun v h2 z => ⟨z.1, cW_o C z.2.1 (nFr_up (Nat.le_refl _) (by omega)) (cF_V C.1 z.2.1 z.2.2) rfl (fun _ => rfl)⟩)
  refine nSp_of (by decide +kernel) rfl (Nat.le_of_ble_eq_true rfl) (ls := [some (.ref (a)), some (.int (nV m)), none]) (by exact (And.intro rfl (And.intro rfl True.intro))) ?_
  refine x_iload_n rfl d_X7_parts_0 ?_
  refine x_iconst (v := -1) (by decide) d_X7_parts_1 ?_
  refine x_bipush (v := nI 101) (by decide) d_X7_parts_2 ?_
  refine x_rdS d_X7_parts_4 lk_7_64 mo_X7_within sc_X7_within (sp_within (nV m) (-1) (nI 101)) rfl ⟨Nat.le_of_ble_eq_true rfl, Nat.le_of_ble_eq_true rfl⟩ rfl rfl (Nat.zero_le _) (Nat.zero_le _) (Nat.le_of_ble_eq_true rfl) rfl ?_
  rw [nB_T (pV_in hm)]
  refine x_if_neN (tgt := 12) d_X7_parts_7 (by decide) (by omega) (fun c_1 => ?_) (fun c_1 => by exfalso; exact absurd c_1 (by decide))
  refine x_iconst (v := nI 0) (by decide) d_X7_parts_12 ?_
  refine x_istore_n d_X7_parts_13 (Nat.le_of_ble_eq_true rfl) ?_
  exact lp_parts 101 0 (by omega) h nFr.rf (o7_cg C.1.1 (fun f i => by unfold pZr; rw [if_neg (by omega)]))
theorem wi_R {i : Int32} {m : Nat} (hm : m ≤ 102) : (nI 0 ≤ i ∧ i ≤ nV m - nI 1) ↔ ∃ j : Nat, i = nI j ∧ j + 1 < m := by
  constructor
  · intro h
    have h1 := Int32.le_iff_toInt_le.mp h.1
    have e0 : (nI 0).toInt = 0 := by decide
    rw [e0] at h1
    have h3 : i = nI i.toInt.toNat := by
      refine Int32.toInt_inj.mp ?_
      rw [nI_toInt (by have := i.toInt_lt; omega)]
      omega
    refine ⟨i.toInt.toNat, h3, ?_⟩
    have hlt : i.toInt < 2 ^ 30 := by
      have h2 := Int32.le_iff_toInt_le.mp h.2
      have : ∀ m, m < 103 → (nV m - nI 1).toInt ≤ 101 := by decide +kernel
      have := this m (by omega)
      omega
    rw [h3] at h
    exact (wi_V (by omega) (by omega)).mp h
  · rintro ⟨j, rfl, hj⟩
    exact (wi_V (by omega) (by omega)).mpr hj
theorem cl_partI {h : nPH} {a b : Nat} {V : Nat → Nat → Nat} {P : Nat → Nat → Nat → Nat} {R : Nat → Nat → Nat → Nat → Nat} {E Y T S : Nat → Nat → Nat} (C : cW h a b V P R E Y T S) (hv : V 3 0 ≤ 102) {i v : Int32} (hi : ¬ ∃ j : Nat, i = nI j ∧ j + 1 < V 3 0) : nRd YX7_part [.ref (a), .int (i), .int (v)] h (.int (nI 0)) := by
  refine nSp_of (by decide +kernel) rfl (Nat.le_of_ble_eq_true rfl) (ls := [some (.ref (a)), some (.int (i)), some (.int (v))]) (by exact (And.intro rfl (And.intro rfl (And.intro rfl True.intro)))) ?_
  refine x_iload_n rfl d_X7_part_0 ?_
  refine x_iconst (v := nI 0) (by decide) d_X7_part_1 ?_
  refine x_aload_n rfl d_X7_part_2 ?_
  refine x_getf co_all (v := .int (nV (V 3 0))) d_X7_part_3 fk_7_19 (o7_o C.1.1) rfl ?_
  refine x_iconst (v := nI 1) (by decide) d_X7_part_6 ?_
  refine x_isub d_X7_part_7 ?_
  refine x_rdS d_X7_part_8 lk_7_64 mo_X7_within sc_X7_within (sp_within (i) (nI 0) (nV (V 3 0) - nI 1)) rfl ⟨Nat.le_of_ble_eq_true rfl, Nat.le_of_ble_eq_true rfl⟩ rfl rfl (Nat.zero_le _) (Nat.zero_le _) (Nat.le_of_ble_eq_true rfl) rfl ?_
  rw [nB_F (fun z => hi ((wi_R hv).mp z))]
  refine x_if_eqN (tgt := 24) d_X7_part_11 (by decide) (by omega) (fun c_1 => ?_) (fun c_1 => by exfalso; exact c_1 rfl)
  refine x_iconst (v := nI 0) (by decide) d_X7_part_24 ?_
  exact x_ireturn d_X7_part_25 rfl (by first | rfl | exact nB_nar _ | exact nB_nar1 (by omega)) rfl rfl (Nat.zero_le _) (Nat.zero_le _) (⟨rfl, rfl⟩)
theorem cl_partV {h : nPH} {a b : Nat} {V : Nat → Nat → Nat} {P : Nat → Nat → Nat → Nat} {R : Nat → Nat → Nat → Nat → Nat} {E Y T S : Nat → Nat → Nat} (C : cW h a b V P R E Y T S) (hv : V 3 0 ≤ 102) {j : Nat} (hj : j + 1 < V 3 0) {u : Int32} (hu : ¬ (nI 0 ≤ u ∧ u ≤ nI 100)) : nRd YX7_part [.ref (a), .int (nI (j)), .int (u)] h (.int (nI 0)) := by
  refine nSp_of (by decide +kernel) rfl (Nat.le_of_ble_eq_true rfl) (ls := [some (.ref (a)), some (.int (nI (j))), some (.int (u))]) (by exact (And.intro rfl (And.intro rfl (And.intro rfl True.intro)))) ?_
  refine x_iload_n rfl d_X7_part_0 ?_
  refine x_iconst (v := nI 0) (by decide) d_X7_part_1 ?_
  refine x_aload_n rfl d_X7_part_2 ?_
  refine x_getf co_all (v := .int (nV (V 3 0))) d_X7_part_3 fk_7_19 (o7_o C.1.1) rfl ?_
  refine x_iconst (v := nI 1) (by decide) d_X7_part_6 ?_
  refine x_isub d_X7_part_7 ?_
  refine x_rdS d_X7_part_8 lk_7_64 mo_X7_within sc_X7_within (sp_within (nI (j)) (nI 0) (nV (V 3 0) - nI 1)) rfl ⟨Nat.le_of_ble_eq_true rfl, Nat.le_of_ble_eq_true rfl⟩ rfl rfl (Nat.zero_le _) (Nat.zero_le _) (Nat.le_of_ble_eq_true rfl) rfl ?_
  rw [nB_T ((wi_V (by omega) (by omega)).mpr hj)]
  refine x_if_eqN (tgt := 24) d_X7_part_11 (by decide) (by omega) (fun c_1 => by exfalso; exact absurd c_1 (by decide)) (fun c_1 => ?_)
  refine x_iload_n rfl d_X7_part_14 ?_
  refine x_iconst (v := nI 0) (by decide) d_X7_part_15 ?_
  refine x_bipush (v := nI 100) (by decide) d_X7_part_16 ?_
  refine x_rdS d_X7_part_18 lk_7_64 mo_X7_within sc_X7_within (sp_within (u) (nI 0) (nI 100)) rfl ⟨Nat.le_of_ble_eq_true rfl, Nat.le_of_ble_eq_true rfl⟩ rfl rfl (Nat.zero_le _) (Nat.zero_le _) (Nat.le_of_ble_eq_true rfl) rfl ?_
  rw [nB_F hu]
  refine x_if_neN (tgt := 26) d_X7_part_21 (by decide) (by omega) (fun c_2 => by exfalso; exact c_2 rfl) (fun c_2 => ?_)
  refine x_iconst (v := nI 0) (by decide) d_X7_part_24 ?_
  exact x_ireturn d_X7_part_25 rfl (by first | rfl | exact nB_nar _ | exact nB_nar1 (by omega)) rfl rfl (Nat.zero_le _) (Nat.zero_le _) (⟨rfl, rfl⟩)
theorem cl_part {h : nPH} {a b : Nat} {V : Nat → Nat → Nat} {P : Nat → Nat → Nat → Nat} {R : Nat → Nat → Nat → Nat → Nat} {E Y T S : Nat → Nat → Nat} (C : cW h a b V P R E Y T S) (hv : V 3 0 ≤ 102) {j : Nat} (hj : j + 1 < V 3 0) {u : Nat} (hu : u ≤ 100) : nWv YX7_part [.ref (a), .int (nI (j)), .int (nI (u))] h (some (.int (nI 1))) (fun h2 => kB b h h2 ∧ cW h2 a b (u2 V 2 j u) P R E Y T S) := by
  refine nSp_of (by decide +kernel) rfl (Nat.le_of_ble_eq_true rfl) (ls := [some (.ref (a)), some (.int (nI (j))), some (.int (nI (u)))]) (by exact (And.intro rfl (And.intro rfl (And.intro rfl True.intro)))) ?_
  refine x_iload_n rfl d_X7_part_0 ?_
  refine x_iconst (v := nI 0) (by decide) d_X7_part_1 ?_
  refine x_aload_n rfl d_X7_part_2 ?_
  refine x_getf co_all (v := .int (nV (V 3 0))) d_X7_part_3 fk_7_19 (o7_o C.1.1) rfl ?_
  refine x_iconst (v := nI 1) (by decide) d_X7_part_6 ?_
  refine x_isub d_X7_part_7 ?_
  refine x_rdS d_X7_part_8 lk_7_64 mo_X7_within sc_X7_within (sp_within (nI (j)) (nI 0) (nV (V 3 0) - nI 1)) rfl ⟨Nat.le_of_ble_eq_true rfl, Nat.le_of_ble_eq_true rfl⟩ rfl rfl (Nat.zero_le _) (Nat.zero_le _) (Nat.le_of_ble_eq_true rfl) rfl ?_
  rw [nB_T ((wi_V (by omega) (by omega)).mpr hj)]
  refine x_if_eqN (tgt := 24) d_X7_part_11 (by decide) (by omega) (fun c_1 => by exfalso; exact absurd c_1 (by decide)) (fun c_1 => ?_)
  refine x_iload_n rfl d_X7_part_14 ?_
  refine x_iconst (v := nI 0) (by decide) d_X7_part_15 ?_
  refine x_bipush (v := nI 100) (by decide) d_X7_part_16 ?_
  refine x_rdS d_X7_part_18 lk_7_64 mo_X7_within sc_X7_within (sp_within (nI (u)) (nI 0) (nI 100)) rfl ⟨Nat.le_of_ble_eq_true rfl, Nat.le_of_ble_eq_true rfl⟩ rfl rfl (Nat.zero_le _) (Nat.zero_le _) (Nat.le_of_ble_eq_true rfl) rfl ?_
  rw [nB_ge (a := 0) (b := u) (c := 100) rfl rfl rfl (by decide) (by omega) (by decide) ⟨by omega, hu⟩]
  refine x_if_neN (tgt := 26) d_X7_part_21 (by decide) (by omega) (fun c_2 => ?_) (fun c_2 => by exfalso; exact absurd c_2 (by decide))
  refine x_aload_n rfl d_X7_part_26 ?_
  refine x_getf co_all (v := .ref (a + 2)) d_X7_part_27 fk_7_15 (o7_o C.1.1) rfl ?_
  refine x_iload_n rfl d_X7_part_30 ?_
  refine x_iload_n rfl d_X7_part_31 ?_
  refine x_iastore d_X7_part_32 (o7_2 C.1.1) (nIx_nI (j := j) (by omega) (by decide)) (Nat.le_trans (o7_B C.1.1) (Nat.le_add_right _ _)) ?_
  have H3_7 := o7_ast2 (j) (u) C.1.1
  have f_4 := o7_f2 (j) (u) C.1.1 ((nFr.rf (S := nIv a 3) (h := h))) (by exact ⟨by omega, by omega⟩)
  refine x_iconst (v := nI 1) (by decide) d_X7_part_33 ?_
  exact x_ireturn d_X7_part_34 rfl (by first | rfl | exact nB_nar _ | exact nB_nar1 (by omega)) (f_4).1 (f_4).2.1 (Nat.zero_le _) (Nat.zero_le _) (⟨rfl, cW_o C f_4 (nFr_up (Nat.le_refl _) (by omega)) (cF_V C.1 f_4 H3_7) rfl (fun _ => u2_ne (by omega))⟩)
theorem cl_holeP {h : nPH} {a b : Nat} {V : Nat → Nat → Nat} {P : Nat → Nat → Nat → Nat} {R : Nat → Nat → Nat → Nat → Nat} {E Y T S : Nat → Nat → Nat} (C : cW h a b V P R E Y T S) {p : Int32} (hp : ¬ nIn p (V 1 0)) {r k : Int32} : nRd YX7_hole [.ref (a), .int (p), .int (r), .int (k)] h (.int (-1)) := by
  refine nSp_of (by decide +kernel) rfl (Nat.le_of_ble_eq_true rfl) (ls := [some (.ref (a)), some (.int (p)), some (.int (r)), some (.int (k)), none]) (by exact (And.intro rfl (And.intro rfl (And.intro rfl (And.intro rfl True.intro))))) ?_
  refine x_aload_n rfl d_X7_hole_0 ?_
  refine x_iload_n rfl d_X7_hole_1 ?_
  refine x_rdV d_X7_hole_2 lk_7_85 mo_X7_panelAt vi_X7_panelAt (sp_pAtN C.1.1 (cW_n C) hp) (o7_o C.1.1) ⟨_, rfl, rfl⟩ rfl ⟨Nat.le_of_ble_eq_true rfl, Nat.le_of_ble_eq_true rfl⟩ rfl rfl (Nat.zero_le _) (Nat.zero_le _) (Nat.le_of_ble_eq_true rfl) rfl ?_
  refine x_astoreN d_X7_hole_5 (Nat.le_of_ble_eq_true rfl) ?_
  refine x_aloadN rfl d_X7_hole_7 ?_
  refine x_ifnullN (tgt := 22) d_X7_hole_9 (by decide) ?_
  refine x_iconst (v := -1) (by decide) d_X7_hole_22 ?_
  exact x_ireturn d_X7_hole_23 rfl rfl rfl rfl (Nat.zero_le _) (Nat.zero_le _) (⟨rfl, rfl⟩)
theorem cl_holeO {h : nPH} {a b : Nat} {V : Nat → Nat → Nat} {P : Nat → Nat → Nat → Nat} {R : Nat → Nat → Nat → Nat → Nat} {E Y T S : Nat → Nat → Nat} (C : cW h a b V P R E Y T S) {p : Nat} (hp : p < V 1 0) {r k : Int32} (hO : rOff (P p 5 0) (R p) r k) : nRd YX7_hole [.ref (a), .int (nI (p)), .int (r), .int (k)] h (.int (-1)) := by
  have hn12 := cW_n C
  have hn20 := (cW_q C hp).2.1
  refine nSp_of (by decide +kernel) rfl (Nat.le_of_ble_eq_true rfl) (ls := [some (.ref (a)), some (.int (nI (p))), some (.int (r)), some (.int (k)), none]) (by exact (And.intro rfl (And.intro rfl (And.intro rfl (And.intro rfl True.intro))))) ?_
  refine x_aload_n rfl d_X7_hole_0 ?_
  refine x_iload_n rfl d_X7_hole_1 ?_
  refine x_rdV d_X7_hole_2 lk_7_85 mo_X7_panelAt vi_X7_panelAt (sp_pAt C.1.1 (cW_n C) hp) (o7_o C.1.1) ⟨_, rfl, rfl⟩ rfl ⟨Nat.le_of_ble_eq_true rfl, Nat.le_of_ble_eq_true rfl⟩ rfl rfl (Nat.zero_le _) (Nat.zero_le _) (Nat.le_of_ble_eq_true rfl) rfl ?_
  refine x_astore d_X7_hole_5 (Nat.le_of_ble_eq_true rfl) ?_
  refine x_aload rfl d_X7_hole_7 ?_
  refine x_ifnull d_X7_hole_9 ?_
  refine x_aload rfl d_X7_hole_12 ?_
  refine x_iload_n rfl d_X7_hole_14 ?_
  refine x_iload_n rfl d_X7_hole_15 ?_
  refine x_rdV d_X7_hole_16 lk_7_130 mo_X2_rowWith vi_X2_rowWith (sp_rowWithO (cW_q C hp) hO) (o2_o (cW_q C hp).1) ⟨_, rfl, rfl⟩ rfl ⟨Nat.le_of_ble_eq_true rfl, Nat.le_of_ble_eq_true rfl⟩ rfl rfl (Nat.zero_le _) (Nat.zero_le _) (Nat.le_of_ble_eq_true rfl) rfl ?_
  refine x_ifnonnullN d_X7_hole_19 ?_
  refine x_iconst (v := -1) (by decide) d_X7_hole_22 ?_
  exact x_ireturn d_X7_hole_23 rfl rfl rfl rfl (Nat.zero_le _) (Nat.zero_le _) (⟨rfl, rfl⟩)
theorem cl_hole {h : nPH} {a b : Nat} {V : Nat → Nat → Nat} {P : Nat → Nat → Nat → Nat} {R : Nat → Nat → Nat → Nat → Nat} {E Y T S : Nat → Nat → Nat} (C : cW h a b V P R E Y T S) {p : Nat} (hp : p < V 1 0) {r : Nat} (hr : r < P p 5 0) {k : Nat} (hk : k < R p r 0 0) (G : gOK (P p 5 0) (R p)) {T0 : Nat → Bool} (hT : hTr (P p) (R p) (24 * r + k) T0) : nWv YX7_hole [.ref (a), .int (nI (p)), .int (nI (r)), .int (nI (k))] h (some (.int (nI (fb_ct T0 480)))) (fun h2 => ∃ E2, hIs (P p) (R p) T0 E2 ∧ kB b h h2 ∧ cW h2 a b V P R E2 Y T S) := by
  have hn12 := cW_n C
  have hn20 := (cW_q C hp).2.1
  have hrk := ((cW_q C hp).2.2.1 r hr).2.1
  have hpl := hrk.1
  have hkk := hrk.2 k (by omega)
  refine nSp_of (by decide +kernel) rfl (Nat.le_of_ble_eq_true rfl) (ls := [some (.ref (a)), some (.int (nI (p))), some (.int (nI (r))), some (.int (nI (k))), none]) (by exact (And.intro rfl (And.intro rfl (And.intro rfl (And.intro rfl True.intro))))) ?_
  refine x_aload_n rfl d_X7_hole_0 ?_
  refine x_iload_n rfl d_X7_hole_1 ?_
  refine x_rdV d_X7_hole_2 lk_7_85 mo_X7_panelAt vi_X7_panelAt (sp_pAt C.1.1 (cW_n C) hp) (o7_o C.1.1) ⟨_, rfl, rfl⟩ rfl ⟨Nat.le_of_ble_eq_true rfl, Nat.le_of_ble_eq_true rfl⟩ rfl rfl (Nat.zero_le _) (Nat.zero_le _) (Nat.le_of_ble_eq_true rfl) rfl ?_
  refine x_astore d_X7_hole_5 (Nat.le_of_ble_eq_true rfl) ?_
  refine x_aload rfl d_X7_hole_7 ?_
  refine x_ifnull d_X7_hole_9 ?_
  refine x_aload rfl d_X7_hole_12 ?_
  refine x_iload_n rfl d_X7_hole_14 ?_
  refine x_iload_n rfl d_X7_hole_15 ?_
  refine x_rdV d_X7_hole_16 lk_7_130 mo_X2_rowWith vi_X2_rowWith (sp_rowWith (cW_q C hp) hr hk) (o2_o (cW_q C hp).1) ⟨_, rfl, rfl⟩ rfl ⟨Nat.le_of_ble_eq_true rfl, Nat.le_of_ble_eq_true rfl⟩ rfl rfl (Nat.zero_le _) (Nat.zero_le _) (Nat.le_of_ble_eq_true rfl) rfl ?_
  refine x_ifnonnull (tgt := 24) d_X7_hole_19 (by decide) ?_
  refine x_aload_n rfl d_X7_hole_24 ?_
  refine x_getf co_all (v := .ref (a + 3)) d_X7_hole_25 fk_7_26 (o7_o C.1.1) rfl ?_
  refine x_aload rfl d_X7_hole_28 ?_
  refine x_iload_n rfl d_X7_hole_30 ?_
  refine x_iload_n rfl d_X7_hole_31 ?_
  refine x_wvV d_X7_hole_32 lk_7_193 mo_X0_trace vi_X0_trace (sp_traceT G hr hk (apW_sub (cW_a C hp) (by omega) (by omega)) (cW_q C hp) C.1.2.1 hT) (o0_o C.1.2.1) ⟨_, rfl, rfl⟩ rfl ⟨Nat.le_of_ble_eq_true rfl, Nat.le_of_ble_eq_true rfl⟩ (Nat.zero_le _) (Nat.zero_le _) (Nat.le_of_ble_eq_true rfl) rfl (fun h3 hp0 e1 e2 => ?_)
  obtain ⟨F3, E3, H3, I3⟩ := hp0
  have Cf := cF_E C.1 F3 H3
  rw [← I3.1.2.1]
  refine x_aload_n rfl d_X7_hole_35 ?_
  refine x_getf co_all (v := .ref (a + 3)) d_X7_hole_36 fk_7_26 (o7_o Cf.1) rfl ?_
  refine x_getf co_all (v := .int (nI (E3 1 0))) d_X7_hole_39 fk_7_197 (o0_o H3) rfl ?_
  exact x_ireturn d_X7_hole_42 rfl rfl F3.1 F3.2.1 (Nat.zero_le _) (Nat.zero_le _) (⟨rfl, E3, I3, cW_o C F3 (nFr_up (by omega) (by omega)) Cf rfl (fun _ => rfl)⟩)
def ldT (u : Nat) (c : Int32) : Int64 := if c = nI 0 then lN (u / Nat.gcd u 609359740010496) else if c = nI 1 then lN (609359740010496 / Nat.gcd u 609359740010496) else -1
theorem in01 {c : Int32} (h : nI 0 ≤ c ∧ c ≤ nI 1) : c = nI 0 ∨ c = nI 1 := by
  have h1 := Int32.le_iff_toInt_le.mp h.1
  have h2 := Int32.le_iff_toInt_le.mp h.2
  have e0 : (nI 0).toInt = 0 := by decide
  have e1 : (nI 1).toInt = 1 := by decide
  rw [e0] at h1
  rw [e1] at h2
  rcases (show c.toInt = 0 ∨ c.toInt = 1 by omega) with z | z
  · exact Or.inl (Int32.toInt_inj.mp (z.trans e0.symm))
  · exact Or.inr (Int32.toInt_inj.mp (z.trans e1.symm))
theorem sp_term {h : nPH} {u : Nat} (hu : u < 2 ^ 63) (c : Int32) : nRd YX1_term [.long (lN u), .int c] h (.long (ldT u c)) := by
  unfold ldT
  by_cases e : c = nI 0
  · rw [if_pos e, e]; exact sp_term0 hu
  · rw [if_neg e]
    by_cases e1 : c = nI 1
    · rw [if_pos e1, e1]; exact sp_term1 hu
    · rw [if_neg e1]
      exact sp_termN hu (fun z => by rcases in01 z with y | y; exact e y; exact e1 y)
theorem cl_loadP {h : nPH} {a b : Nat} {V : Nat → Nat → Nat} {P : Nat → Nat → Nat → Nat} {R : Nat → Nat → Nat → Nat → Nat} {E Y T S : Nat → Nat → Nat} (C : cW h a b V P R E Y T S) {p : Int32} (hp : ¬ nIn p (V 1 0)) {r k c : Int32} : nRd YX7_load [.ref (a), .int (p), .int (r), .int (k), .int (c)] h (.long (-1)) := by
  refine nSp_of (by decide +kernel) rfl (Nat.le_of_ble_eq_true rfl) (ls := [some (.ref (a)), some (.int (p)), some (.int (r)), some (.int (k)), some (.int (c)), none]) (by exact (And.intro rfl (And.intro rfl (And.intro rfl (And.intro rfl (And.intro rfl True.intro)))))) ?_
  refine x_aload_n rfl d_X7_load_0 ?_
  refine x_iload_n rfl d_X7_load_1 ?_
  refine x_rdV d_X7_load_2 lk_7_85 mo_X7_panelAt vi_X7_panelAt (sp_pAtN C.1.1 (cW_n C) hp) (o7_o C.1.1) ⟨_, rfl, rfl⟩ rfl ⟨Nat.le_of_ble_eq_true rfl, Nat.le_of_ble_eq_true rfl⟩ rfl rfl (Nat.zero_le _) (Nat.zero_le _) (Nat.le_of_ble_eq_true rfl) rfl ?_
  refine x_astoreN d_X7_load_5 (Nat.le_of_ble_eq_true rfl) ?_
  refine x_aloadN rfl d_X7_load_7 ?_
  refine x_ifnullN (tgt := 22) d_X7_load_9 (by decide) ?_
  refine x_ldc2 d_X7_load_22 ct_7_115 ?_
  exact x_lreturn d_X7_load_25 rfl rfl rfl (Nat.zero_le _) (Nat.zero_le _) (⟨rfl, rfl⟩)
theorem cl_loadO {h : nPH} {a b : Nat} {V : Nat → Nat → Nat} {P : Nat → Nat → Nat → Nat} {R : Nat → Nat → Nat → Nat → Nat} {E Y T S : Nat → Nat → Nat} (C : cW h a b V P R E Y T S) {p : Nat} (hp : p < V 1 0) {r k : Int32} (hO : rOff (P p 5 0) (R p) r k) {c : Int32} : nRd YX7_load [.ref (a), .int (nI (p)), .int (r), .int (k), .int (c)] h (.long (-1)) := by
  have hn12 := cW_n C
  have hn20 := (cW_q C hp).2.1
  refine nSp_of (by decide +kernel) rfl (Nat.le_of_ble_eq_true rfl) (ls := [some (.ref (a)), some (.int (nI (p))), some (.int (r)), some (.int (k)), some (.int (c)), none]) (by exact (And.intro rfl (And.intro rfl (And.intro rfl (And.intro rfl (And.intro rfl True.intro)))))) ?_
  refine x_aload_n rfl d_X7_load_0 ?_
  refine x_iload_n rfl d_X7_load_1 ?_
  refine x_rdV d_X7_load_2 lk_7_85 mo_X7_panelAt vi_X7_panelAt (sp_pAt C.1.1 (cW_n C) hp) (o7_o C.1.1) ⟨_, rfl, rfl⟩ rfl ⟨Nat.le_of_ble_eq_true rfl, Nat.le_of_ble_eq_true rfl⟩ rfl rfl (Nat.zero_le _) (Nat.zero_le _) (Nat.le_of_ble_eq_true rfl) rfl ?_
  refine x_astore d_X7_load_5 (Nat.le_of_ble_eq_true rfl) ?_
  refine x_aload rfl d_X7_load_7 ?_
  refine x_ifnull d_X7_load_9 ?_
  refine x_aload rfl d_X7_load_12 ?_
  refine x_iload_n rfl d_X7_load_14 ?_
  refine x_iload_n rfl d_X7_load_15 ?_
  refine x_rdV d_X7_load_16 lk_7_130 mo_X2_rowWith vi_X2_rowWith (sp_rowWithO (cW_q C hp) hO) (o2_o (cW_q C hp).1) ⟨_, rfl, rfl⟩ rfl ⟨Nat.le_of_ble_eq_true rfl, Nat.le_of_ble_eq_true rfl⟩ rfl rfl (Nat.zero_le _) (Nat.zero_le _) (Nat.le_of_ble_eq_true rfl) rfl ?_
  refine x_ifnonnullN d_X7_load_19 ?_
  refine x_ldc2 d_X7_load_22 ct_7_115 ?_
  exact x_lreturn d_X7_load_25 rfl rfl rfl (Nat.zero_le _) (Nat.zero_le _) (⟨rfl, rfl⟩)
theorem cl_load {h : nPH} {a b : Nat} {V : Nat → Nat → Nat} {P : Nat → Nat → Nat → Nat} {R : Nat → Nat → Nat → Nat → Nat} {E Y T S : Nat → Nat → Nat} (C : cW h a b V P R E Y T S) {p : Nat} (hp : p < V 1 0) {r : Nat} (hr : r < P p 5 0) {k : Nat} (hk : k < R p r 0 0) (G : gOK (P p 5 0) (R p)) (hpu : hPl (P p 6)) {c : Int32} : nWv YX7_load [.ref (a), .int (nI (p)), .int (nI (r)), .int (nI (k)), .int (c)] h (some (.long (ldT (uLd (P p 6) (R p) r k) c))) (fun h2 => kB b h h2 ∧ cW h2 a b V P R E Y T S) := by
  have hn12 := cW_n C
  have hn20 := (cW_q C hp).2.1
  have hrk := ((cW_q C hp).2.2.1 r hr).2.1
  have hpl := hrk.1
  have hkk := hrk.2 k (by omega)
  obtain ⟨L, HL⟩ := C.1.2.2.2.2.2.2
  have hplA := fun j hj => ((cW_q C hp).2.2.1 j hj).2.1.1
  refine nSp_of (by decide +kernel) rfl (Nat.le_of_ble_eq_true rfl) (ls := [some (.ref (a)), some (.int (nI (p))), some (.int (nI (r))), some (.int (nI (k))), some (.int (c)), none]) (by exact (And.intro rfl (And.intro rfl (And.intro rfl (And.intro rfl (And.intro rfl True.intro)))))) ?_
  refine x_aload_n rfl d_X7_load_0 ?_
  refine x_iload_n rfl d_X7_load_1 ?_
  refine x_rdV d_X7_load_2 lk_7_85 mo_X7_panelAt vi_X7_panelAt (sp_pAt C.1.1 (cW_n C) hp) (o7_o C.1.1) ⟨_, rfl, rfl⟩ rfl ⟨Nat.le_of_ble_eq_true rfl, Nat.le_of_ble_eq_true rfl⟩ rfl rfl (Nat.zero_le _) (Nat.zero_le _) (Nat.le_of_ble_eq_true rfl) rfl ?_
  refine x_astore d_X7_load_5 (Nat.le_of_ble_eq_true rfl) ?_
  refine x_aload rfl d_X7_load_7 ?_
  refine x_ifnull d_X7_load_9 ?_
  refine x_aload rfl d_X7_load_12 ?_
  refine x_iload_n rfl d_X7_load_14 ?_
  refine x_iload_n rfl d_X7_load_15 ?_
  refine x_rdV d_X7_load_16 lk_7_130 mo_X2_rowWith vi_X2_rowWith (sp_rowWith (cW_q C hp) hr hk) (o2_o (cW_q C hp).1) ⟨_, rfl, rfl⟩ rfl ⟨Nat.le_of_ble_eq_true rfl, Nat.le_of_ble_eq_true rfl⟩ rfl rfl (Nat.zero_le _) (Nat.zero_le _) (Nat.le_of_ble_eq_true rfl) rfl ?_
  refine x_ifnonnull (tgt := 26) d_X7_load_19 (by decide) ?_
  refine x_aload_n rfl d_X7_load_26 ?_
  refine x_getf co_all (v := .ref (a + 59)) d_X7_load_27 fk_7_57 (o7_o C.1.1) rfl ?_
  refine x_aload rfl d_X7_load_30 ?_
  refine x_wvV d_X7_load_32 lk_7_245 mo_X1_leadDown vi_X1_leadDown (sp_leadDown G hpu (cW_1 C hp) (apW_sub (cW_a C hp) (by omega) (by omega)) (cW_q C hp) HL) (o1_o HL) ⟨_, rfl, rfl⟩ rfl ⟨Nat.le_of_ble_eq_true rfl, Nat.le_of_ble_eq_true rfl⟩ (Nat.zero_le _) (Nat.zero_le _) (Nat.le_of_ble_eq_true rfl) rfl (fun h3 hp0 e1 e2 => ?_)
  obtain ⟨F3, L3, H3, l1, l2, l3⟩ := hp0
  have Cf := cF_L C.1 F3 H3
  have CW := cW_o C F3 (nFr_up (by omega) (by omega)) Cf rfl (fun _ => rfl)
  refine x_aload_n rfl d_X7_load_35 ?_
  refine x_getf co_all (v := .ref (a + 59)) d_X7_load_36 fk_7_57 (o7_o Cf.1) rfl ?_
  refine x_getf co_all (v := .ref (a + 59 + 1)) d_X7_load_39 fk_7_248 (o1_o H3) rfl ?_
  refine x_iload_n rfl d_X7_load_42 ?_
  refine x_aaload d_X7_load_43 (o1_2 H3) rfl (nIx_nI (j := r) (by omega) (by decide)) rfl ?_
  refine x_iload_n rfl d_X7_load_44 ?_
  refine x_laload d_X7_load_45 (o1_2i H3 (r := (r)) (by omega)) (nIx_nI (j := k) (by omega) (by decide)) ?_
  show nG _ _ _ _ _ _ (.long (lN (L3 2 (20 * k + r))) :: _) _
  refine x_iload rfl d_X7_load_46 ?_
  rw [l3 r k hr hk]
  refine x_rdS d_X7_load_48 lk_7_252 mo_X1_term sc_X1_term (sp_term (u := uLd (P p 6) (R p) r k) (by have := uLd_le (p := P p 6) G hplA hpu hr hk; omega) c) rfl ⟨Nat.le_of_ble_eq_true rfl, Nat.le_of_ble_eq_true rfl⟩ rfl rfl (Nat.zero_le _) (Nat.zero_le _) (Nat.le_of_ble_eq_true rfl) rfl ?_
  exact x_lreturn d_X7_load_51 rfl F3.1 F3.2.1 (Nat.zero_le _) (Nat.zero_le _) (⟨rfl, CW⟩)
theorem cl_sumP {h : nPH} {a b : Nat} {V : Nat → Nat → Nat} {P : Nat → Nat → Nat → Nat} {R : Nat → Nat → Nat → Nat → Nat} {E Y T S : Nat → Nat → Nat} (C : cW h a b V P R E Y T S) {p : Int32} (hp : ¬ nIn p (V 1 0)) {q c : Int32} : nRd YX7_sum [.ref (a), .int (p), .int (q), .int (c)] h (.long (-1)) := by
  refine nSp_of (by decide +kernel) rfl (Nat.le_of_ble_eq_true rfl) (ls := [some (.ref (a)), some (.int (p)), some (.int (q)), some (.int (c)), none]) (by exact (And.intro rfl (And.intro rfl (And.intro rfl (And.intro rfl True.intro))))) ?_
  refine x_aload_n rfl d_X7_sum_0 ?_
  refine x_iload_n rfl d_X7_sum_1 ?_
  refine x_rdV d_X7_sum_2 lk_7_85 mo_X7_panelAt vi_X7_panelAt (sp_pAtN C.1.1 (cW_n C) hp) (o7_o C.1.1) ⟨_, rfl, rfl⟩ rfl ⟨Nat.le_of_ble_eq_true rfl, Nat.le_of_ble_eq_true rfl⟩ rfl rfl (Nat.zero_le _) (Nat.zero_le _) (Nat.le_of_ble_eq_true rfl) rfl ?_
  refine x_astoreN d_X7_sum_5 (Nat.le_of_ble_eq_true rfl) ?_
  refine x_aloadN rfl d_X7_sum_7 ?_
  refine x_ifnullN (tgt := 21) d_X7_sum_9 (by decide) ?_
  refine x_ldc2 d_X7_sum_21 ct_7_115 ?_
  exact x_lreturn d_X7_sum_24 rfl rfl rfl (Nat.zero_le _) (Nat.zero_le _) (⟨rfl, rfl⟩)
theorem cl_sumQ {h : nPH} {a b : Nat} {V : Nat → Nat → Nat} {P : Nat → Nat → Nat → Nat} {R : Nat → Nat → Nat → Nat → Nat} {E Y T S : Nat → Nat → Nat} (C : cW h a b V P R E Y T S) {p : Nat} (hp : p < V 1 0) {q c : Int32} (hq : ¬ (nI 0 ≤ q ∧ q ≤ nI 1)) : nRd YX7_sum [.ref (a), .int (nI (p)), .int (q), .int (c)] h (.long (-1)) := by
  have hn12 := cW_n C
  have hn20 := (cW_q C hp).2.1
  refine nSp_of (by decide +kernel) rfl (Nat.le_of_ble_eq_true rfl) (ls := [some (.ref (a)), some (.int (nI (p))), some (.int (q)), some (.int (c)), none]) (by exact (And.intro rfl (And.intro rfl (And.intro rfl (And.intro rfl True.intro))))) ?_
  refine x_aload_n rfl d_X7_sum_0 ?_
  refine x_iload_n rfl d_X7_sum_1 ?_
  refine x_rdV d_X7_sum_2 lk_7_85 mo_X7_panelAt vi_X7_panelAt (sp_pAt C.1.1 (cW_n C) hp) (o7_o C.1.1) ⟨_, rfl, rfl⟩ rfl ⟨Nat.le_of_ble_eq_true rfl, Nat.le_of_ble_eq_true rfl⟩ rfl rfl (Nat.zero_le _) (Nat.zero_le _) (Nat.le_of_ble_eq_true rfl) rfl ?_
  refine x_astore d_X7_sum_5 (Nat.le_of_ble_eq_true rfl) ?_
  refine x_aload rfl d_X7_sum_7 ?_
  refine x_ifnull d_X7_sum_9 ?_
  refine x_iload_n rfl d_X7_sum_12 ?_
  refine x_iconst (v := nI 0) (by decide) d_X7_sum_13 ?_
  refine x_iconst (v := nI 1) (by decide) d_X7_sum_14 ?_
  refine x_rdS d_X7_sum_15 lk_7_64 mo_X7_within sc_X7_within (sp_within (q) (nI 0) (nI 1)) rfl ⟨Nat.le_of_ble_eq_true rfl, Nat.le_of_ble_eq_true rfl⟩ rfl rfl (Nat.zero_le _) (Nat.zero_le _) (Nat.le_of_ble_eq_true rfl) rfl ?_
  rw [nB_F hq]
  refine x_if_neN (tgt := 25) d_X7_sum_18 (by decide) (by omega) (fun c_1 => by exfalso; exact c_1 rfl) (fun c_1 => ?_)
  refine x_ldc2 d_X7_sum_21 ct_7_115 ?_
  exact x_lreturn d_X7_sum_24 rfl rfl rfl (Nat.zero_le _) (Nat.zero_le _) (⟨rfl, rfl⟩)
theorem cl_sum0 {h : nPH} {a b : Nat} {V : Nat → Nat → Nat} {P : Nat → Nat → Nat → Nat} {R : Nat → Nat → Nat → Nat → Nat} {E Y T S : Nat → Nat → Nat} (C : cW h a b V P R E Y T S) {p : Nat} (hp : p < V 1 0) (G : gOK (P p 5 0) (R p)) (hpu : hPl (P p 6)) {c : Int32} : nWv YX7_sum [.ref (a), .int (nI (p)), .int (nI (0)), .int (c)] h (some (.long (ldT (uLo (P p 6) (R p) (P p 5 0 - 1)) c))) (fun h2 => kB b h h2 ∧ cW h2 a b V P R E Y T S) := by
  have hn12 := cW_n C
  have hn20 := (cW_q C hp).2.1
  obtain ⟨L, HL⟩ := C.1.2.2.2.2.2.2
  have hplA := fun j hj => ((cW_q C hp).2.2.1 j hj).2.1.1
  have h1p := cW_1 C hp
  have hs1 := uLs_le (p := P p 6) G hplA (P p 5 0 - 1) (by omega)
  have hs2 := uLs_0 (p := P p 6) (R := R p) hpu (hplA 0 (by omega))
  refine nSp_of (by decide +kernel) rfl (Nat.le_of_ble_eq_true rfl) (ls := [some (.ref (a)), some (.int (nI (p))), some (.int (nI (0))), some (.int (c)), none]) (by exact (And.intro rfl (And.intro rfl (And.intro rfl (And.intro rfl True.intro))))) ?_
  refine x_aload_n rfl d_X7_sum_0 ?_
  refine x_iload_n rfl d_X7_sum_1 ?_
  refine x_rdV d_X7_sum_2 lk_7_85 mo_X7_panelAt vi_X7_panelAt (sp_pAt C.1.1 (cW_n C) hp) (o7_o C.1.1) ⟨_, rfl, rfl⟩ rfl ⟨Nat.le_of_ble_eq_true rfl, Nat.le_of_ble_eq_true rfl⟩ rfl rfl (Nat.zero_le _) (Nat.zero_le _) (Nat.le_of_ble_eq_true rfl) rfl ?_
  refine x_astore d_X7_sum_5 (Nat.le_of_ble_eq_true rfl) ?_
  refine x_aload rfl d_X7_sum_7 ?_
  refine x_ifnull d_X7_sum_9 ?_
  refine x_iload_n rfl d_X7_sum_12 ?_
  refine x_iconst (v := nI 0) (by decide) d_X7_sum_13 ?_
  refine x_iconst (v := nI 1) (by decide) d_X7_sum_14 ?_
  refine x_rdS d_X7_sum_15 lk_7_64 mo_X7_within sc_X7_within (sp_within (nI (0)) (nI 0) (nI 1)) rfl ⟨Nat.le_of_ble_eq_true rfl, Nat.le_of_ble_eq_true rfl⟩ rfl rfl (Nat.zero_le _) (Nat.zero_le _) (Nat.le_of_ble_eq_true rfl) rfl ?_
  rw [nB_T (show nI 0 ≤ nI 0 ∧ nI 0 ≤ nI 1 by decide)]
  refine x_if_neN (tgt := 25) d_X7_sum_18 (by decide) (by omega) (fun c_1 => ?_) (fun c_1 => by exfalso; exact absurd c_1 (by decide))
  refine x_aload_n rfl d_X7_sum_25 ?_
  refine x_getf co_all (v := .ref (a + 59)) d_X7_sum_26 fk_7_57 (o7_o C.1.1) rfl ?_
  refine x_aload rfl d_X7_sum_29 ?_
  refine x_wvV d_X7_sum_31 lk_7_245 mo_X1_leadDown vi_X1_leadDown (sp_leadDown G hpu (cW_1 C hp) (apW_sub (cW_a C hp) (by omega) (by omega)) (cW_q C hp) HL) (o1_o HL) ⟨_, rfl, rfl⟩ rfl ⟨Nat.le_of_ble_eq_true rfl, Nat.le_of_ble_eq_true rfl⟩ (Nat.zero_le _) (Nat.zero_le _) (Nat.le_of_ble_eq_true rfl) rfl (fun h3 hp0 e1 e2 => ?_)
  obtain ⟨F3, L3, H3, l1, l2, l3⟩ := hp0
  have Cf := cF_L C.1 F3 H3
  have CW := cW_o C F3 (nFr_up (by omega) (by omega)) Cf rfl (fun _ => rfl)
  refine x_iload_n rfl d_X7_sum_34 ?_
  refine x_if_neN (tgt := 48) d_X7_sum_35 (by decide) (by omega) (fun c_2 => by exfalso; omega) (fun c_2 => ?_)
  refine x_aload_n rfl d_X7_sum_38 ?_
  refine x_getf co_all (v := .ref (a + 59)) d_X7_sum_39 fk_7_57 (o7_o Cf.1) rfl ?_
  refine x_getf co_all (v := .long (lN (L3 0 0))) d_X7_sum_42 fk_7_256 (o1_o H3) rfl ?_
  refine x_goto (tgt := 55) d_X7_sum_45 (by decide) ?_
  refine x_iload_n rfl d_X7_sum_55 ?_
  rw [l1]
  refine x_rdS d_X7_sum_56 lk_7_252 mo_X1_term sc_X1_term (sp_term (u := uLo (P p 6) (R p) (P p 5 0 - 1)) (by omega) c) rfl ⟨Nat.le_of_ble_eq_true rfl, Nat.le_of_ble_eq_true rfl⟩ rfl rfl (Nat.zero_le _) (Nat.zero_le _) (Nat.le_of_ble_eq_true rfl) rfl ?_
  exact x_lreturn d_X7_sum_59 rfl F3.1 F3.2.1 (Nat.zero_le _) (Nat.zero_le _) (⟨rfl, CW⟩)
theorem cl_sum1 {h : nPH} {a b : Nat} {V : Nat → Nat → Nat} {P : Nat → Nat → Nat → Nat} {R : Nat → Nat → Nat → Nat → Nat} {E Y T S : Nat → Nat → Nat} (C : cW h a b V P R E Y T S) {p : Nat} (hp : p < V 1 0) (G : gOK (P p 5 0) (R p)) (hpu : hPl (P p 6)) {c : Int32} : nWv YX7_sum [.ref (a), .int (nI (p)), .int (nI (1)), .int (c)] h (some (.long (ldT (uLs (P p 6) (R p) (P p 5 0 - 1)) c))) (fun h2 => kB b h h2 ∧ cW h2 a b V P R E Y T S) := by
  have hn12 := cW_n C
  have hn20 := (cW_q C hp).2.1
  obtain ⟨L, HL⟩ := C.1.2.2.2.2.2.2
  have hplA := fun j hj => ((cW_q C hp).2.2.1 j hj).2.1.1
  have h1p := cW_1 C hp
  have hs1 := uLs_le (p := P p 6) G hplA (P p 5 0 - 1) (by omega)
  have hs2 := uLs_0 (p := P p 6) (R := R p) hpu (hplA 0 (by omega))
  refine nSp_of (by decide +kernel) rfl (Nat.le_of_ble_eq_true rfl) (ls := [some (.ref (a)), some (.int (nI (p))), some (.int (nI (1))), some (.int (c)), none]) (by exact (And.intro rfl (And.intro rfl (And.intro rfl (And.intro rfl True.intro))))) ?_
  refine x_aload_n rfl d_X7_sum_0 ?_
  refine x_iload_n rfl d_X7_sum_1 ?_
  refine x_rdV d_X7_sum_2 lk_7_85 mo_X7_panelAt vi_X7_panelAt (sp_pAt C.1.1 (cW_n C) hp) (o7_o C.1.1) ⟨_, rfl, rfl⟩ rfl ⟨Nat.le_of_ble_eq_true rfl, Nat.le_of_ble_eq_true rfl⟩ rfl rfl (Nat.zero_le _) (Nat.zero_le _) (Nat.le_of_ble_eq_true rfl) rfl ?_
  refine x_astore d_X7_sum_5 (Nat.le_of_ble_eq_true rfl) ?_
  refine x_aload rfl d_X7_sum_7 ?_
  refine x_ifnull d_X7_sum_9 ?_
  refine x_iload_n rfl d_X7_sum_12 ?_
  refine x_iconst (v := nI 0) (by decide) d_X7_sum_13 ?_
  refine x_iconst (v := nI 1) (by decide) d_X7_sum_14 ?_
  refine x_rdS d_X7_sum_15 lk_7_64 mo_X7_within sc_X7_within (sp_within (nI (1)) (nI 0) (nI 1)) rfl ⟨Nat.le_of_ble_eq_true rfl, Nat.le_of_ble_eq_true rfl⟩ rfl rfl (Nat.zero_le _) (Nat.zero_le _) (Nat.le_of_ble_eq_true rfl) rfl ?_
  rw [nB_T (show nI 0 ≤ nI 1 ∧ nI 1 ≤ nI 1 by decide)]
  refine x_if_neN (tgt := 25) d_X7_sum_18 (by decide) (by omega) (fun c_1 => ?_) (fun c_1 => by exfalso; exact absurd c_1 (by decide))
  refine x_aload_n rfl d_X7_sum_25 ?_
  refine x_getf co_all (v := .ref (a + 59)) d_X7_sum_26 fk_7_57 (o7_o C.1.1) rfl ?_
  refine x_aload rfl d_X7_sum_29 ?_
  refine x_wvV d_X7_sum_31 lk_7_245 mo_X1_leadDown vi_X1_leadDown (sp_leadDown G hpu (cW_1 C hp) (apW_sub (cW_a C hp) (by omega) (by omega)) (cW_q C hp) HL) (o1_o HL) ⟨_, rfl, rfl⟩ rfl ⟨Nat.le_of_ble_eq_true rfl, Nat.le_of_ble_eq_true rfl⟩ (Nat.zero_le _) (Nat.zero_le _) (Nat.le_of_ble_eq_true rfl) rfl (fun h3 hp0 e1 e2 => ?_)
  obtain ⟨F3, L3, H3, l1, l2, l3⟩ := hp0
  have Cf := cF_L C.1 F3 H3
  have CW := cW_o C F3 (nFr_up (by omega) (by omega)) Cf rfl (fun _ => rfl)
  refine x_iload_n rfl d_X7_sum_34 ?_
  refine x_if_neN (tgt := 48) d_X7_sum_35 (by decide) (by omega) (fun c_2 => ?_) (fun c_2 => by exfalso; omega)
  refine x_aload_n rfl d_X7_sum_48 ?_
  refine x_getf co_all (v := .ref (a + 59)) d_X7_sum_49 fk_7_57 (o7_o Cf.1) rfl ?_
  refine x_getf co_all (v := .long (lN (L3 1 0))) d_X7_sum_52 fk_7_260 (o1_o H3) rfl ?_
  refine x_iload_n rfl d_X7_sum_55 ?_
  rw [l2]
  refine x_rdS d_X7_sum_56 lk_7_252 mo_X1_term sc_X1_term (sp_term (u := uLs (P p 6) (R p) (P p 5 0 - 1)) (by omega) c) rfl ⟨Nat.le_of_ble_eq_true rfl, Nat.le_of_ble_eq_true rfl⟩ rfl rfl (Nat.zero_le _) (Nat.zero_le _) (Nat.le_of_ble_eq_true rfl) rfl ?_
  exact x_lreturn d_X7_sum_59 rfl F3.1 F3.2.1 (Nat.zero_le _) (Nat.zero_le _) (⟨rfl, CW⟩)
theorem cl_weakP {h : nPH} {a b : Nat} {V : Nat → Nat → Nat} {P : Nat → Nat → Nat → Nat} {R : Nat → Nat → Nat → Nat → Nat} {E Y T S : Nat → Nat → Nat} (C : cW h a b V P R E Y T S) {p : Int32} (hp : ¬ nIn p (V 1 0)) : nRd YX7_weak [.ref (a), .int (p)] h (.int (-1)) := by
  refine nSp_of (by decide +kernel) rfl (Nat.le_of_ble_eq_true rfl) (ls := [some (.ref (a)), some (.int (p)), none]) (by exact (And.intro rfl (And.intro rfl True.intro))) ?_
  refine x_aload_n rfl d_X7_weak_0 ?_
  refine x_iload_n rfl d_X7_weak_1 ?_
  refine x_rdV d_X7_weak_2 lk_7_85 mo_X7_panelAt vi_X7_panelAt (sp_pAtN C.1.1 (cW_n C) hp) (o7_o C.1.1) ⟨_, rfl, rfl⟩ rfl ⟨Nat.le_of_ble_eq_true rfl, Nat.le_of_ble_eq_true rfl⟩ rfl rfl (Nat.zero_le _) (Nat.zero_le _) (Nat.le_of_ble_eq_true rfl) rfl ?_
  refine x_astore_nN d_X7_weak_5 (Nat.le_of_ble_eq_true rfl) ?_
  refine x_aload_nN rfl d_X7_weak_6 ?_
  refine x_ifnonnullN d_X7_weak_7 ?_
  refine x_iconst (v := -1) (by decide) d_X7_weak_10 ?_
  exact x_ireturn d_X7_weak_11 rfl rfl rfl rfl (Nat.zero_le _) (Nat.zero_le _) (⟨rfl, rfl⟩)
theorem cl_weakY {h : nPH} {a b : Nat} {V : Nat → Nat → Nat} {P : Nat → Nat → Nat → Nat} {R : Nat → Nat → Nat → Nat → Nat} {E Y T S : Nat → Nat → Nat} (C : cW h a b V P R E Y T S) {p : Nat} (hp : p < V 1 0) (G : gOK (P p 5 0) (R p)) (hpu : hPl (P p 6)) (hs : P p 1 0 < 2 ^ 31) {r0 m : Nat} (hr0 : r0 < P p 5 0) (hm : m < R p r0 0 0) (hno0 : ∀ r k, r < r0 → k < R p r 0 0 → ¬ P p 1 0 * 609359740010496 < uLd (P p 6) (R p) r k) (hno : ∀ k, k < m → ¬ P p 1 0 * 609359740010496 < uLd (P p 6) (R p) r0 k) (hys : P p 1 0 * 609359740010496 < uLd (P p 6) (R p) r0 m) : nWv YX7_weak [.ref (a), .int (nI (p))] h (some (.int (nI (100 * r0 + m)))) (fun h2 => kB b h h2 ∧ cW h2 a b V P R E Y T S) := by
  have hn12 := cW_n C
  have hn20 := (cW_q C hp).2.1
  obtain ⟨L, HL⟩ := C.1.2.2.2.2.2.2
  have hplA := fun j hj => ((cW_q C hp).2.2.1 j hj).2.1.1
  refine nSp_of (by decide +kernel) rfl (Nat.le_of_ble_eq_true rfl) (ls := [some (.ref (a)), some (.int (nI (p))), none]) (by exact (And.intro rfl (And.intro rfl True.intro))) ?_
  refine x_aload_n rfl d_X7_weak_0 ?_
  refine x_iload_n rfl d_X7_weak_1 ?_
  refine x_rdV d_X7_weak_2 lk_7_85 mo_X7_panelAt vi_X7_panelAt (sp_pAt C.1.1 (cW_n C) hp) (o7_o C.1.1) ⟨_, rfl, rfl⟩ rfl ⟨Nat.le_of_ble_eq_true rfl, Nat.le_of_ble_eq_true rfl⟩ rfl rfl (Nat.zero_le _) (Nat.zero_le _) (Nat.le_of_ble_eq_true rfl) rfl ?_
  refine x_astore_n d_X7_weak_5 (Nat.le_of_ble_eq_true rfl) ?_
  refine x_aload_n rfl d_X7_weak_6 ?_
  refine x_ifnonnull (tgt := 12) d_X7_weak_7 (by decide) ?_
  refine x_aload_n rfl d_X7_weak_12 ?_
  refine x_getf co_all (v := .ref (a + 59)) d_X7_weak_13 fk_7_57 (o7_o C.1.1) rfl ?_
  refine x_aload_n rfl d_X7_weak_16 ?_
  refine x_wvV d_X7_weak_17 lk_7_245 mo_X1_leadDown vi_X1_leadDown (sp_leadDown G hpu (cW_1 C hp) (apW_sub (cW_a C hp) (by omega) (by omega)) (cW_q C hp) HL) (o1_o HL) ⟨_, rfl, rfl⟩ rfl ⟨Nat.le_of_ble_eq_true rfl, Nat.le_of_ble_eq_true rfl⟩ (Nat.zero_le _) (Nat.zero_le _) (Nat.le_of_ble_eq_true rfl) rfl (fun h3 hp0 e1 e2 => ?_)
  obtain ⟨F3, L3, H3, l1, l2, l3⟩ := hp0
  have Cf := cF_L C.1 F3 H3
  have CW := cW_o C F3 (nFr_up (by omega) (by omega)) Cf rfl (fun _ => rfl)
  refine x_aload_n rfl d_X7_weak_20 ?_
  refine x_getf co_all (v := .ref (a + 59)) d_X7_weak_21 fk_7_57 (o7_o Cf.1) rfl ?_
  refine x_aload_n rfl d_X7_weak_24 ?_
  refine x_rdV d_X7_weak_25 lk_7_263 mo_X1_firstAbove vi_X1_firstAbove (sp_faY (cW_q CW.2 hp) H3 hs (fun r k hr hk => by rw [l3 r k hr hk]; have := uLd_le (p := P p 6) G hplA hpu hr hk; omega) hr0 hm (fun r k h1 h2 => by rw [l3 r k (by omega) h2]; exact hno0 r k h1 h2) (fun k h1 => by rw [l3 r0 k hr0 (by omega)]; exact hno k h1) (by rw [l3 r0 m hr0 hm]; exact hys)) (o1_o H3) ⟨_, rfl, rfl⟩ rfl ⟨Nat.le_of_ble_eq_true rfl, Nat.le_of_ble_eq_true rfl⟩ rfl rfl (Nat.zero_le _) (Nat.zero_le _) (Nat.le_of_ble_eq_true rfl) rfl ?_
  exact x_ireturn d_X7_weak_28 rfl rfl F3.1 F3.2.1 (Nat.zero_le _) (Nat.zero_le _) (⟨rfl, CW⟩)
theorem cl_weakN {h : nPH} {a b : Nat} {V : Nat → Nat → Nat} {P : Nat → Nat → Nat → Nat} {R : Nat → Nat → Nat → Nat → Nat} {E Y T S : Nat → Nat → Nat} (C : cW h a b V P R E Y T S) {p : Nat} (hp : p < V 1 0) (G : gOK (P p 5 0) (R p)) (hpu : hPl (P p 6)) (hs : P p 1 0 < 2 ^ 31) (hno0 : ∀ r k, r < P p 5 0 → k < R p r 0 0 → ¬ P p 1 0 * 609359740010496 < uLd (P p 6) (R p) r k) : nWv YX7_weak [.ref (a), .int (nI (p))] h (some (.int (-1))) (fun h2 => kB b h h2 ∧ cW h2 a b V P R E Y T S) := by
  have hn12 := cW_n C
  have hn20 := (cW_q C hp).2.1
  obtain ⟨L, HL⟩ := C.1.2.2.2.2.2.2
  have hplA := fun j hj => ((cW_q C hp).2.2.1 j hj).2.1.1
  refine nSp_of (by decide +kernel) rfl (Nat.le_of_ble_eq_true rfl) (ls := [some (.ref (a)), some (.int (nI (p))), none]) (by exact (And.intro rfl (And.intro rfl True.intro))) ?_
  refine x_aload_n rfl d_X7_weak_0 ?_
  refine x_iload_n rfl d_X7_weak_1 ?_
  refine x_rdV d_X7_weak_2 lk_7_85 mo_X7_panelAt vi_X7_panelAt (sp_pAt C.1.1 (cW_n C) hp) (o7_o C.1.1) ⟨_, rfl, rfl⟩ rfl ⟨Nat.le_of_ble_eq_true rfl, Nat.le_of_ble_eq_true rfl⟩ rfl rfl (Nat.zero_le _) (Nat.zero_le _) (Nat.le_of_ble_eq_true rfl) rfl ?_
  refine x_astore_n d_X7_weak_5 (Nat.le_of_ble_eq_true rfl) ?_
  refine x_aload_n rfl d_X7_weak_6 ?_
  refine x_ifnonnull (tgt := 12) d_X7_weak_7 (by decide) ?_
  refine x_aload_n rfl d_X7_weak_12 ?_
  refine x_getf co_all (v := .ref (a + 59)) d_X7_weak_13 fk_7_57 (o7_o C.1.1) rfl ?_
  refine x_aload_n rfl d_X7_weak_16 ?_
  refine x_wvV d_X7_weak_17 lk_7_245 mo_X1_leadDown vi_X1_leadDown (sp_leadDown G hpu (cW_1 C hp) (apW_sub (cW_a C hp) (by omega) (by omega)) (cW_q C hp) HL) (o1_o HL) ⟨_, rfl, rfl⟩ rfl ⟨Nat.le_of_ble_eq_true rfl, Nat.le_of_ble_eq_true rfl⟩ (Nat.zero_le _) (Nat.zero_le _) (Nat.le_of_ble_eq_true rfl) rfl (fun h3 hp0 e1 e2 => ?_)
  obtain ⟨F3, L3, H3, l1, l2, l3⟩ := hp0
  have Cf := cF_L C.1 F3 H3
  have CW := cW_o C F3 (nFr_up (by omega) (by omega)) Cf rfl (fun _ => rfl)
  refine x_aload_n rfl d_X7_weak_20 ?_
  refine x_getf co_all (v := .ref (a + 59)) d_X7_weak_21 fk_7_57 (o7_o Cf.1) rfl ?_
  refine x_aload_n rfl d_X7_weak_24 ?_
  refine x_rdV d_X7_weak_25 lk_7_263 mo_X1_firstAbove vi_X1_firstAbove (sp_faN (cW_q CW.2 hp) H3 hs (fun r k hr hk => by rw [l3 r k hr hk]; have := uLd_le (p := P p 6) G hplA hpu hr hk; omega) (fun r k h1 h2 => by rw [l3 r k h1 h2]; exact hno0 r k h1 h2)) (o1_o H3) ⟨_, rfl, rfl⟩ rfl ⟨Nat.le_of_ble_eq_true rfl, Nat.le_of_ble_eq_true rfl⟩ rfl rfl (Nat.zero_le _) (Nat.zero_le _) (Nat.le_of_ble_eq_true rfl) rfl ?_
  exact x_ireturn d_X7_weak_28 rfl rfl F3.1 F3.2.1 (Nat.zero_le _) (Nat.zero_le _) (⟨rfl, CW⟩)
