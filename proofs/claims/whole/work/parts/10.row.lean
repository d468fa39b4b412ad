/-! within, bits, and what the rows answer -/
theorem x_iincD {y : nM} {κ : nKp} {cu su pc p2 o : Nat} {ls : List (Option Value)} {st : List Value} {h : nPH} {i : Nat} {n : Int} {m x : Nat} (hd : nD y pc (.iinc i n) 3 p2 o) (hl : ls[i]? = some (some (.int (nI x)))) (hm : Int32.ofInt n = - nI m) (hle : m ≤ x) (hi : i < y.2.2.1) (k : nG y κ cu su p2 (nPut ls i (.int (nI (x - m)))) st h) : nG y κ cu su pc ls st h := x_iinc hd hl hi (by rw [hm, ← Int32.sub_eq_add_neg, nI_sub hle]; exact k)
theorem nB_cg {p q : Prop} [Decidable p] [Decidable q] (h : p ↔ q) : nB p = nB q := by
  by_cases hp : p
  · rw [nB_T hp, nB_T (h.mp hp)]
  · rw [nB_F hp, nB_F (fun z => hp (h.mpr z))]
def nBi (k : Int32) (n : Nat) : Nat := if 0 ≤ k.toInt ∧ k.toInt < n then 1 else 0
theorem nBi_T {k : Int32} {n : Nat} (h : nIn k n) : nBi k n = 1 := if_pos h
theorem nBi_F {k : Int32} {n : Nat} (h : ¬ nIn k n) : nBi k n = 0 := if_neg h
theorem nBi_le (k : Int32) (n : Nat) : nBi k n ≤ 1 := by unfold nBi; split <;> omega
theorem nBi_0 {k : Int32} {n : Nat} : nBi k n = 0 ↔ ¬ nIn k n := by unfold nBi nIn; split <;> simp [*]
theorem nBi_n {j n : Nat} (hj : j < 2 ^ 31) : nBi (nI j) n = nB (j < n) := by
  unfold nBi
  rw [nI_toInt hj]
  exact nB_cg (by omega)
theorem sp_within {h : nPH} (a b c : Int32) : nRd YX7_within [.int (a), .int (b), .int (c)] h (.int (nI (nB (b ≤ a ∧ a ≤ c)))) := by
  refine nSp_of (by decide +kernel) rfl (Nat.le_of_ble_eq_true rfl) (ls := [some (.int (a)), some (.int (b)), some (.int (c))]) (by exact (And.intro rfl (And.intro rfl (And.intro rfl True.intro)))) ?_
  refine x_iload_n rfl d_X7_within_0 ?_
  refine x_iload_n rfl d_X7_within_1 ?_
  refine x_icmp_lt (tgt := 14) d_X7_within_2 (by decide) (fun c_1 => ?_) (fun c_1 => ?_)
  · refine x_iconst (v := nI 0) (by decide) d_X7_within_14 ?_
    exact x_ireturn d_X7_within_15 rfl (by first | rfl | exact nB_nar _ | exact nB_nar1 (by omega)) rfl rfl (Nat.zero_le _) (Nat.zero_le _) (⟨by rw [nB_F (fun z => by first | exact absurd c_1 (Int32.not_lt.mpr z.1) | exact absurd c_2 (Int32.not_lt.mpr z.2))], rfl⟩)
  · refine x_iload_n rfl d_X7_within_5 ?_
    refine x_iload_n rfl d_X7_within_6 ?_
    refine x_icmp_gt (tgt := 14) d_X7_within_7 (by decide) (fun c_2 => ?_) (fun c_2 => ?_)
    · refine x_iconst (v := nI 0) (by decide) d_X7_within_14 ?_
      exact x_ireturn d_X7_within_15 rfl (by first | rfl | exact nB_nar _ | exact nB_nar1 (by omega)) rfl rfl (Nat.zero_le _) (Nat.zero_le _) (⟨by rw [nB_F (fun z => by first | exact absurd c_1 (Int32.not_lt.mpr z.1) | exact absurd c_2 (Int32.not_lt.mpr z.2))], rfl⟩)
    · refine x_iconst (v := nI 1) (by decide) d_X7_within_10 ?_
      refine x_goto (tgt := 15) d_X7_within_11 (by decide) ?_
      exact x_ireturn d_X7_within_15 rfl (by first | rfl | exact nB_nar _ | exact nB_nar1 (by omega)) rfl rfl (Nat.zero_le _) (Nat.zero_le _) (⟨by rw [nB_T ⟨Int32.not_lt.mp c_1, Int32.not_lt.mp c_2⟩], rfl⟩)
theorem wi_iff {k : Int32} {n : Nat} (hn : n < 2 ^ 31) : (nI 0 ≤ k ∧ k ≤ nI n - nI 1) ↔ nIn k n := by
  have e : (nI n - nI 1).toInt = (n : Int) - 1 := by
    match n with
    | 0 => decide
    | m + 1 => rw [show nI (m + 1) - nI 1 = nI m from nI_pred m, nI_toInt (by omega)]; omega
  rw [Int32.le_iff_toInt_le, Int32.le_iff_toInt_le, e, nI_toInt (by decide)]
  unfold nIn
  omega
theorem sp_wi {h : nPH} (k : Int32) {n : Nat} (hn : n < 2 ^ 31) : nRd YX7_within [.int k, .int (nI 0), .int (nI n - nI 1)] h (.int (nI (nBi k n))) := by
  have := sp_within (h := h) k (nI 0) (nI n - nI 1)
  have e : nB (nI 0 ≤ k ∧ k ≤ nI n - nI 1) = nBi k n := by
    by_cases hp : nI 0 ≤ k ∧ k ≤ nI n - nI 1
    · rw [nB_T hp, nBi_T ((wi_iff hn).mp hp)]
    · rw [nB_F hp, nBi_F (fun z => hp ((wi_iff hn).mpr z))]
  rw [e] at this
  exact this
theorem sp_wn {h : nPH} {a b c : Nat} (ha : a < 2 ^ 31) (hb : b < 2 ^ 31) (hc : c < 2 ^ 31) : nRd YX7_within [.int (nI a), .int (nI b), .int (nI c)] h (.int (nI (nB (b ≤ a ∧ a ≤ c)))) := by
  have := sp_within (h := h) (nI a) (nI b) (nI c)
  rw [nB_cg (show (nI b ≤ nI a ∧ nI a ≤ nI c) ↔ (b ≤ a ∧ a ≤ c) by rw [nI_leI hb ha, nI_leI ha hc])] at this
  exact this
theorem sp_has {h : nPH} {a : Nat} {D : Nat → Nat → Nat} (H : o3 h a D) (hp : D 0 0 ≤ 24) (k : Int32) : nRd YX3_has [.ref (a), .int (k)] h (.int (nI (nBi k (D 0 0)))) := by
  refine nSp_of (by decide +kernel) rfl (Nat.le_of_ble_eq_true rfl) (ls := [some (.ref (a)), some (.int (k))]) (by exact (And.intro rfl (And.intro rfl True.intro))) ?_
  refine x_iload_n rfl d_X3_has_0 ?_
  refine x_iconst (v := nI 0) (by decide) d_X3_has_1 ?_
  refine x_aload_n rfl d_X3_has_2 ?_
  refine x_getf co_all (v := .int (nI (D 0 0))) d_X3_has_3 fk_3_34 (o3_o H) rfl ?_
  refine x_iconst (v := nI 1) (by decide) d_X3_has_6 ?_
  refine x_isub d_X3_has_7 ?_
  refine x_rdSN d_X3_has_8 lk_3_30 mo_X7_within sc_X7_within (sp_wi (k) (n := D 0 0) (by omega)) rfl ⟨Nat.le_of_ble_eq_true rfl, Nat.le_of_ble_eq_true rfl⟩ rfl rfl (Nat.zero_le _) (Nat.zero_le _) (Nat.le_of_ble_eq_true rfl) rfl ?_
  exact x_ireturn d_X3_has_11 rfl (by first | rfl | exact nB_nar _ | exact nB_nar1 (by omega)) rfl rfl (Nat.zero_le _) (Nat.zero_le _) (⟨rfl, rfl⟩)
def nb (b : Bool) : Nat := if b then 1 else 0
theorem nb_T {b : Bool} (h : b = true) : nb b = 1 := by rw [h]; rfl
theorem nb_F {b : Bool} (h : b = false) : nb b = 0 := by rw [h]; rfl
theorem nb_le (b : Bool) : nb b ≤ 1 := by cases b <;> decide
theorem nb_0 {b : Bool} : nb b = 0 ↔ b = false := by cases b <;> decide
theorem nb_n0 {b : Bool} : ¬ nb b = 0 ↔ b = true := by cases b <;> decide
theorem nb_1 {b : Bool} : nb b = 1 ↔ b = true := by cases b <;> decide
theorem nb_n1 {b : Bool} : ¬ nb b = 1 ↔ b = false := by cases b <;> decide
theorem nB_b (b : Bool) : nB (b = true) = nb b := by cases b <;> rfl
def hgb (D : Nat → Nat → Nat) (k q : Nat) : Bool := decide (D 4 k ≤ q) && decide (q < D 4 k + D 5 k)
theorem hgb_T {D : Nat → Nat → Nat} {k q : Nat} : hgb D k q = true ↔ D 4 k ≤ q ∧ q < D 4 k + D 5 k := by simp [hgb]
theorem hgb_F {D : Nat → Nat → Nat} {k q : Nat} : hgb D k q = false ↔ ¬ (D 4 k ≤ q ∧ q < D 4 k + D 5 k) := by
  rw [← hgb_T]; simp
def igo (D : Nat → Nat → Nat) (k q : Nat) : Bool := hgb D k q && (D 6 k).testBit (q - D 4 k)
def iwh (D : Nat → Nat → Nat) (k q : Nat) : Bool := hgb D k q && !(D 6 k).testBit (q - D 4 k)
/-- a row in order -/
def rOK (D : Nat → Nat → Nat) : Prop := D 0 0 ≤ 24 ∧ ∀ k, k < 24 → D 1 k ≤ 3 ∧ D 2 k ≤ 2 ∧ D 3 k ≤ 1 ∧ D 4 k < 24 ∧ D 5 k ≤ 24 ∧ D 6 k < 2 ^ D 5 k
theorem rOK_6 {D : Nat → Nat → Nat} (R : rOK D) {k : Nat} (hk : k < 24) : D 6 k < 2 ^ 24 := Nat.lt_of_lt_of_le (R.2 k hk).2.2.2.2.2 (Nat.pow_le_pow_right (by decide) (R.2 k hk).2.2.2.2.1)
theorem nBi_h {D : Nat → Nat → Nat} {k q : Nat} (h1 : D 4 k < 2 ^ 30) (h2 : D 5 k < 2 ^ 30) (h3 : q < 2 ^ 30) : nBi (nI q - nI (D 4 k)) (D 5 k) = nb (hgb D k q) := by
  have e : (nI q - nI (D 4 k)).toInt = (q : Int) - (D 4 k : Int) := by
    by_cases h : D 4 k ≤ q
    · rw [nI_sub h, nI_toInt (by omega)]; omega
    · have : nI q - nI (D 4 k) = - nI (D 4 k - q) := by
        rw [← nI_sub (show q ≤ D 4 k by omega), Int32.neg_sub]
      rw [this, Int32.toInt_neg, nI_toInt (by omega)]
      rw [Int.bmod_eq_of_le] <;> omega
  have hz : nIn (nI q - nI (D 4 k)) (D 5 k) ↔ hgb D k q = true := by
    rw [hgb_T]
    unfold nIn
    rw [e]
    omega
  by_cases h : hgb D k q = true
  · rw [nBi_T (hz.mpr h), nb_T h]
  · rw [nBi_F (fun z => h (hz.mp z)), nb_F (by simpa using h)]
theorem sp_hangsBy {h : nPH} {a : Nat} {D : Nat → Nat → Nat} (H : o3 h a D) (R : rOK D) {k : Nat} (hk : k < 24) {q : Nat} (hq : q < 2 ^ 30) : nRd YX3_hangsBy [.ref (a), .int (nI (k)), .int (nI (q))] h (.int (nI (nb (hgb D k q)))) := by
  obtain ⟨r1, r2, r3, r4, r5, r6⟩ := R.2 k hk
  have r7 := rOK_6 R hk
  refine nSp_of (by decide +kernel) rfl (Nat.le_of_ble_eq_true rfl) (ls := [some (.ref (a)), some (.int (nI (k))), some (.int (nI (q)))]) (by exact (And.intro rfl (And.intro rfl (And.intro rfl True.intro)))) ?_
  refine x_iload_n rfl d_X3_hangsBy_0 ?_
  refine x_aload_n rfl d_X3_hangsBy_1 ?_
  refine x_getf co_all (v := .ref (a + 4)) d_X3_hangsBy_2 fk_3_21 (o3_o H) rfl ?_
  refine x_iload_n rfl d_X3_hangsBy_5 ?_
  refine x_iaload d_X3_hangsBy_6 (o3_4 H) (nIx_nI (j := k) (by omega) (by decide)) ?_
  refine x_isub d_X3_hangsBy_7 ?_
  refine x_iconst (v := nI 0) (by decide) d_X3_hangsBy_8 ?_
  refine x_aload_n rfl d_X3_hangsBy_9 ?_
  refine x_getf co_all (v := .ref (a + 5)) d_X3_hangsBy_10 fk_3_24 (o3_o H) rfl ?_
  refine x_iload_n rfl d_X3_hangsBy_13 ?_
  refine x_iaload d_X3_hangsBy_14 (o3_5 H) (nIx_nI (j := k) (by omega) (by decide)) ?_
  refine x_iconst (v := nI 1) (by decide) d_X3_hangsBy_15 ?_
  refine x_isub d_X3_hangsBy_16 ?_
  refine x_rdSN d_X3_hangsBy_17 lk_3_30 mo_X7_within sc_X7_within (sp_wi (nI (q) - nI (D 4 k)) (n := D 5 k) (by omega)) rfl ⟨Nat.le_of_ble_eq_true rfl, Nat.le_of_ble_eq_true rfl⟩ rfl rfl (Nat.zero_le _) (Nat.zero_le _) (Nat.le_of_ble_eq_true rfl) rfl ?_
  rw [nBi_h (by omega) (by omega) (by omega)]
  have hle := nb_le (hgb D k q)
  exact x_ireturn d_X3_hangsBy_20 rfl (by first | rfl | exact nB_nar _ | exact nB_nar1 (by omega)) rfl rfl (Nat.zero_le _) (Nat.zero_le _) (⟨rfl, rfl⟩)
theorem sp_sideIsGone {h : nPH} {a : Nat} {D : Nat → Nat → Nat} (H : o3 h a D) (R : rOK D) {k : Nat} (hk : k < 24) {s : Nat} (hs : s < 31) : nRd YX3_sideIsGone [.ref (a), .int (nI (k)), .int (nI (s))] h (.int (nI (nb ((D 6 k).testBit s)))) := by
  obtain ⟨r1, r2, r3, r4, r5, r6⟩ := R.2 k hk
  have r7 := rOK_6 R hk
  refine nSp_of (by decide +kernel) rfl (Nat.le_of_ble_eq_true rfl) (ls := [some (.ref (a)), some (.int (nI (k))), some (.int (nI (s)))]) (by exact (And.intro rfl (And.intro rfl (And.intro rfl True.intro)))) ?_
  refine x_aload_n rfl d_X3_sideIsGone_0 ?_
  refine x_getf co_all (v := .ref (a + 6)) d_X3_sideIsGone_1 fk_3_27 (o3_o H) rfl ?_
  refine x_iload_n rfl d_X3_sideIsGone_4 ?_
  refine x_iaload d_X3_sideIsGone_5 (o3_6 H) (nIx_nI (j := k) (by omega) (by decide)) ?_
  refine x_iload_n rfl d_X3_sideIsGone_6 ?_
  refine x_ishr d_X3_sideIsGone_7 ?_
  refine x_iconst (v := nI 1) (by decide) d_X3_sideIsGone_8 ?_
  refine x_iand d_X3_sideIsGone_9 ?_
  rw [nI_bit (by omega) (by omega), nB_b]
  have hle := nb_le ((D 6 k).testBit s)
  refine x_iconst (v := nI 1) (by decide) d_X3_sideIsGone_10 ?_
  refine x_icmp_neN (tgt := 18) d_X3_sideIsGone_11 (by decide) (by omega) (by omega) (fun c_1 => ?_) (fun c_1 => ?_)
  · refine x_iconst (v := nI 0) (by decide) d_X3_sideIsGone_18 ?_
    exact x_ireturn d_X3_sideIsGone_19 rfl (by first | rfl | exact nB_nar _ | exact nB_nar1 (by omega)) rfl rfl (Nat.zero_le _) (Nat.zero_le _) (⟨by rw [nb_F (nb_n1.mp c_1)], rfl⟩)
  · refine x_iconst (v := nI 1) (by decide) d_X3_sideIsGone_14 ?_
    refine x_goto (tgt := 19) d_X3_sideIsGone_15 (by decide) ?_
    exact x_ireturn d_X3_sideIsGone_19 rfl (by first | rfl | exact nB_nar _ | exact nB_nar1 (by omega)) rfl rfl (Nat.zero_le _) (Nat.zero_le _) (⟨by rw [nb_T (nb_1.mp c_1)], rfl⟩)
theorem sp_isGone {h : nPH} {a : Nat} {D : Nat → Nat → Nat} (H : o3 h a D) (R : rOK D) {k : Nat} (hk : k < 24) {q : Nat} (hq : q < 2 ^ 30) : nRd YX3_isGone [.ref (a), .int (nI (k)), .int (nI (q))] h (.int (nI (nb (igo D k q)))) := by
  obtain ⟨r1, r2, r3, r4, r5, r6⟩ := R.2 k hk
  have r7 := rOK_6 R hk
  have hle := nb_le (hgb D k q)
  refine nSp_of (by decide +kernel) rfl (Nat.le_of_ble_eq_true rfl) (ls := [some (.ref (a)), some (.int (nI (k))), some (.int (nI (q)))]) (by exact (And.intro rfl (And.intro rfl (And.intro rfl True.intro)))) ?_
  refine x_aload_n rfl d_X3_isGone_0 ?_
  refine x_iload_n rfl d_X3_isGone_1 ?_
  refine x_iload_n rfl d_X3_isGone_2 ?_
  refine x_rdV d_X3_isGone_3 lk_3_63 mo_X3_hangsBy vi_X3_hangsBy (sp_hangsBy H R hk (q := q) (by omega)) (o3_o H) ⟨_, rfl, rfl⟩ rfl ⟨Nat.le_of_ble_eq_true rfl, Nat.le_of_ble_eq_true rfl⟩ rfl rfl (Nat.zero_le _) (Nat.zero_le _) (Nat.le_of_ble_eq_true rfl) rfl ?_
  refine x_if_eqN (tgt := 29) d_X3_isGone_6 (by decide) (by omega) (fun c_1 => ?_) (fun c_1 => ?_)
  · refine x_iconst (v := nI 0) (by decide) d_X3_isGone_29 ?_
    exact x_ireturn d_X3_isGone_30 rfl (by first | rfl | exact nB_nar _ | exact nB_nar1 (by omega)) rfl rfl (Nat.zero_le _) (Nat.zero_le _) (⟨by rw [nb_F (by unfold igo; first | (rw [nb_0.mp c_1]; rfl) | (rw [nb_0.mp c_2, Bool.and_false]))], rfl⟩)
  · refine x_aload_n rfl d_X3_isGone_9 ?_
    refine x_iload_n rfl d_X3_isGone_10 ?_
    refine x_iload_n rfl d_X3_isGone_11 ?_
    refine x_aload_n rfl d_X3_isGone_12 ?_
    refine x_getf co_all (v := .ref (a + 4)) d_X3_isGone_13 fk_3_21 (o3_o H) rfl ?_
    refine x_iload_n rfl d_X3_isGone_16 ?_
    refine x_iaload d_X3_isGone_17 (o3_4 H) (nIx_nI (j := k) (by omega) (by decide)) ?_
    have hg := hgb_T.mp (nb_n0.mp c_1)
    refine x_isubN d_X3_isGone_18 (by omega) ?_
    refine x_rdV d_X3_isGone_19 lk_3_55 mo_X3_sideIsGone vi_X3_sideIsGone (sp_sideIsGone H R hk (s := q - (D 4 k)) (by omega)) (o3_o H) ⟨_, rfl, rfl⟩ rfl ⟨Nat.le_of_ble_eq_true rfl, Nat.le_of_ble_eq_true rfl⟩ rfl rfl (Nat.zero_le _) (Nat.zero_le _) (Nat.le_of_ble_eq_true rfl) rfl ?_
    have hle2 := nb_le ((D 6 k).testBit (q - D 4 k))
    refine x_if_eqN (tgt := 29) d_X3_isGone_22 (by decide) (by omega) (fun c_2 => ?_) (fun c_2 => ?_)
    · refine x_iconst (v := nI 0) (by decide) d_X3_isGone_29 ?_
      exact x_ireturn d_X3_isGone_30 rfl (by first | rfl | exact nB_nar _ | exact nB_nar1 (by omega)) rfl rfl (Nat.zero_le _) (Nat.zero_le _) (⟨by rw [nb_F (by unfold igo; first | (rw [nb_0.mp c_1]; rfl) | (rw [nb_0.mp c_2, Bool.and_false]))], rfl⟩)
    · refine x_iconst (v := nI 1) (by decide) d_X3_isGone_25 ?_
      refine x_goto (tgt := 30) d_X3_isGone_26 (by decide) ?_
      exact x_ireturn d_X3_isGone_30 rfl (by first | rfl | exact nB_nar _ | exact nB_nar1 (by omega)) rfl rfl (Nat.zero_le _) (Nat.zero_le _) (⟨by rw [nb_T (by unfold igo; rw [nb_n0.mp c_1, nb_n0.mp c_2]; rfl)], rfl⟩)
theorem sp_isWhole {h : nPH} {a : Nat} {D : Nat → Nat → Nat} (H : o3 h a D) (R : rOK D) {k : Nat} (hk : k < 24) {q : Nat} (hq : q < 2 ^ 30) : nRd YX3_isWhole [.ref (a), .int (nI (k)), .int (nI (q))] h (.int (nI (nb (iwh D k q)))) := by
  obtain ⟨r1, r2, r3, r4, r5, r6⟩ := R.2 k hk
  have r7 := rOK_6 R hk
  have hle := nb_le (hgb D k q)
  refine nSp_of (by decide +kernel) rfl (Nat.le_of_ble_eq_true rfl) (ls := [some (.ref (a)), some (.int (nI (k))), some (.int (nI (q)))]) (by exact (And.intro rfl (And.intro rfl (And.intro rfl True.intro)))) ?_
  refine x_aload_n rfl d_X3_isWhole_0 ?_
  refine x_iload_n rfl d_X3_isWhole_1 ?_
  refine x_iload_n rfl d_X3_isWhole_2 ?_
  refine x_rdV d_X3_isWhole_3 lk_3_63 mo_X3_hangsBy vi_X3_hangsBy (sp_hangsBy H R hk (q := q) (by omega)) (o3_o H) ⟨_, rfl, rfl⟩ rfl ⟨Nat.le_of_ble_eq_true rfl, Nat.le_of_ble_eq_true rfl⟩ rfl rfl (Nat.zero_le _) (Nat.zero_le _) (Nat.le_of_ble_eq_true rfl) rfl ?_
  refine x_if_eqN (tgt := 22) d_X3_isWhole_6 (by decide) (by omega) (fun c_1 => ?_) (fun c_1 => ?_)
  · refine x_iconst (v := nI 0) (by decide) d_X3_isWhole_22 ?_
    exact x_ireturn d_X3_isWhole_23 rfl (by first | rfl | exact nB_nar _ | exact nB_nar1 (by omega)) rfl rfl (Nat.zero_le _) (Nat.zero_le _) (⟨by rw [nb_F (by first | (have z1 := nb_0.mp c_1; unfold iwh; rw [z1]; rfl) | (have z1 := nb_n0.mp c_1; have z2 := nb_n0.mp c_2; unfold igo at z2; unfold iwh; rw [z1] at z2 ⊢; simpa using z2))], rfl⟩)
  · refine x_aload_n rfl d_X3_isWhole_9 ?_
    refine x_iload_n rfl d_X3_isWhole_10 ?_
    refine x_iload_n rfl d_X3_isWhole_11 ?_
    refine x_rdV d_X3_isWhole_12 lk_3_66 mo_X3_isGone vi_X3_isGone (sp_isGone H R hk (q := q) (by omega)) (o3_o H) ⟨_, rfl, rfl⟩ rfl ⟨Nat.le_of_ble_eq_true rfl, Nat.le_of_ble_eq_true rfl⟩ rfl rfl (Nat.zero_le _) (Nat.zero_le _) (Nat.le_of_ble_eq_true rfl) rfl ?_
    have hle2 := nb_le (igo D k q)
    refine x_if_neN (tgt := 22) d_X3_isWhole_15 (by decide) (by omega) (fun c_2 => ?_) (fun c_2 => ?_)
    · refine x_iconst (v := nI 0) (by decide) d_X3_isWhole_22 ?_
      exact x_ireturn d_X3_isWhole_23 rfl (by first | rfl | exact nB_nar _ | exact nB_nar1 (by omega)) rfl rfl (Nat.zero_le _) (Nat.zero_le _) (⟨by rw [nb_F (by first | (have z1 := nb_0.mp c_1; unfold iwh; rw [z1]; rfl) | (have z1 := nb_n0.mp c_1; have z2 := nb_n0.mp c_2; unfold igo at z2; unfold iwh; rw [z1] at z2 ⊢; simpa using z2))], rfl⟩)
    · refine x_iconst (v := nI 1) (by decide) d_X3_isWhole_18 ?_
      refine x_goto (tgt := 23) d_X3_isWhole_19 (by decide) ?_
      exact x_ireturn d_X3_isWhole_23 rfl (by first | rfl | exact nB_nar _ | exact nB_nar1 (by omega)) rfl rfl (Nat.zero_le _) (Nat.zero_le _) (⟨by rw [nb_T (by have z1 := nb_n0.mp c_1; have z2 := nb_0.mp c_2; unfold igo at z2; unfold iwh; rw [z1] at z2 ⊢; simpa using z2)], rfl⟩)
theorem sp_placeIn {h : nPH} {a : Nat} {D : Nat → Nat → Nat} (H : o3 h a D) (R : rOK D) {k : Nat} (hk : k < 24) {j : Nat} (hj : j < D 5 k) : nRd YX3_placeOfSide [.ref (a), .int (nI (k)), .int (nI (j))] h (.int (nI (D 4 k + j))) := by
  obtain ⟨r1, r2, r3, r4, r5, r6⟩ := R.2 k hk
  have r7 := rOK_6 R hk
  refine nSp_of (by decide +kernel) rfl (Nat.le_of_ble_eq_true rfl) (ls := [some (.ref (a)), some (.int (nI (k))), some (.int (nI (j)))]) (by exact (And.intro rfl (And.intro rfl (And.intro rfl True.intro)))) ?_
  refine x_iload_n rfl d_X3_placeOfSide_0 ?_
  refine x_iconst (v := nI 0) (by decide) d_X3_placeOfSide_1 ?_
  refine x_aload_n rfl d_X3_placeOfSide_2 ?_
  refine x_getf co_all (v := .ref (a + 5)) d_X3_placeOfSide_3 fk_3_24 (o3_o H) rfl ?_
  refine x_iload_n rfl d_X3_placeOfSide_6 ?_
  refine x_iaload d_X3_placeOfSide_7 (o3_5 H) (nIx_nI (j := k) (by omega) (by decide)) ?_
  refine x_iconst (v := nI 1) (by decide) d_X3_placeOfSide_8 ?_
  refine x_isub d_X3_placeOfSide_9 ?_
  refine x_rdSN d_X3_placeOfSide_10 lk_3_30 mo_X7_within sc_X7_within (sp_wi (nI (j)) (n := D 5 k) (by omega)) rfl ⟨Nat.le_of_ble_eq_true rfl, Nat.le_of_ble_eq_true rfl⟩ rfl rfl (Nat.zero_le _) (Nat.zero_le _) (Nat.le_of_ble_eq_true rfl) rfl ?_
  have hle := nBi_le (nI (j)) (D 5 k)
  refine x_if_eqN (tgt := 27) d_X3_placeOfSide_13 (by decide) (by omega) (fun c_1 => by exfalso; rw [nBi_n (by omega)] at c_1; exact absurd hj (nB_0.mp c_1)) (fun c_1 => ?_)
  refine x_aload_n rfl d_X3_placeOfSide_16 ?_
  refine x_getf co_all (v := .ref (a + 4)) d_X3_placeOfSide_17 fk_3_21 (o3_o H) rfl ?_
  refine x_iload_n rfl d_X3_placeOfSide_20 ?_
  refine x_iaload d_X3_placeOfSide_21 (o3_4 H) (nIx_nI (j := k) (by omega) (by decide)) ?_
  refine x_iload_n rfl d_X3_placeOfSide_22 ?_
  refine x_iaddN d_X3_placeOfSide_23 ?_
  refine x_goto (tgt := 28) d_X3_placeOfSide_24 (by decide) ?_
  exact x_ireturn d_X3_placeOfSide_28 rfl rfl rfl rfl (Nat.zero_le _) (Nat.zero_le _) (⟨rfl, rfl⟩)
theorem sp_placeOut {h : nPH} {a : Nat} {D : Nat → Nat → Nat} (H : o3 h a D) (R : rOK D) {k : Nat} (hk : k < 24) {s : Int32} (hs : ¬ nIn s (D 5 k)) : nRd YX3_placeOfSide [.ref (a), .int (nI (k)), .int (s)] h (.int (-1)) := by
  obtain ⟨r1, r2, r3, r4, r5, r6⟩ := R.2 k hk
  have r7 := rOK_6 R hk
  refine nSp_of (by decide +kernel) rfl (Nat.le_of_ble_eq_true rfl) (ls := [some (.ref (a)), some (.int (nI (k))), some (.int (s))]) (by exact (And.intro rfl (And.intro rfl (And.intro rfl True.intro)))) ?_
  refine x_iload_n rfl d_X3_placeOfSide_0 ?_
  refine x_iconst (v := nI 0) (by decide) d_X3_placeOfSide_1 ?_
  refine x_aload_n rfl d_X3_placeOfSide_2 ?_
  refine x_getf co_all (v := .ref (a + 5)) d_X3_placeOfSide_3 fk_3_24 (o3_o H) rfl ?_
  refine x_iload_n rfl d_X3_placeOfSide_6 ?_
  refine x_iaload d_X3_placeOfSide_7 (o3_5 H) (nIx_nI (j := k) (by omega) (by decide)) ?_
  refine x_iconst (v := nI 1) (by decide) d_X3_placeOfSide_8 ?_
  refine x_isub d_X3_placeOfSide_9 ?_
  refine x_rdSN d_X3_placeOfSide_10 lk_3_30 mo_X7_within sc_X7_within (sp_wi (s) (n := D 5 k) (by omega)) rfl ⟨Nat.le_of_ble_eq_true rfl, Nat.le_of_ble_eq_true rfl⟩ rfl rfl (Nat.zero_le _) (Nat.zero_le _) (Nat.le_of_ble_eq_true rfl) rfl ?_
  have hle := nBi_le (s) (D 5 k)
  refine x_if_eqN (tgt := 27) d_X3_placeOfSide_13 (by decide) (by omega) (fun c_1 => ?_) (fun c_1 => by exfalso; exact c_1 (nBi_F hs))
  refine x_iconst (v := -1) (by decide) d_X3_placeOfSide_27 ?_
  exact x_ireturn d_X3_placeOfSide_28 rfl rfl rfl rfl (Nat.zero_le _) (Nat.zero_le _) (⟨rfl, rfl⟩)
theorem sp_powIn {h : nPH} {a : Nat} {D : Nat → Nat → Nat} (H : o3 h a D) (R : rOK D) {k : Nat} (hk : k < 24) {j : Nat} (hj : j < D 5 k) (hb : (D 6 k).testBit j = false) : nRd YX3_placeOfWholeSide [.ref (a), .int (nI (k)), .int (nI (j))] h (.int (nI (D 4 k + j))) := by
  obtain ⟨r1, r2, r3, r4, r5, r6⟩ := R.2 k hk
  have r7 := rOK_6 R hk
  refine nSp_of (by decide +kernel) rfl (Nat.le_of_ble_eq_true rfl) (ls := [some (.ref (a)), some (.int (nI (k))), some (.int (nI (j)))]) (by exact (And.intro rfl (And.intro rfl (And.intro rfl True.intro)))) ?_
  refine x_aload_n rfl d_X3_placeOfWholeSide_0 ?_
  refine x_iload_n rfl d_X3_placeOfWholeSide_1 ?_
  refine x_iload_n rfl d_X3_placeOfWholeSide_2 ?_
  refine x_rdV d_X3_placeOfWholeSide_3 lk_3_55 mo_X3_sideIsGone vi_X3_sideIsGone (sp_sideIsGone H R hk (s := j) (by omega)) (o3_o H) ⟨_, rfl, rfl⟩ rfl ⟨Nat.le_of_ble_eq_true rfl, Nat.le_of_ble_eq_true rfl⟩ rfl rfl (Nat.zero_le _) (Nat.zero_le _) (Nat.le_of_ble_eq_true rfl) rfl ?_
  have hle := nb_le ((D 6 k).testBit j)
  refine x_if_eqN (tgt := 13) d_X3_placeOfWholeSide_6 (by decide) (by omega) (fun c_1 => ?_) (fun c_1 => by exfalso; exact c_1 (nb_0.mpr hb))
  refine x_aload_n rfl d_X3_placeOfWholeSide_13 ?_
  refine x_iload_n rfl d_X3_placeOfWholeSide_14 ?_
  refine x_iload_n rfl d_X3_placeOfWholeSide_15 ?_
  refine x_rdV d_X3_placeOfWholeSide_16 lk_3_59 mo_X3_placeOfSide vi_X3_placeOfSide (sp_placeIn H R hk hj) (o3_o H) ⟨_, rfl, rfl⟩ rfl ⟨Nat.le_of_ble_eq_true rfl, Nat.le_of_ble_eq_true rfl⟩ rfl rfl (Nat.zero_le _) (Nat.zero_le _) (Nat.le_of_ble_eq_true rfl) rfl ?_
  exact x_ireturn d_X3_placeOfWholeSide_19 rfl rfl rfl rfl (Nat.zero_le _) (Nat.zero_le _) (⟨rfl, rfl⟩)
theorem sp_powOut {h : nPH} {a : Nat} {D : Nat → Nat → Nat} (H : o3 h a D) (R : rOK D) {k : Nat} (hk : k < 24) {j : Nat} (hj : j < D 5 k) (hb : (D 6 k).testBit j = true) : nRd YX3_placeOfWholeSide [.ref (a), .int (nI (k)), .int (nI (j))] h (.int (-1)) := by
  obtain ⟨r1, r2, r3, r4, r5, r6⟩ := R.2 k hk
  have r7 := rOK_6 R hk
  refine nSp_of (by decide +kernel) rfl (Nat.le_of_ble_eq_true rfl) (ls := [some (.ref (a)), some (.int (nI (k))), some (.int (nI (j)))]) (by exact (And.intro rfl (And.intro rfl (And.intro rfl True.intro)))) ?_
  refine x_aload_n rfl d_X3_placeOfWholeSide_0 ?_
  refine x_iload_n rfl d_X3_placeOfWholeSide_1 ?_
  refine x_iload_n rfl d_X3_placeOfWholeSide_2 ?_
  refine x_rdV d_X3_placeOfWholeSide_3 lk_3_55 mo_X3_sideIsGone vi_X3_sideIsGone (sp_sideIsGone H R hk (s := j) (by omega)) (o3_o H) ⟨_, rfl, rfl⟩ rfl ⟨Nat.le_of_ble_eq_true rfl, Nat.le_of_ble_eq_true rfl⟩ rfl rfl (Nat.zero_le _) (Nat.zero_le _) (Nat.le_of_ble_eq_true rfl) rfl ?_
  have hle := nb_le ((D 6 k).testBit j)
  refine x_if_eqN (tgt := 13) d_X3_placeOfWholeSide_6 (by decide) (by omega) (fun c_1 => by exfalso; rw [nb_T hb] at c_1; exact absurd c_1 (by decide)) (fun c_1 => ?_)
  refine x_iconst (v := -1) (by decide) d_X3_placeOfWholeSide_9 ?_
  refine x_goto (tgt := 19) d_X3_placeOfWholeSide_10 (by decide) ?_
  exact x_ireturn d_X3_placeOfWholeSide_19 rfl rfl rfl rfl (Nat.zero_le _) (Nat.zero_le _) (⟨rfl, rfl⟩)
def sg (D : Nat → Nat → Nat) (k n : Nat) : Nat := fb_sm (fun i => D k i) n
theorem lp_given {h : nPH} {a : Nat} {D : Nat → Nat → Nat} (H : o3 h a D) (R : rOK D) {D0 : va_G} {B0 : Nat} {Post : Option Value → nPH → Prop} (kk : ∀ k, nG YX3_givenInAll (nKy YX3_givenInAll D0 B0 Post) 0 0 27 [some (.ref a), some (.int (nI (sg D 2 (D 0 0)))), some (.int (nI k))] [] h) : ∀ n k : Nat, k + n = D 0 0 → nG YX3_givenInAll (nKy YX3_givenInAll D0 B0 Post) 0 0 4 [some (.ref a), some (.int (nI (sg D 2 k))), some (.int (nI k))] [] h := by
  intro n
  have hpl := R.1
  induction n with
  | zero =>
    intro k hk
    refine x_iload_n rfl d_X3_givenInAll_4 ?_
    refine x_aload_n rfl d_X3_givenInAll_5 ?_
    refine x_getf co_all (v := .int (nI (D 0 0))) d_X3_givenInAll_6 fk_3_34 (o3_o H) rfl ?_
    refine x_icmp_geN (tgt := 27) d_X3_givenInAll_9 (by decide) (by omega) (by omega) (fun c_1 => ?_) (fun c_1 => by exfalso; omega)
    have e : k = D 0 0 := by omega
    subst e
    exact kk _
  | succ n ih =>
    intro k hk
    refine x_iload_n rfl d_X3_givenInAll_4 ?_
    refine x_aload_n rfl d_X3_givenInAll_5 ?_
    refine x_getf co_all (v := .int (nI (D 0 0))) d_X3_givenInAll_6 fk_3_34 (o3_o H) rfl ?_
    refine x_icmp_geN (tgt := 27) d_X3_givenInAll_9 (by decide) (by omega) (by omega) (fun c_1 => by exfalso; omega) (fun c_1 => ?_)
    refine x_iload_n rfl d_X3_givenInAll_12 ?_
    refine x_aload_n rfl d_X3_givenInAll_13 ?_
    refine x_getf co_all (v := .ref (a + 2)) d_X3_givenInAll_14 fk_3_15 (o3_o H) rfl ?_
    refine x_iload_n rfl d_X3_givenInAll_17 ?_
    refine x_iaload d_X3_givenInAll_18 (o3_2 H) (nIx_nI (j := k) (by omega) (by decide)) ?_
    refine x_iaddN d_X3_givenInAll_19 ?_
    refine x_istore_n d_X3_givenInAll_20 (Nat.le_of_ble_eq_true rfl) ?_
    refine x_iincN (m := 1) d_X3_givenInAll_21 rfl (by decide) (Nat.le_of_ble_eq_true rfl) ?_
    refine x_goto (tgt := 4) d_X3_givenInAll_24 (by decide) ?_
    exact nG.sub (by exact (And.intro rfl (And.intro rfl (And.intro rfl True.intro)))) (ih (k + 1) (by omega))
theorem sp_given {h : nPH} {a : Nat} {D : Nat → Nat → Nat} (H : o3 h a D) (R : rOK D) : nRd YX3_givenInAll [.ref a] h (.int (nI (sg D 2 (D 0 0)))) := by
  refine nSp_of (by decide +kernel) rfl (Nat.le_of_ble_eq_true rfl) (ls := [some (.ref (a)), none, none]) (by exact (And.intro rfl True.intro)) ?_
  refine x_iconst (v := nI 0) (by decide) d_X3_givenInAll_0 ?_
  refine x_istore_n d_X3_givenInAll_1 (Nat.le_of_ble_eq_true rfl) ?_
  refine x_iconst (v := nI 0) (by decide) d_X3_givenInAll_2 ?_
  refine x_istore_n d_X3_givenInAll_3 (Nat.le_of_ble_eq_true rfl) ?_
  refine nG.sub (by exact (And.intro rfl (And.intro rfl (And.intro rfl True.intro)))) (lp_given H R (fun k => ?_) (D 0 0) 0 (by omega))
  refine x_iload_n rfl d_X3_givenInAll_27 ?_
  exact x_ireturn d_X3_givenInAll_28 rfl rfl rfl rfl (Nat.zero_le _) (Nat.zero_le _) (⟨rfl, rfl⟩)
/-- the first giver from i on, n where there is none -/
def gvb (D : Nat → Nat → Nat) (n : Nat) : Nat → Nat → Nat
  | 0, i => i
  | f + 1, i => if n ≤ i then n else if 0 < D 2 i then i else gvb D n f (i + 1)
def gvB (D : Nat → Nat → Nat) (k : Nat) : Nat := gvb D (D 0 0) (D 0 0 - k) (k + 1)
theorem lp_giver {h : nPH} {a : Nat} {D : Nat → Nat → Nat} (H : o3 h a D) (R : rOK D) {k0 : Int32} : ∀ n i : Nat, D 0 0 ≤ i + n → i ≤ D 0 0 → nG YX3_giverBehind (nKy YX3_giverBehind h.1 h.2.1 (fun v h2 => v = some (.int (nI (gvb D (D 0 0) n i))) ∧ h2 = h)) 0 0 4 [some (.ref a), none, some (.int (nI i))] [] h := by
  intro n
  have hpl := R.1
  induction n with
  | zero =>
    intro i hi hi2
    refine x_iload_n rfl d_X3_giverBehind_4 ?_
    refine x_aload_n rfl d_X3_giverBehind_5 ?_
    refine x_getf co_all (v := .int (nI (D 0 0))) d_X3_giverBehind_6 fk_3_34 (o3_o H) rfl ?_
    refine x_icmp_geN (tgt := 29) d_X3_giverBehind_9 (by decide) (by omega) (by omega) (fun c_1 => ?_) (fun c_1 => by exfalso; omega)
    refine x_aload_n rfl d_X3_giverBehind_29 ?_
    refine x_getf co_all (v := .int (nI (D 0 0))) d_X3_giverBehind_30 fk_3_34 (o3_o H) rfl ?_
    exact x_ireturn d_X3_giverBehind_33 rfl rfl rfl rfl (Nat.zero_le _) (Nat.zero_le _) (⟨by rw [show gvb D (D 0 0) 0 i = i from rfl, show i = D 0 0 by omega], rfl⟩)
  | succ n ih =>
    intro i hi hi2
    refine x_iload_n rfl d_X3_giverBehind_4 ?_
    refine x_aload_n rfl d_X3_giverBehind_5 ?_
    refine x_getf co_all (v := .int (nI (D 0 0))) d_X3_giverBehind_6 fk_3_34 (o3_o H) rfl ?_
    refine x_icmp_geN (tgt := 29) d_X3_giverBehind_9 (by decide) (by first | omega | exact Nat.lt_of_le_of_lt (R.2 i (by omega)).2.1 (by decide)) (by first | omega | exact Nat.lt_of_le_of_lt (R.2 i (by omega)).2.1 (by decide)) (fun c_1 => ?_) (fun c_1 => ?_)
    · refine x_aload_n rfl d_X3_giverBehind_29 ?_
      refine x_getf co_all (v := .int (nI (D 0 0))) d_X3_giverBehind_30 fk_3_34 (o3_o H) rfl ?_
      exact x_ireturn d_X3_giverBehind_33 rfl rfl rfl rfl (Nat.zero_le _) (Nat.zero_le _) (⟨by rw [show gvb D (D 0 0) (n + 1) i = D 0 0 by unfold gvb; rw [if_pos (by omega)]], rfl⟩)
    · refine x_aload_n rfl d_X3_giverBehind_12 ?_
      refine x_getf co_all (v := .ref (a + 2)) d_X3_giverBehind_13 fk_3_15 (o3_o H) rfl ?_
      refine x_iload_n rfl d_X3_giverBehind_16 ?_
      refine x_iaload d_X3_giverBehind_17 (o3_2 H) (nIx_nI (j := i) (by omega) (by decide)) ?_
      refine x_if_leN (tgt := 23) d_X3_giverBehind_18 (by decide) (by first | omega | exact Nat.lt_of_le_of_lt (R.2 i (by omega)).2.1 (by decide)) (fun c_2 => ?_) (fun c_2 => ?_)
      · refine x_iincN (m := 1) d_X3_giverBehind_23 rfl (by decide) (Nat.le_of_ble_eq_true rfl) ?_
        refine x_goto (tgt := 4) d_X3_giverBehind_26 (by decide) ?_
        have e : gvb D (D 0 0) (n + 1) i = gvb D (D 0 0) n (i + 1) := by unfold gvb; rw [if_neg (by omega), if_neg (by omega)]; cases n <;> rfl
        rw [e]
        exact nG.sub (by exact (And.intro rfl (And.intro rfl True.intro))) (ih (i + 1) (by omega) (by omega))
      · refine x_iload_n rfl d_X3_giverBehind_21 ?_
        exact x_ireturn d_X3_giverBehind_22 rfl rfl rfl rfl (Nat.zero_le _) (Nat.zero_le _) (⟨by rw [show gvb D (D 0 0) (n + 1) i = i by unfold gvb; rw [if_neg (by omega), if_pos (by omega)]], rfl⟩)
theorem sp_giver {h : nPH} {a : Nat} {D : Nat → Nat → Nat} (H : o3 h a D) (R : rOK D) {k : Nat} (hk : k < D 0 0) : nRd YX3_giverBehind [.ref a, .int (nI k)] h (.int (nI (gvB D k))) := by
  refine nSp_of (by decide +kernel) rfl (Nat.le_of_ble_eq_true rfl) (ls := [some (.ref (a)), some (.int (nI (k))), none]) (by exact (And.intro rfl (And.intro rfl True.intro))) ?_
  refine x_iload_n rfl d_X3_giverBehind_0 ?_
  refine x_iconst (v := nI 1) (by decide) d_X3_giverBehind_1 ?_
  refine x_iaddN d_X3_giverBehind_2 ?_
  refine x_istore_n d_X3_giverBehind_3 (Nat.le_of_ble_eq_true rfl) ?_
  exact nG.sub (by exact (And.intro rfl (And.intro rfl True.intro))) (lp_giver H R (k0 := 0) (D 0 0 - k) (k + 1) (by omega) (by omega))
