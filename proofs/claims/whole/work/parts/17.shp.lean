/-! longs over naturals; shaped places -/
theorem lN_I {n : Nat} (h : n < 2 ^ 63) : (lN n).toInt = (n : Int) := lg_ofNat_toInt h
theorem lN_ltI {a b : Nat} (ha : a < 2 ^ 63) (hb : b < 2 ^ 63) : lN a < lN b ↔ a < b := by rw [Int64.lt_iff_toInt_lt, lN_I ha, lN_I hb]; omega
theorem lN_leI {a b : Nat} (ha : a < 2 ^ 63) (hb : b < 2 ^ 63) : lN a ≤ lN b ↔ a ≤ b := by rw [Int64.le_iff_toInt_le, lN_I ha, lN_I hb]; omega
theorem lN_eqI {a b : Nat} (ha : a < 2 ^ 63) (hb : b < 2 ^ 63) : lN a = lN b ↔ a = b := by rw [← Int64.toInt_inj, lN_I ha, lN_I hb]; omega
section NL
variable {y : nM} {κ : nKp} {cu su pc p2 o : Nat} {ls : List (Option Value)} {st : List Value} {h : nPH}
theorem x_ldivN {a b : Nat} (hd : nD y pc .ldiv 1 p2 o) (h0 : 0 < b) (ha : a < 2 ^ 63) (hb : b < 2 ^ 63) (k : nG y κ cu su p2 ls (.long (lN (a / b)) :: st) h) : nG y κ cu su pc ls (.long (lN b) :: .long (lN a) :: st) h := x_ldiv (fun e => by have := (lN_eqI (a := b) (b := 0) hb (by decide)).mp e; omega) hd (by rw [pk_lDiv ha h0 hb]; exact k)
theorem x_lremN {a b : Nat} (hd : nD y pc .lrem 1 p2 o) (h0 : 0 < b) (ha : a < 2 ^ 63) (hb : b < 2 ^ 63) (k : nG y κ cu su p2 ls (.long (lN (a % b)) :: st) h) : nG y κ cu su pc ls (.long (lN b) :: .long (lN a) :: st) h := x_lrem (fun e => by have := (lN_eqI (a := b) (b := 0) hb (by decide)).mp e; omega) hd (by rw [pk_lRem ha h0 hb]; exact k)
theorem x_lif_eqN {a b : Nat} {off : Int} {tgt : Nat} (hd : nD y pc (.ifCond .eq off) 3 p2 o) (ht : (pc : Int) + off = (tgt : Int)) (ha : a < 2 ^ 63) (hb : b < 2 ^ 63) (k1 : a = b → nG y κ cu su tgt ls st h) (k2 : ¬ a = b → nG y κ cu su p2 ls st h) : nG y κ cu su pc ls (.int (lg_cmp (lN a) (lN b)) :: st) h :=
  x_if_eq hd ht (fun q => k1 (((lg_cmp_eq _ _).trans (lN_eqI ha hb)).mp q)) (fun q => k2 (fun e => q (((lg_cmp_eq _ _).trans (lN_eqI ha hb)).mpr e)))
theorem x_lif_neN {a b : Nat} {off : Int} {tgt : Nat} (hd : nD y pc (.ifCond .ne off) 3 p2 o) (ht : (pc : Int) + off = (tgt : Int)) (ha : a < 2 ^ 63) (hb : b < 2 ^ 63) (k1 : ¬ a = b → nG y κ cu su tgt ls st h) (k2 : a = b → nG y κ cu su p2 ls st h) : nG y κ cu su pc ls (.int (lg_cmp (lN a) (lN b)) :: st) h :=
  x_if_ne hd ht (fun q => k1 (fun e => q (((lg_cmp_eq _ _).trans (lN_eqI ha hb)).mpr e))) (fun q => k2 (((lg_cmp_eq _ _).trans (lN_eqI ha hb)).mp q))
theorem x_lif_ltN {a b : Nat} {off : Int} {tgt : Nat} (hd : nD y pc (.ifCond .lt off) 3 p2 o) (ht : (pc : Int) + off = (tgt : Int)) (ha : a < 2 ^ 63) (hb : b < 2 ^ 63) (k1 : a < b → nG y κ cu su tgt ls st h) (k2 : ¬ a < b → nG y κ cu su p2 ls st h) : nG y κ cu su pc ls (.int (lg_cmp (lN a) (lN b)) :: st) h :=
  x_if_lt hd ht (fun q => k1 (((lg_cmp_lt _ _).trans (lN_ltI ha hb)).mp q)) (fun q => k2 (fun e => q (((lg_cmp_lt _ _).trans (lN_ltI ha hb)).mpr e)))
theorem x_lif_geN {a b : Nat} {off : Int} {tgt : Nat} (hd : nD y pc (.ifCond .ge off) 3 p2 o) (ht : (pc : Int) + off = (tgt : Int)) (ha : a < 2 ^ 63) (hb : b < 2 ^ 63) (k1 : b ≤ a → nG y κ cu su tgt ls st h) (k2 : ¬ b ≤ a → nG y κ cu su p2 ls st h) : nG y κ cu su pc ls (.int (lg_cmp (lN a) (lN b)) :: st) h :=
  x_if_ge hd ht (fun q => k1 (((lg_cmp_ge _ _).trans (lN_leI hb ha)).mp q)) (fun q => k2 (fun e => q (((lg_cmp_ge _ _).trans (lN_leI hb ha)).mpr e)))
theorem x_lif_gtN {a b : Nat} {off : Int} {tgt : Nat} (hd : nD y pc (.ifCond .gt off) 3 p2 o) (ht : (pc : Int) + off = (tgt : Int)) (ha : a < 2 ^ 63) (hb : b < 2 ^ 63) (k1 : b < a → nG y κ cu su tgt ls st h) (k2 : ¬ b < a → nG y κ cu su p2 ls st h) : nG y κ cu su pc ls (.int (lg_cmp (lN a) (lN b)) :: st) h :=
  x_if_gt hd ht (fun q => k1 (((lg_cmp_gt _ _).trans (lN_ltI hb ha)).mp q)) (fun q => k2 (fun e => q (((lg_cmp_gt _ _).trans (lN_ltI hb ha)).mpr e)))
theorem x_lif_leN {a b : Nat} {off : Int} {tgt : Nat} (hd : nD y pc (.ifCond .le off) 3 p2 o) (ht : (pc : Int) + off = (tgt : Int)) (ha : a < 2 ^ 63) (hb : b < 2 ^ 63) (k1 : a ≤ b → nG y κ cu su tgt ls st h) (k2 : ¬ a ≤ b → nG y κ cu su p2 ls st h) : nG y κ cu su pc ls (.int (lg_cmp (lN a) (lN b)) :: st) h :=
  x_if_le hd ht (fun q => k1 (((lg_cmp_le _ _).trans (lN_leI ha hb)).mp q)) (fun q => k2 (fun e => q (((lg_cmp_le _ _).trans (lN_leI ha hb)).mpr e)))
end NL
def shp (v e z : Nat) : Nat := if z = 1 then v + v / e else if e = 1 then 1 else v - v / e
theorem sp_shaped {h : nPH} {v e z : Nat} (hv : v < 2 ^ 62) (he : 1 ≤ e) (he2 : e ≤ 24) (hz : z < 2 ^ 31) : nRd YX7_shapedPlaces [.long (lN (v)), .int (nI (e)), .int (nI (z))] h (.long (lN (shp v e z))) := by
  refine nSp_of (by decide +kernel) rfl (Nat.le_of_ble_eq_true rfl) (ls := [some (.long (lN (v))), none, some (.int (nI (e))), some (.int (nI (z))), none, none]) (by exact (And.intro rfl (And.intro rfl (And.intro rfl True.intro)))) ?_
  refine x_iload_n rfl d_X7_shapedPlaces_0 ?_
  refine x_if_gtN (tgt := 6) d_X7_shapedPlaces_1 (by decide) (by omega) (fun c_1 => ?_) (fun c_1 => by exfalso; omega)
  refine x_lload_n rfl d_X7_shapedPlaces_6 ?_
  refine x_iload_n rfl d_X7_shapedPlaces_7 ?_
  refine x_i2lN d_X7_shapedPlaces_8 (by omega) ?_
  refine x_ldivN d_X7_shapedPlaces_9 (by omega) (by omega) (by omega) ?_
  refine x_lstore d_X7_shapedPlaces_10 (Nat.le_of_ble_eq_true rfl) ?_
  refine x_iload_n rfl d_X7_shapedPlaces_12 ?_
  refine x_iconst (v := nI 1) (by decide) d_X7_shapedPlaces_13 ?_
  refine x_icmp_neN (tgt := 22) d_X7_shapedPlaces_14 (by decide) (by omega) (by omega) (fun c_2 => ?_) (fun c_2 => ?_)
  · refine x_iload_n rfl d_X7_shapedPlaces_22 ?_
    refine x_iconst (v := nI 1) (by decide) d_X7_shapedPlaces_23 ?_
    refine x_icmp_neN (tgt := 31) d_X7_shapedPlaces_24 (by decide) (by omega) (by omega) (fun c_3 => ?_) (fun c_3 => ?_)
    · refine x_lload_n rfl d_X7_shapedPlaces_31 ?_
      refine x_lload rfl d_X7_shapedPlaces_32 ?_
      refine x_lsubN d_X7_shapedPlaces_34 (by exact Nat.div_le_self _ _) ?_
      exact x_lreturn d_X7_shapedPlaces_35 rfl rfl rfl (Nat.zero_le _) (Nat.zero_le _) (⟨by unfold shp; first | rw [if_pos (by omega)] | rw [if_neg (by omega), if_pos (by omega)] | rw [if_neg (by omega), if_neg (by omega)], rfl⟩)
    · refine x_lconst (v := lN 1) (by decide) d_X7_shapedPlaces_27 ?_
      refine x_goto (tgt := 35) d_X7_shapedPlaces_28 (by decide) ?_
      exact x_lreturn d_X7_shapedPlaces_35 rfl rfl rfl (Nat.zero_le _) (Nat.zero_le _) (⟨by unfold shp; first | rw [if_pos (by omega)] | rw [if_neg (by omega), if_pos (by omega)] | rw [if_neg (by omega), if_neg (by omega)], rfl⟩)
  · refine x_lload_n rfl d_X7_shapedPlaces_17 ?_
    refine x_lload rfl d_X7_shapedPlaces_18 ?_
    refine x_laddN d_X7_shapedPlaces_20 ?_
    exact x_lreturn d_X7_shapedPlaces_21 rfl rfl rfl (Nat.zero_le _) (Nat.zero_le _) (⟨by unfold shp; first | rw [if_pos (by omega)] | rw [if_neg (by omega), if_pos (by omega)] | rw [if_neg (by omega), if_neg (by omega)], rfl⟩)
/-- a rule by every e, kind z -/
def rul (e z : Int32) : Prop := (nI 1 ≤ e ∧ e ≤ nI 24) ∧ (z = nI 1 ∨ z = nI 2)
theorem rul_of {e z : Int32} (h : rul e z) : ∃ e2 z2 : Nat, e = nI e2 ∧ z = nI z2 ∧ 1 ≤ e2 ∧ e2 ≤ 24 ∧ 1 ≤ z2 ∧ z2 ≤ 2 := by
  obtain ⟨⟨h1, h2⟩, h3⟩ := h
  rw [Int32.le_iff_toInt_le, nI_toInt (by decide)] at h1
  rw [Int32.le_iff_toInt_le, nI_toInt (by decide)] at h2
  obtain ⟨e2, he2, rfl⟩ := nIn_of (k := e) (n := 25) ⟨by omega, by omega⟩ (by decide)
  rw [nI_toInt (by omega)] at h1 h2
  rcases h3 with rfl | rfl
  · exact ⟨e2, 1, rfl, rfl, by omega, by omega, by omega, by omega⟩
  · exact ⟨e2, 2, rfl, rfl, by omega, by omega, by omega, by omega⟩
def nBr (e z : Int32) : Nat := if (nI 1 ≤ e ∧ e ≤ nI 24) ∧ (z = nI 1 ∨ z = nI 2) then 1 else 0
theorem nBr_T {e z : Int32} (h : rul e z) : nBr e z = 1 := if_pos h
theorem nBr_F {e z : Int32} (h : ¬ rul e z) : nBr e z = 0 := if_neg h
theorem nBr_le (e z : Int32) : nBr e z ≤ 1 := by unfold nBr; split <;> omega
theorem nBr_0 {e z : Int32} : nBr e z = 0 ↔ ¬ rul e z := by unfold nBr rul; split <;> simp [*]
theorem sp_isRule {h : nPH} (e z : Int32) : nRd YX7_isRule [.int (e), .int (z)] h (.int (nI (nBr e z))) := by
  refine nSp_of (by decide +kernel) rfl (Nat.le_of_ble_eq_true rfl) (ls := [some (.int (e)), some (.int (z))]) (by exact (And.intro rfl (And.intro rfl True.intro))) ?_
  refine x_iload_n rfl d_X7_isRule_0 ?_
  refine x_iconst (v := nI 1) (by decide) d_X7_isRule_1 ?_
  refine x_bipush (v := nI 24) (by decide) d_X7_isRule_2 ?_
  refine x_rdS d_X7_isRule_4 lk_7_64 mo_X7_within sc_X7_within (sp_within e (nI 1) (nI 24)) rfl ⟨Nat.le_of_ble_eq_true rfl, Nat.le_of_ble_eq_true rfl⟩ rfl rfl (Nat.zero_le _) (Nat.zero_le _) (Nat.le_of_ble_eq_true rfl) rfl ?_
  have hle := nB_le (nI 1 ≤ e ∧ e ≤ nI 24)
  refine x_if_eqN (tgt := 24) d_X7_isRule_7 (by decide) (by omega) (fun c_1 => ?_) (fun c_1 => ?_)
  · refine x_iconst (v := nI 0) (by decide) d_X7_isRule_24 ?_
    exact x_ireturn d_X7_isRule_25 rfl (by first | rfl | exact nB_nar _ | exact nB_nar1 (by omega)) rfl rfl (Nat.zero_le _) (Nat.zero_le _) (⟨by rw [nBr_F (fun z => by first | exact nB_0.mp c_1 z.1 | exact z.2.elim c_2 c_3)], rfl⟩)
  · refine x_iload_n rfl d_X7_isRule_10 ?_
    refine x_iconst (v := nI 1) (by decide) d_X7_isRule_11 ?_
    refine x_icmp_eq (tgt := 20) d_X7_isRule_12 (by decide) (fun c_2 => ?_) (fun c_2 => ?_)
    · refine x_iconst (v := nI 1) (by decide) d_X7_isRule_20 ?_
      refine x_goto (tgt := 25) d_X7_isRule_21 (by decide) ?_
      exact x_ireturn d_X7_isRule_25 rfl (by first | rfl | exact nB_nar _ | exact nB_nar1 (by omega)) rfl rfl (Nat.zero_le _) (Nat.zero_le _) (⟨by rw [nBr_T ⟨Decidable.not_not.mp (fun z => c_1 (nB_F z)), by first | exact Or.inl c_2 | exact Or.inr c_3⟩], rfl⟩)
    · refine x_iload_n rfl d_X7_isRule_15 ?_
      refine x_iconst (v := nI 2) (by decide) d_X7_isRule_16 ?_
      refine x_icmp_ne (tgt := 24) d_X7_isRule_17 (by decide) (fun c_3 => ?_) (fun c_3 => ?_)
      · refine x_iconst (v := nI 0) (by decide) d_X7_isRule_24 ?_
        exact x_ireturn d_X7_isRule_25 rfl (by first | rfl | exact nB_nar _ | exact nB_nar1 (by omega)) rfl rfl (Nat.zero_le _) (Nat.zero_le _) (⟨by rw [nBr_F (fun z => by first | exact nB_0.mp c_1 z.1 | exact z.2.elim c_2 c_3)], rfl⟩)
      · refine x_iconst (v := nI 1) (by decide) d_X7_isRule_20 ?_
        refine x_goto (tgt := 25) d_X7_isRule_21 (by decide) ?_
        exact x_ireturn d_X7_isRule_25 rfl (by first | rfl | exact nB_nar _ | exact nB_nar1 (by omega)) rfl rfl (Nat.zero_le _) (Nat.zero_le _) (⟨by rw [nBr_T ⟨Decidable.not_not.mp (fun z => c_1 (nB_F z)), by first | exact Or.inl c_2 | exact Or.inr c_3⟩], rfl⟩)
def fit (a b : Nat) : Prop := ¬ a = 0 ∧ ¬ b = 0 ∧ a ≤ 2 * b ∧ b ≤ 2 * a
def nBf (a b : Nat) : Nat := if ¬ a = 0 ∧ ¬ b = 0 ∧ a ≤ 2 * b ∧ b ≤ 2 * a then 1 else 0
theorem nBf_le (a b : Nat) : nBf a b ≤ 1 := by unfold nBf; split <;> omega
theorem nBf_0 {a b : Nat} : nBf a b = 0 ↔ ¬ fit a b := by unfold nBf fit; split <;> simp [*]
theorem sp_fit {h : nPH} {a b : Nat} {D E : Nat → Nat → Nat} (H : o3 h a D) (HE : o3 h b E) (hD : D 0 0 ≤ 24) (hE : E 0 0 ≤ 24) : nRd YX7_fitTogether [.ref (a), .ref (b)] h (.int (nI (nBf (D 0 0) (E 0 0)))) := by
  refine nSp_of (by decide +kernel) rfl (Nat.le_of_ble_eq_true rfl) (ls := [some (.ref (a)), some (.ref (b))]) (by exact (And.intro rfl (And.intro rfl True.intro))) ?_
  refine x_aload_n rfl d_X7_fitTogether_0 ?_
  refine x_ifnull d_X7_fitTogether_1 ?_
  refine x_aload_n rfl d_X7_fitTogether_4 ?_
  refine x_ifnull d_X7_fitTogether_5 ?_
  refine x_aload_n rfl d_X7_fitTogether_8 ?_
  refine x_getf co_all (v := .int (nI (D 0 0))) d_X7_fitTogether_9 fk_7_127 (o3_o H) rfl ?_
  refine x_if_eqN (tgt := 22) d_X7_fitTogether_12 (by decide) (by omega) (fun c_1 => ?_) (fun c_1 => ?_)
  · refine x_iconst (v := nI 0) (by decide) d_X7_fitTogether_22 ?_
    exact x_ireturn d_X7_fitTogether_23 rfl (by first | rfl | exact nB_nar _ | exact nB_nar1 (by omega)) rfl rfl (Nat.zero_le _) (Nat.zero_le _) (⟨by unfold nBf; first | rw [if_pos ⟨by omega, by omega, by omega, by omega⟩] | rw [if_neg (by omega)], rfl⟩)
  · refine x_aload_n rfl d_X7_fitTogether_15 ?_
    refine x_getf co_all (v := .int (nI (E 0 0))) d_X7_fitTogether_16 fk_7_127 (o3_o HE) rfl ?_
    refine x_if_neN (tgt := 24) d_X7_fitTogether_19 (by decide) (by omega) (fun c_2 => ?_) (fun c_2 => ?_)
    · refine x_aload_n rfl d_X7_fitTogether_24 ?_
      refine x_getf co_all (v := .int (nI (D 0 0))) d_X7_fitTogether_25 fk_7_127 (o3_o H) rfl ?_
      refine x_iconst (v := nI 2) (by decide) d_X7_fitTogether_28 ?_
      refine x_aload_n rfl d_X7_fitTogether_29 ?_
      refine x_getf co_all (v := .int (nI (E 0 0))) d_X7_fitTogether_30 fk_7_127 (o3_o HE) rfl ?_
      refine x_imulN d_X7_fitTogether_33 ?_
      refine x_icmp_gtN (tgt := 54) d_X7_fitTogether_34 (by decide) (by omega) (by omega) (fun c_3 => ?_) (fun c_3 => ?_)
      · refine x_iconst (v := nI 0) (by decide) d_X7_fitTogether_54 ?_
        exact x_ireturn d_X7_fitTogether_55 rfl (by first | rfl | exact nB_nar _ | exact nB_nar1 (by omega)) rfl rfl (Nat.zero_le _) (Nat.zero_le _) (⟨by unfold nBf; first | rw [if_pos ⟨by omega, by omega, by omega, by omega⟩] | rw [if_neg (by omega)], rfl⟩)
      · refine x_aload_n rfl d_X7_fitTogether_37 ?_
        refine x_getf co_all (v := .int (nI (E 0 0))) d_X7_fitTogether_38 fk_7_127 (o3_o HE) rfl ?_
        refine x_iconst (v := nI 2) (by decide) d_X7_fitTogether_41 ?_
        refine x_aload_n rfl d_X7_fitTogether_42 ?_
        refine x_getf co_all (v := .int (nI (D 0 0))) d_X7_fitTogether_43 fk_7_127 (o3_o H) rfl ?_
        refine x_imulN d_X7_fitTogether_46 ?_
        refine x_icmp_gtN (tgt := 54) d_X7_fitTogether_47 (by decide) (by omega) (by omega) (fun c_4 => ?_) (fun c_4 => ?_)
        · refine x_iconst (v := nI 0) (by decide) d_X7_fitTogether_54 ?_
          exact x_ireturn d_X7_fitTogether_55 rfl (by first | rfl | exact nB_nar _ | exact nB_nar1 (by omega)) rfl rfl (Nat.zero_le _) (Nat.zero_le _) (⟨by unfold nBf; first | rw [if_pos ⟨by omega, by omega, by omega, by omega⟩] | rw [if_neg (by omega)], rfl⟩)
        · refine x_iconst (v := nI 1) (by decide) d_X7_fitTogether_50 ?_
          refine x_goto (tgt := 55) d_X7_fitTogether_51 (by decide) ?_
          exact x_ireturn d_X7_fitTogether_55 rfl (by first | rfl | exact nB_nar _ | exact nB_nar1 (by omega)) rfl rfl (Nat.zero_le _) (Nat.zero_le _) (⟨by unfold nBf; first | rw [if_pos ⟨by omega, by omega, by omega, by omega⟩] | rw [if_neg (by omega)], rfl⟩)
    · refine x_iconst (v := nI 0) (by decide) d_X7_fitTogether_22 ?_
      exact x_ireturn d_X7_fitTogether_23 rfl (by first | rfl | exact nB_nar _ | exact nB_nar1 (by omega)) rfl rfl (Nat.zero_le _) (Nat.zero_le _) (⟨by unfold nBf; first | rw [if_pos ⟨by omega, by omega, by omega, by omega⟩] | rw [if_neg (by omega)], rfl⟩)
def shI (v e z : Nat) : Nat → Nat
  | 0 => v
  | n + 1 => shp (shI v e z n) e z
/-- all of n shapings stay within 1 .. 24 -/
def shB (v e z n : Nat) : Prop := ∀ i, i < n → 1 ≤ shI v e z (i + 1) ∧ shI v e z (i + 1) ≤ 24
theorem lp_bearsT {h : nPH} {a : Nat} {P D : Nat → Nat → Nat} (H : o2 h a P) (hn : P 5 0 ≤ 20) (h1 : 1 ≤ P 5 0) (HD : o3 h (P 4 (P 5 0 - 1)) D) (hD : D 0 0 ≤ 24) {n e z : Nat} (hn2 : n ≤ 20) (he : 1 ≤ e) (he2 : e ≤ 24) (hz : 1 ≤ z) (hz2 : z ≤ 2) (hs : shB (D 0 0) e z n) : ∀ m i : Nat, i + m = n → shI (D 0 0) e z i ≤ 24 → nG YX2_bearsShaping (nKy YX2_bearsShaping h.1 h.2.1 (fun v h2 => v = some (.int (nI 1)) ∧ h2 = h)) 0 0 43 [some (.ref (a)), some (.int (nI (n))), some (.int (nI (e))), some (.int (nI (z))), some (.ref (P 4 (P 5 0 - 1))), some (.long (lN (shI (D 0 0) e z i))), none, some (.int (nI (i)))] [] h := by
  have hD62 : ∀ i, shI (D 0 0) e z i ≤ 24 → shI (D 0 0) e z (i + 1) < 2 ^ 62 := by
    intro i hi
    show shp (shI (D 0 0) e z i) e z < 2 ^ 62
    unfold shp
    have := Nat.div_le_self (shI (D 0 0) e z i) e
    have := Nat.sub_le (shI (D 0 0) e z i) (shI (D 0 0) e z i / e)
    split
    · omega
    · split
      · omega
      · exact Nat.lt_of_le_of_lt this (by omega)
  intro m
  induction m with
  | zero =>
    intro i hi hv
    refine x_iload rfl d_X2_bearsShaping_43 ?_
    refine x_iload_n rfl d_X2_bearsShaping_45 ?_
    refine x_icmp_geN (tgt := 82) d_X2_bearsShaping_46 (by decide) (by omega) (by omega) (fun c_1 => ?_) (fun c_1 => by exfalso; omega)
    refine x_iconst (v := nI 1) (by decide) d_X2_bearsShaping_82 ?_
    exact x_ireturn d_X2_bearsShaping_83 rfl (by first | rfl | exact nB_nar _ | exact nB_nar1 (by omega)) rfl rfl (Nat.zero_le _) (Nat.zero_le _) (⟨rfl, rfl⟩)
  | succ m ih =>
    intro i hi hv
    have h62 := hD62 i hv
    have hsi := hs i (by omega)
    refine x_iload rfl d_X2_bearsShaping_43 ?_
    refine x_iload_n rfl d_X2_bearsShaping_45 ?_
    refine x_icmp_geN (tgt := 82) d_X2_bearsShaping_46 (by decide) (by omega) (by omega) (fun c_1 => by exfalso; omega) (fun c_1 => ?_)
    refine x_lload rfl d_X2_bearsShaping_49 ?_
    refine x_iload_n rfl d_X2_bearsShaping_51 ?_
    refine x_iload_n rfl d_X2_bearsShaping_52 ?_
    refine x_rdSN d_X2_bearsShaping_53 lk_2_73 mo_X7_shapedPlaces sc_X7_shapedPlaces (sp_shaped (v := shI (D 0 0) e z i) (e := e) (z := z) (by omega) he he2 (by omega)) rfl ⟨Nat.le_of_ble_eq_true rfl, Nat.le_of_ble_eq_true rfl⟩ rfl rfl (Nat.zero_le _) (Nat.zero_le _) (Nat.le_of_ble_eq_true rfl) rfl ?_
    change nG _ _ _ _ _ _ (.long (lN (shI (D 0 0) e z (i + 1))) :: _) _
    refine x_lstore d_X2_bearsShaping_56 (Nat.le_of_ble_eq_true rfl) ?_
    refine x_lload rfl d_X2_bearsShaping_58 ?_
    refine x_lconst (v := lN 1) (by decide) d_X2_bearsShaping_60 ?_
    refine x_lcmp d_X2_bearsShaping_61 ?_
    refine x_lif_ltN (tgt := 74) d_X2_bearsShaping_62 (by decide) (by omega) (by omega) (fun c_2 => ?_) (fun c_2 => ?_)
    · exfalso; omega
    · refine x_lload rfl d_X2_bearsShaping_65 ?_
      refine x_ldc2 (v := lN 24) d_X2_bearsShaping_67 ct_2_77 ?_
      refine x_lcmp d_X2_bearsShaping_70 ?_
      refine x_lif_leN (tgt := 76) d_X2_bearsShaping_71 (by decide) (by omega) (by omega) (fun c_3 => ?_) (fun c_3 => ?_)
      · refine x_iincN (m := 1) d_X2_bearsShaping_76 rfl (by decide) (Nat.le_of_ble_eq_true rfl) ?_
        refine x_goto (tgt := 43) d_X2_bearsShaping_79 (by decide) ?_
        exact nG.sub (by exact (And.intro rfl (And.intro rfl (And.intro rfl (And.intro rfl (And.intro rfl (And.intro rfl (And.intro rfl True.intro)))))))) (ih (i + 1) (by omega) hsi.2)
      · exfalso; omega
theorem sp_bearsT {h : nPH} {a : Nat} {P D : Nat → Nat → Nat} (H : o2 h a P) (hn : P 5 0 ≤ 20) (h1 : 1 ≤ P 5 0) (HD : o3 h (P 4 (P 5 0 - 1)) D) (hD : D 0 0 ≤ 24) {n e z : Nat} (hn2 : n ≤ 20) (he : 1 ≤ e) (he2 : e ≤ 24) (hz : 1 ≤ z) (hz2 : z ≤ 2) (hp0 : ¬ D 0 0 = 0) (hn3 : n ≤ 20 - P 5 0) (hs : shB (D 0 0) e z n) : nRd YX2_bearsShaping [.ref a, .int (nI n), .int (nI e), .int (nI z)] h (.int (nI 1)) := by
  refine nSp_of (by decide +kernel) rfl (Nat.le_of_ble_eq_true rfl) (ls := [some (.ref (a)), some (.int (nI (n))), some (.int (nI (e))), some (.int (nI (z))), none, none, none, none]) (by exact (And.intro rfl (And.intro rfl (And.intro rfl (And.intro rfl True.intro))))) ?_
  refine x_aload_n rfl d_X2_bearsShaping_0 ?_
  refine x_rdV d_X2_bearsShaping_1 lk_2_57 mo_X2_lastRow vi_X2_lastRow (sp_lastRow H hn h1) (o2_o H) ⟨_, rfl, rfl⟩ rfl ⟨Nat.le_of_ble_eq_true rfl, Nat.le_of_ble_eq_true rfl⟩ rfl rfl (Nat.zero_le _) (Nat.zero_le _) (Nat.le_of_ble_eq_true rfl) rfl ?_
  refine x_astore d_X2_bearsShaping_4 (Nat.le_of_ble_eq_true rfl) ?_
  refine x_aload rfl d_X2_bearsShaping_6 ?_
  refine x_ifnull d_X2_bearsShaping_8 ?_
  refine x_aload rfl d_X2_bearsShaping_11 ?_
  refine x_getf co_all (v := .int (nI (D 0 0))) d_X2_bearsShaping_13 fk_2_70 (o3_o HD) rfl ?_
  refine x_if_eqN (tgt := 30) d_X2_bearsShaping_16 (by decide) (by omega) (fun c_1 => by exfalso; omega) (fun c_1 => ?_)
  refine x_iload_n rfl d_X2_bearsShaping_19 ?_
  refine x_bipush (v := nI 20) (by decide) d_X2_bearsShaping_20 ?_
  refine x_aload_n rfl d_X2_bearsShaping_22 ?_
  refine x_getf co_all (v := .int (nI (P 5 0))) d_X2_bearsShaping_23 fk_2_34 (o2_o H) rfl ?_
  refine x_isubN d_X2_bearsShaping_26 (by omega) ?_
  refine x_icmp_leN (tgt := 32) d_X2_bearsShaping_27 (by decide) (by omega) (by omega) (fun c_2 => ?_) (fun c_2 => by exfalso; omega)
  refine x_aload rfl d_X2_bearsShaping_32 ?_
  refine x_getf co_all (v := .int (nI (D 0 0))) d_X2_bearsShaping_34 fk_2_70 (o3_o HD) rfl ?_
  refine x_i2lN d_X2_bearsShaping_37 (by omega) ?_
  refine x_lstore d_X2_bearsShaping_38 (Nat.le_of_ble_eq_true rfl) ?_
  refine x_iconst (v := nI 0) (by decide) d_X2_bearsShaping_40 ?_
  refine x_istore d_X2_bearsShaping_41 (Nat.le_of_ble_eq_true rfl) ?_
  exact nG.sub (by exact (And.intro rfl (And.intro rfl (And.intro rfl (And.intro rfl (And.intro rfl (And.intro rfl (And.intro rfl True.intro)))))))) (lp_bearsT H hn h1 HD hD hn2 he he2 hz hz2 hs (n) 0 (by omega) hD)
theorem lp_bearsF {h : nPH} {a : Nat} {P D : Nat → Nat → Nat} (H : o2 h a P) (hn : P 5 0 ≤ 20) (h1 : 1 ≤ P 5 0) (HD : o3 h (P 4 (P 5 0 - 1)) D) (hD : D 0 0 ≤ 24) {n e z : Nat} (hn2 : n ≤ 20) (he : 1 ≤ e) (he2 : e ≤ 24) (hz : 1 ≤ z) (hz2 : z ≤ 2) {i0 : Nat} (hi0 : i0 < n) (hs : ∀ i, i < i0 → 1 ≤ shI (D 0 0) e z (i + 1) ∧ shI (D 0 0) e z (i + 1) ≤ 24) (hbad : ¬ (1 ≤ shI (D 0 0) e z (i0 + 1) ∧ shI (D 0 0) e z (i0 + 1) ≤ 24)) : ∀ m i : Nat, i + m = i0 → shI (D 0 0) e z i ≤ 24 → nG YX2_bearsShaping (nKy YX2_bearsShaping h.1 h.2.1 (fun v h2 => v = some (.int (nI 0)) ∧ h2 = h)) 0 0 43 [some (.ref (a)), some (.int (nI (n))), some (.int (nI (e))), some (.int (nI (z))), some (.ref (P 4 (P 5 0 - 1))), some (.long (lN (shI (D 0 0) e z i))), none, some (.int (nI (i)))] [] h := by
  have hD62 : ∀ i, shI (D 0 0) e z i ≤ 24 → shI (D 0 0) e z (i + 1) < 2 ^ 62 := by
    intro i hi
    show shp (shI (D 0 0) e z i) e z < 2 ^ 62
    unfold shp
    have := Nat.div_le_self (shI (D 0 0) e z i) e
    have := Nat.sub_le (shI (D 0 0) e z i) (shI (D 0 0) e z i / e)
    split
    · omega
    · split
      · omega
      · exact Nat.lt_of_le_of_lt this (by omega)
  intro m
  induction m with
  | zero =>
    intro i hi hv
    have ei : i = i0 := by omega
    subst ei
    have h62 := hD62 i hv
    refine x_iload rfl d_X2_bearsShaping_43 ?_
    refine x_iload_n rfl d_X2_bearsShaping_45 ?_
    refine x_icmp_geN (tgt := 82) d_X2_bearsShaping_46 (by decide) (by omega) (by omega) (fun c_1 => by exfalso; omega) (fun c_1 => ?_)
    refine x_lload rfl d_X2_bearsShaping_49 ?_
    refine x_iload_n rfl d_X2_bearsShaping_51 ?_
    refine x_iload_n rfl d_X2_bearsShaping_52 ?_
    refine x_rdSN d_X2_bearsShaping_53 lk_2_73 mo_X7_shapedPlaces sc_X7_shapedPlaces (sp_shaped (v := shI (D 0 0) e z i) (e := e) (z := z) (by omega) he he2 (by omega)) rfl ⟨Nat.le_of_ble_eq_true rfl, Nat.le_of_ble_eq_true rfl⟩ rfl rfl (Nat.zero_le _) (Nat.zero_le _) (Nat.le_of_ble_eq_true rfl) rfl ?_
    change nG _ _ _ _ _ _ (.long (lN (shI (D 0 0) e z (i + 1))) :: _) _
    refine x_lstore d_X2_bearsShaping_56 (Nat.le_of_ble_eq_true rfl) ?_
    refine x_lload rfl d_X2_bearsShaping_58 ?_
    refine x_lconst (v := lN 1) (by decide) d_X2_bearsShaping_60 ?_
    refine x_lcmp d_X2_bearsShaping_61 ?_
    refine x_lif_ltN (tgt := 74) d_X2_bearsShaping_62 (by decide) (by omega) (by omega) (fun c_2 => ?_) (fun c_2 => ?_)
    · refine x_iconst (v := nI 0) (by decide) d_X2_bearsShaping_74 ?_
      exact x_ireturn d_X2_bearsShaping_75 rfl (by first | rfl | exact nB_nar _ | exact nB_nar1 (by omega)) rfl rfl (Nat.zero_le _) (Nat.zero_le _) (⟨rfl, rfl⟩)
    · refine x_lload rfl d_X2_bearsShaping_65 ?_
      refine x_ldc2 (v := lN 24) d_X2_bearsShaping_67 ct_2_77 ?_
      refine x_lcmp d_X2_bearsShaping_70 ?_
      refine x_lif_leN (tgt := 76) d_X2_bearsShaping_71 (by decide) (by omega) (by omega) (fun c_3 => ?_) (fun c_3 => ?_)
      · exact absurd ⟨by omega, by omega⟩ hbad
      · refine x_iconst (v := nI 0) (by decide) d_X2_bearsShaping_74 ?_
        exact x_ireturn d_X2_bearsShaping_75 rfl (by first | rfl | exact nB_nar _ | exact nB_nar1 (by omega)) rfl rfl (Nat.zero_le _) (Nat.zero_le _) (⟨rfl, rfl⟩)
  | succ m ih =>
    intro i hi hv
    have h62 := hD62 i hv
    have hsi := hs i (by omega)
    refine x_iload rfl d_X2_bearsShaping_43 ?_
    refine x_iload_n rfl d_X2_bearsShaping_45 ?_
    refine x_icmp_geN (tgt := 82) d_X2_bearsShaping_46 (by decide) (by omega) (by omega) (fun c_1 => by exfalso; omega) (fun c_1 => ?_)
    refine x_lload rfl d_X2_bearsShaping_49 ?_
    refine x_iload_n rfl d_X2_bearsShaping_51 ?_
    refine x_iload_n rfl d_X2_bearsShaping_52 ?_
    refine x_rdSN d_X2_bearsShaping_53 lk_2_73 mo_X7_shapedPlaces sc_X7_shapedPlaces (sp_shaped (v := shI (D 0 0) e z i) (e := e) (z := z) (by omega) he he2 (by omega)) rfl ⟨Nat.le_of_ble_eq_true rfl, Nat.le_of_ble_eq_true rfl⟩ rfl rfl (Nat.zero_le _) (Nat.zero_le _) (Nat.le_of_ble_eq_true rfl) rfl ?_
    change nG _ _ _ _ _ _ (.long (lN (shI (D 0 0) e z (i + 1))) :: _) _
    refine x_lstore d_X2_bearsShaping_56 (Nat.le_of_ble_eq_true rfl) ?_
    refine x_lload rfl d_X2_bearsShaping_58 ?_
    refine x_lconst (v := lN 1) (by decide) d_X2_bearsShaping_60 ?_
    refine x_lcmp d_X2_bearsShaping_61 ?_
    refine x_lif_ltN (tgt := 74) d_X2_bearsShaping_62 (by decide) (by omega) (by omega) (fun c_2 => ?_) (fun c_2 => ?_)
    · exfalso; omega
    · refine x_lload rfl d_X2_bearsShaping_65 ?_
      refine x_ldc2 (v := lN 24) d_X2_bearsShaping_67 ct_2_77 ?_
      refine x_lcmp d_X2_bearsShaping_70 ?_
      refine x_lif_leN (tgt := 76) d_X2_bearsShaping_71 (by decide) (by omega) (by omega) (fun c_3 => ?_) (fun c_3 => ?_)
      · refine x_iincN (m := 1) d_X2_bearsShaping_76 rfl (by decide) (Nat.le_of_ble_eq_true rfl) ?_
        refine x_goto (tgt := 43) d_X2_bearsShaping_79 (by decide) ?_
        exact nG.sub (by exact (And.intro rfl (And.intro rfl (And.intro rfl (And.intro rfl (And.intro rfl (And.intro rfl (And.intro rfl True.intro)))))))) (ih (i + 1) (by omega) hsi.2)
      · exfalso; omega
theorem sp_bearsF {h : nPH} {a : Nat} {P D : Nat → Nat → Nat} (H : o2 h a P) (hn : P 5 0 ≤ 20) (h1 : 1 ≤ P 5 0) (HD : o3 h (P 4 (P 5 0 - 1)) D) (hD : D 0 0 ≤ 24) {n e z : Nat} (hn2 : n ≤ 20) (he : 1 ≤ e) (he2 : e ≤ 24) (hz : 1 ≤ z) (hz2 : z ≤ 2) (hp0 : ¬ D 0 0 = 0) (hn3 : n ≤ 20 - P 5 0) {i0 : Nat} (hi0 : i0 < n) (hs : ∀ i, i < i0 → 1 ≤ shI (D 0 0) e z (i + 1) ∧ shI (D 0 0) e z (i + 1) ≤ 24) (hbad : ¬ (1 ≤ shI (D 0 0) e z (i0 + 1) ∧ shI (D 0 0) e z (i0 + 1) ≤ 24)) : nRd YX2_bearsShaping [.ref a, .int (nI n), .int (nI e), .int (nI z)] h (.int (nI 0)) := by
  refine nSp_of (by decide +kernel) rfl (Nat.le_of_ble_eq_true rfl) (ls := [some (.ref (a)), some (.int (nI (n))), some (.int (nI (e))), some (.int (nI (z))), none, none, none, none]) (by exact (And.intro rfl (And.intro rfl (And.intro rfl (And.intro rfl True.intro))))) ?_
  refine x_aload_n rfl d_X2_bearsShaping_0 ?_
  refine x_rdV d_X2_bearsShaping_1 lk_2_57 mo_X2_lastRow vi_X2_lastRow (sp_lastRow H hn h1) (o2_o H) ⟨_, rfl, rfl⟩ rfl ⟨Nat.le_of_ble_eq_true rfl, Nat.le_of_ble_eq_true rfl⟩ rfl rfl (Nat.zero_le _) (Nat.zero_le _) (Nat.le_of_ble_eq_true rfl) rfl ?_
  refine x_astore d_X2_bearsShaping_4 (Nat.le_of_ble_eq_true rfl) ?_
  refine x_aload rfl d_X2_bearsShaping_6 ?_
  refine x_ifnull d_X2_bearsShaping_8 ?_
  refine x_aload rfl d_X2_bearsShaping_11 ?_
  refine x_getf co_all (v := .int (nI (D 0 0))) d_X2_bearsShaping_13 fk_2_70 (o3_o HD) rfl ?_
  refine x_if_eqN (tgt := 30) d_X2_bearsShaping_16 (by decide) (by omega) (fun c_1 => by exfalso; omega) (fun c_1 => ?_)
  refine x_iload_n rfl d_X2_bearsShaping_19 ?_
  refine x_bipush (v := nI 20) (by decide) d_X2_bearsShaping_20 ?_
  refine x_aload_n rfl d_X2_bearsShaping_22 ?_
  refine x_getf co_all (v := .int (nI (P 5 0))) d_X2_bearsShaping_23 fk_2_34 (o2_o H) rfl ?_
  refine x_isubN d_X2_bearsShaping_26 (by omega) ?_
  refine x_icmp_leN (tgt := 32) d_X2_bearsShaping_27 (by decide) (by omega) (by omega) (fun c_2 => ?_) (fun c_2 => by exfalso; omega)
  refine x_aload rfl d_X2_bearsShaping_32 ?_
  refine x_getf co_all (v := .int (nI (D 0 0))) d_X2_bearsShaping_34 fk_2_70 (o3_o HD) rfl ?_
  refine x_i2lN d_X2_bearsShaping_37 (by omega) ?_
  refine x_lstore d_X2_bearsShaping_38 (Nat.le_of_ble_eq_true rfl) ?_
  refine x_iconst (v := nI 0) (by decide) d_X2_bearsShaping_40 ?_
  refine x_istore d_X2_bearsShaping_41 (Nat.le_of_ble_eq_true rfl) ?_
  exact nG.sub (by exact (And.intro rfl (And.intro rfl (And.intro rfl (And.intro rfl (And.intro rfl (And.intro rfl (And.intro rfl True.intro)))))))) (lp_bearsF H hn h1 HD hD hn2 he he2 hz hz2 hi0 hs hbad (i0) 0 (by omega) hD)
theorem sp_bears0 {h : nPH} {a : Nat} {P D : Nat → Nat → Nat} (H : o2 h a P) (hn : P 5 0 ≤ 20) (h1 : 1 ≤ P 5 0) (HD : o3 h (P 4 (P 5 0 - 1)) D) (hD : D 0 0 ≤ 24) {n e z : Nat} (hn2 : n ≤ 20) (hp0 : D 0 0 = 0 ∨ 20 - P 5 0 < n) : nRd YX2_bearsShaping [.ref a, .int (nI n), .int (nI e), .int (nI z)] h (.int (nI 0)) := by
  refine nSp_of (by decide +kernel) rfl (Nat.le_of_ble_eq_true rfl) (ls := [some (.ref (a)), some (.int (nI (n))), some (.int (nI (e))), some (.int (nI (z))), none, none, none, none]) (by exact (And.intro rfl (And.intro rfl (And.intro rfl (And.intro rfl True.intro))))) ?_
  refine x_aload_n rfl d_X2_bearsShaping_0 ?_
  refine x_rdV d_X2_bearsShaping_1 lk_2_57 mo_X2_lastRow vi_X2_lastRow (sp_lastRow H hn h1) (o2_o H) ⟨_, rfl, rfl⟩ rfl ⟨Nat.le_of_ble_eq_true rfl, Nat.le_of_ble_eq_true rfl⟩ rfl rfl (Nat.zero_le _) (Nat.zero_le _) (Nat.le_of_ble_eq_true rfl) rfl ?_
  refine x_astore d_X2_bearsShaping_4 (Nat.le_of_ble_eq_true rfl) ?_
  refine x_aload rfl d_X2_bearsShaping_6 ?_
  refine x_ifnull d_X2_bearsShaping_8 ?_
  refine x_aload rfl d_X2_bearsShaping_11 ?_
  refine x_getf co_all (v := .int (nI (D 0 0))) d_X2_bearsShaping_13 fk_2_70 (o3_o HD) rfl ?_
  refine x_if_eqN (tgt := 30) d_X2_bearsShaping_16 (by decide) (by omega) (fun c_1 => ?_) (fun c_1 => ?_)
  · refine x_iconst (v := nI 0) (by decide) d_X2_bearsShaping_30 ?_
    exact x_ireturn d_X2_bearsShaping_31 rfl (by first | rfl | exact nB_nar _ | exact nB_nar1 (by omega)) rfl rfl (Nat.zero_le _) (Nat.zero_le _) (⟨rfl, rfl⟩)
  · refine x_iload_n rfl d_X2_bearsShaping_19 ?_
    refine x_bipush (v := nI 20) (by decide) d_X2_bearsShaping_20 ?_
    refine x_aload_n rfl d_X2_bearsShaping_22 ?_
    refine x_getf co_all (v := .int (nI (P 5 0))) d_X2_bearsShaping_23 fk_2_34 (o2_o H) rfl ?_
    refine x_isubN d_X2_bearsShaping_26 (by omega) ?_
    refine x_icmp_leN (tgt := 32) d_X2_bearsShaping_27 (by decide) (by omega) (by omega) (fun c_2 => by exfalso; omega) (fun c_2 => ?_)
    refine x_iconst (v := nI 0) (by decide) d_X2_bearsShaping_30 ?_
    exact x_ireturn d_X2_bearsShaping_31 rfl (by first | rfl | exact nB_nar _ | exact nB_nar1 (by omega)) rfl rfl (Nat.zero_le _) (Nat.zero_le _) (⟨rfl, rfl⟩)
