/-! the loft: tapers and shapings -/
theorem cl_taperW {h : nPH} {a b : Nat} {V : Nat → Nat → Nat} {P : Nat → Nat → Nat → Nat} {R : Nat → Nat → Nat → Nat → Nat} {E Y T S : Nat → Nat → Nat} (C : cW h a b V P R E Y T S) {w v d : Int32} (hw : ¬ (nI 1 ≤ w ∧ w ≤ nI 1000)) : nRd YX7_taper [.ref (a), .int (w), .int (v), .int (d)] h (.int (-1)) := by
  refine nSp_of (by decide +kernel) rfl (Nat.le_of_ble_eq_true rfl) (ls := [some (.ref (a)), some (.int (w)), some (.int (v)), some (.int (d))]) (by exact (And.intro rfl (And.intro rfl (And.intro rfl (And.intro rfl True.intro))))) ?_
  refine x_iload_n rfl d_X7_taper_0 ?_
  refine x_iconst (v := nI 1) (by decide) d_X7_taper_1 ?_
  refine x_sipush (v := nI 1000) (by decide) d_X7_taper_2 ?_
  refine x_rdS d_X7_taper_5 lk_7_64 mo_X7_within sc_X7_within (sp_within (w) (nI (1)) (nI (1000))) rfl ⟨Nat.le_of_ble_eq_true rfl, Nat.le_of_ble_eq_true rfl⟩ rfl rfl (Nat.zero_le _) (Nat.zero_le _) (Nat.le_of_ble_eq_true rfl) rfl ?_
  rw [nB_F hw]
  refine x_if_eqN (tgt := 31) d_X7_taper_8 (by decide) (by omega) (fun c_1 => ?_) (fun c_1 => by exfalso; exact c_1 rfl)
  refine x_iconst (v := -1) (by decide) d_X7_taper_31 ?_
  exact x_ireturn d_X7_taper_32 rfl rfl rfl rfl (Nat.zero_le _) (Nat.zero_le _) (⟨rfl, rfl⟩)
theorem cl_taperV {h : nPH} {a b : Nat} {V : Nat → Nat → Nat} {P : Nat → Nat → Nat → Nat} {R : Nat → Nat → Nat → Nat → Nat} {E Y T S : Nat → Nat → Nat} (C : cW h a b V P R E Y T S) {w : Nat} (hw1 : 1 ≤ w) (hw2 : w ≤ 1000) {v d : Int32} (hv : ¬ (nI 1 ≤ v ∧ v ≤ nI w)) : nRd YX7_taper [.ref (a), .int (nI (w)), .int (v), .int (d)] h (.int (-1)) := by
  refine nSp_of (by decide +kernel) rfl (Nat.le_of_ble_eq_true rfl) (ls := [some (.ref (a)), some (.int (nI (w))), some (.int (v)), some (.int (d))]) (by exact (And.intro rfl (And.intro rfl (And.intro rfl (And.intro rfl True.intro))))) ?_
  refine x_iload_n rfl d_X7_taper_0 ?_
  refine x_iconst (v := nI 1) (by decide) d_X7_taper_1 ?_
  refine x_sipush (v := nI 1000) (by decide) d_X7_taper_2 ?_
  refine x_rdS d_X7_taper_5 lk_7_64 mo_X7_within sc_X7_within (sp_within (nI (w)) (nI (1)) (nI (1000))) rfl ⟨Nat.le_of_ble_eq_true rfl, Nat.le_of_ble_eq_true rfl⟩ rfl rfl (Nat.zero_le _) (Nat.zero_le _) (Nat.le_of_ble_eq_true rfl) rfl ?_
  rw [nB_ge (a := 1) (b := w) (c := 1000) rfl rfl rfl (by decide) (by omega) (by decide) ⟨hw1, hw2⟩]
  refine x_if_eqN (tgt := 31) d_X7_taper_8 (by decide) (by omega) (fun c_1 => by exfalso; exact absurd c_1 (by decide)) (fun c_1 => ?_)
  refine x_iload_n rfl d_X7_taper_11 ?_
  refine x_iconst (v := nI 1) (by decide) d_X7_taper_12 ?_
  refine x_iload_n rfl d_X7_taper_13 ?_
  refine x_rdS d_X7_taper_14 lk_7_64 mo_X7_within sc_X7_within (sp_within (v) (nI (1)) (nI (w))) rfl ⟨Nat.le_of_ble_eq_true rfl, Nat.le_of_ble_eq_true rfl⟩ rfl rfl (Nat.zero_le _) (Nat.zero_le _) (Nat.le_of_ble_eq_true rfl) rfl ?_
  rw [nB_F hv]
  refine x_if_eqN (tgt := 31) d_X7_taper_17 (by decide) (by omega) (fun c_2 => ?_) (fun c_2 => by exfalso; exact c_2 rfl)
  refine x_iconst (v := -1) (by decide) d_X7_taper_31 ?_
  exact x_ireturn d_X7_taper_32 rfl rfl rfl rfl (Nat.zero_le _) (Nat.zero_le _) (⟨rfl, rfl⟩)
theorem cl_taperD {h : nPH} {a b : Nat} {V : Nat → Nat → Nat} {P : Nat → Nat → Nat → Nat} {R : Nat → Nat → Nat → Nat → Nat} {E Y T S : Nat → Nat → Nat} (C : cW h a b V P R E Y T S) {w : Nat} (hw1 : 1 ≤ w) (hw2 : w ≤ 1000) {v : Nat} (hv1 : 1 ≤ v) (hv2 : v ≤ w) {d : Int32} (hd : ¬ (nI 1 ≤ d ∧ d ≤ nI 400)) : nRd YX7_taper [.ref (a), .int (nI (w)), .int (nI (v)), .int (d)] h (.int (-1)) := by
  refine nSp_of (by decide +kernel) rfl (Nat.le_of_ble_eq_true rfl) (ls := [some (.ref (a)), some (.int (nI (w))), some (.int (nI (v))), some (.int (d))]) (by exact (And.intro rfl (And.intro rfl (And.intro rfl (And.intro rfl True.intro))))) ?_
  refine x_iload_n rfl d_X7_taper_0 ?_
  refine x_iconst (v := nI 1) (by decide) d_X7_taper_1 ?_
  refine x_sipush (v := nI 1000) (by decide) d_X7_taper_2 ?_
  refine x_rdS d_X7_taper_5 lk_7_64 mo_X7_within sc_X7_within (sp_within (nI (w)) (nI (1)) (nI (1000))) rfl ⟨Nat.le_of_ble_eq_true rfl, Nat.le_of_ble_eq_true rfl⟩ rfl rfl (Nat.zero_le _) (Nat.zero_le _) (Nat.le_of_ble_eq_true rfl) rfl ?_
  rw [nB_ge (a := 1) (b := w) (c := 1000) rfl rfl rfl (by decide) (by omega) (by decide) ⟨hw1, hw2⟩]
  refine x_if_eqN (tgt := 31) d_X7_taper_8 (by decide) (by omega) (fun c_1 => by exfalso; exact absurd c_1 (by decide)) (fun c_1 => ?_)
  refine x_iload_n rfl d_X7_taper_11 ?_
  refine x_iconst (v := nI 1) (by decide) d_X7_taper_12 ?_
  refine x_iload_n rfl d_X7_taper_13 ?_
  refine x_rdS d_X7_taper_14 lk_7_64 mo_X7_within sc_X7_within (sp_within (nI (v)) (nI (1)) (nI (w))) rfl ⟨Nat.le_of_ble_eq_true rfl, Nat.le_of_ble_eq_true rfl⟩ rfl rfl (Nat.zero_le _) (Nat.zero_le _) (Nat.le_of_ble_eq_true rfl) rfl ?_
  rw [nB_ge (a := 1) (b := v) (c := w) rfl rfl rfl (by decide) (by omega) (by omega) ⟨hv1, hv2⟩]
  refine x_if_eqN (tgt := 31) d_X7_taper_17 (by decide) (by omega) (fun c_2 => by exfalso; exact absurd c_2 (by decide)) (fun c_2 => ?_)
  refine x_iload_n rfl d_X7_taper_20 ?_
  refine x_iconst (v := nI 1) (by decide) d_X7_taper_21 ?_
  refine x_sipush (v := nI 400) (by decide) d_X7_taper_22 ?_
  refine x_rdS d_X7_taper_25 lk_7_64 mo_X7_within sc_X7_within (sp_within (d) (nI (1)) (nI (400))) rfl ⟨Nat.le_of_ble_eq_true rfl, Nat.le_of_ble_eq_true rfl⟩ rfl rfl (Nat.zero_le _) (Nat.zero_le _) (Nat.le_of_ble_eq_true rfl) rfl ?_
  rw [nB_F hd]
  refine x_if_neN (tgt := 33) d_X7_taper_28 (by decide) (by omega) (fun c_3 => by exfalso; exact c_3 rfl) (fun c_3 => ?_)
  refine x_iconst (v := -1) (by decide) d_X7_taper_31 ?_
  exact x_ireturn d_X7_taper_32 rfl rfl rfl rfl (Nat.zero_le _) (Nat.zero_le _) (⟨rfl, rfl⟩)
theorem cl_taper {h : nPH} {a b : Nat} {V : Nat → Nat → Nat} {P : Nat → Nat → Nat → Nat} {R : Nat → Nat → Nat → Nat → Nat} {E Y T S : Nat → Nat → Nat} (C : cW h a b V P R E Y T S) {w : Nat} (hw1 : 1 ≤ w) (hw2 : w ≤ 1000) {v : Nat} (hv1 : 1 ≤ v) (hv2 : v ≤ w) {d : Nat} (hd1 : 1 ≤ d) (hd2 : d ≤ 400) {l0 : Nat} (h1 : 1 ≤ l0) (h2 : l0 ≤ d) (hno : ∀ l, 1 ≤ l → l < l0 → ¬ tpH (w - v) l d) (hyes : tpH (w - v) l0 d) : nWv YX7_taper [.ref (a), .int (nI (w)), .int (nI (v)), .int (nI (d))] h (some (.int (nI l0))) (fun h2 => kB b h h2 ∧ cW h2 a b V P R E Y (u2 (u2 (u2 T 0 0 d) 1 0 l0) 2 0 (tpT (w - v) l0 d)) S) := by
  refine nSp_of (by decide +kernel) rfl (Nat.le_of_ble_eq_true rfl) (ls := [some (.ref (a)), some (.int (nI (w))), some (.int (nI (v))), some (.int (nI (d)))]) (by exact (And.intro rfl (And.intro rfl (And.intro rfl (And.intro rfl True.intro))))) ?_
  refine x_iload_n rfl d_X7_taper_0 ?_
  refine x_iconst (v := nI 1) (by decide) d_X7_taper_1 ?_
  refine x_sipush (v := nI 1000) (by decide) d_X7_taper_2 ?_
  refine x_rdS d_X7_taper_5 lk_7_64 mo_X7_within sc_X7_within (sp_within (nI (w)) (nI (1)) (nI (1000))) rfl ⟨Nat.le_of_ble_eq_true rfl, Nat.le_of_ble_eq_true rfl⟩ rfl rfl (Nat.zero_le _) (Nat.zero_le _) (Nat.le_of_ble_eq_true rfl) rfl ?_
  rw [nB_ge (a := 1) (b := w) (c := 1000) rfl rfl rfl (by decide) (by omega) (by decide) ⟨hw1, hw2⟩]
  refine x_if_eqN (tgt := 31) d_X7_taper_8 (by decide) (by omega) (fun c_1 => by exfalso; exact absurd c_1 (by decide)) (fun c_1 => ?_)
  refine x_iload_n rfl d_X7_taper_11 ?_
  refine x_iconst (v := nI 1) (by decide) d_X7_taper_12 ?_
  refine x_iload_n rfl d_X7_taper_13 ?_
  refine x_rdS d_X7_taper_14 lk_7_64 mo_X7_within sc_X7_within (sp_within (nI (v)) (nI (1)) (nI (w))) rfl ⟨Nat.le_of_ble_eq_true rfl, Nat.le_of_ble_eq_true rfl⟩ rfl rfl (Nat.zero_le _) (Nat.zero_le _) (Nat.le_of_ble_eq_true rfl) rfl ?_
  rw [nB_ge (a := 1) (b := v) (c := w) rfl rfl rfl (by decide) (by omega) (by omega) ⟨hv1, hv2⟩]
  refine x_if_eqN (tgt := 31) d_X7_taper_17 (by decide) (by omega) (fun c_2 => by exfalso; exact absurd c_2 (by decide)) (fun c_2 => ?_)
  refine x_iload_n rfl d_X7_taper_20 ?_
  refine x_iconst (v := nI 1) (by decide) d_X7_taper_21 ?_
  refine x_sipush (v := nI 400) (by decide) d_X7_taper_22 ?_
  refine x_rdS d_X7_taper_25 lk_7_64 mo_X7_within sc_X7_within (sp_within (nI (d)) (nI (1)) (nI (400))) rfl ⟨Nat.le_of_ble_eq_true rfl, Nat.le_of_ble_eq_true rfl⟩ rfl rfl (Nat.zero_le _) (Nat.zero_le _) (Nat.le_of_ble_eq_true rfl) rfl ?_
  rw [nB_ge (a := 1) (b := d) (c := 400) rfl rfl rfl (by decide) (by omega) (by decide) ⟨hd1, hd2⟩]
  refine x_if_neN (tgt := 33) d_X7_taper_28 (by decide) (by omega) (fun c_3 => ?_) (fun c_3 => by exfalso; exact absurd c_3 (by decide))
  refine x_aload_n rfl d_X7_taper_33 ?_
  refine x_getf co_all (v := .ref (a + 56)) d_X7_taper_34 fk_7_43 (o7_o C.1.1) rfl ?_
  refine x_iload_n rfl d_X7_taper_37 ?_
  refine x_iload_n rfl d_X7_taper_38 ?_
  refine x_isubN d_X7_taper_39 (by omega) ?_
  refine x_iload_n rfl d_X7_taper_40 ?_
  refine x_wvV d_X7_taper_41 lk_7_218 mo_X5_find vi_X5_find (sp_find C.1.2.2.2.2.1 (u := w - v) (d := d) (l0 := l0) (by omega) hd1 hd2 h1 h2 hno hyes) (o5_o C.1.2.2.2.2.1) ⟨_, rfl, rfl⟩ rfl ⟨Nat.le_of_ble_eq_true rfl, Nat.le_of_ble_eq_true rfl⟩ (Nat.zero_le _) (Nat.zero_le _) (Nat.le_of_ble_eq_true rfl) rfl (fun h3 hp e1 e2 => ?_)
  obtain ⟨F3, H3⟩ := hp
  exact x_ireturn d_X7_taper_44 rfl rfl F3.1 F3.2.1 (Nat.zero_le _) (Nat.zero_le _) (⟨rfl, cW_o C F3 (nFr_up (by omega) (by omega)) (cF_T C.1 F3 H3) rfl (fun _ => rfl)⟩)
theorem tp_ex {u d : Nat} (hd : 1 ≤ d) : ∃ l0, 1 ≤ l0 ∧ l0 ≤ d ∧ (∀ l, 1 ≤ l → l < l0 → ¬ tpH u l d) ∧ tpH u l0 d := by
  have key : ∀ n, n ≤ d → (∃ l0, 1 ≤ l0 ∧ l0 ≤ n ∧ (∀ l, 1 ≤ l → l < l0 → ¬ tpH u l d) ∧ tpH u l0 d) ∨ ∀ l, 1 ≤ l → l ≤ n → ¬ tpH u l d := by
    intro n
    induction n with
    | zero => intro _; exact Or.inr (fun l h1 h2 => absurd h2 (by omega))
    | succ n ih =>
      intro hn
      rcases ih (by omega) with ⟨l0, g1, g2, g3, g4⟩ | g
      · exact Or.inl ⟨l0, g1, by omega, g3, g4⟩
      · by_cases e : tpH u (n + 1) d
        · exact Or.inl ⟨n + 1, by omega, Nat.le_refl _, fun l h1 h2 => g l h1 (by omega), e⟩
        · refine Or.inr (fun l h1 h2 => ?_)
          rcases Nat.lt_succ_iff_lt_or_eq.mp (Nat.lt_succ_of_le h2) with z | z
          · exact g l h1 (by omega)
          · rw [z]; exact e
  rcases key d (Nat.le_refl _) with ⟨l0, g1, g2, g3, g4⟩ | g
  · exact ⟨l0, g1, g2, g3, g4⟩
  · exact absurd (tpH_d hd) (g d hd (Nat.le_refl _))
theorem rul_n {e z : Nat} (he : 1 ≤ e) (he2 : e ≤ 24) (hz : 1 ≤ z) (hz2 : z ≤ 2) : rul (nI e) (nI z) := by
  refine ⟨⟨(nI_leI (by decide) (by omega)).mpr he, (nI_leI (by omega) (by decide)).mpr he2⟩, ?_⟩
  rcases (show z = 1 ∨ z = 2 by omega) with rfl | rfl
  · exact Or.inl rfl
  · exact Or.inr rfl
theorem cl_aheadW {h : nPH} {a b : Nat} {V : Nat → Nat → Nat} {P : Nat → Nat → Nat → Nat} {R : Nat → Nat → Nat → Nat → Nat} {E Y T S : Nat → Nat → Nat} (C : cW h a b V P R E Y T S) {w n e z : Int32} (hw : ¬ (nI 1 ≤ w ∧ w ≤ nI 1000)) : nRd YX7_ahead [.ref (a), .int (w), .int (n), .int (e), .int (z)] h (.long (-1)) := by
  refine nSp_of (by decide +kernel) rfl (Nat.le_of_ble_eq_true rfl) (ls := [some (.ref (a)), some (.int (w)), some (.int (n)), some (.int (e)), some (.int (z)), none, none, none]) (by exact (And.intro rfl (And.intro rfl (And.intro rfl (And.intro rfl (And.intro rfl True.intro)))))) ?_
  refine x_iload_n rfl d_X7_ahead_0 ?_
  refine x_iconst (v := nI 1) (by decide) d_X7_ahead_1 ?_
  refine x_sipush (v := nI 1000) (by decide) d_X7_ahead_2 ?_
  refine x_rdS d_X7_ahead_5 lk_7_64 mo_X7_within sc_X7_within (sp_within (w) (nI (1)) (nI (1000))) rfl ⟨Nat.le_of_ble_eq_true rfl, Nat.le_of_ble_eq_true rfl⟩ rfl rfl (Nat.zero_le _) (Nat.zero_le _) (Nat.le_of_ble_eq_true rfl) rfl ?_
  rw [nB_F hw]
  refine x_if_eqN (tgt := 31) d_X7_ahead_8 (by decide) (by omega) (fun c_1 => ?_) (fun c_1 => by exfalso; exact c_1 rfl)
  refine x_ldc2 d_X7_ahead_31 ct_7_115 ?_
  exact x_lreturn d_X7_ahead_34 rfl rfl rfl (Nat.zero_le _) (Nat.zero_le _) (⟨rfl, rfl⟩)
theorem cl_aheadN {h : nPH} {a b : Nat} {V : Nat → Nat → Nat} {P : Nat → Nat → Nat → Nat} {R : Nat → Nat → Nat → Nat → Nat} {E Y T S : Nat → Nat → Nat} (C : cW h a b V P R E Y T S) {w : Nat} (hw1 : 1 ≤ w) (hw2 : w ≤ 1000) {n e z : Int32} (hn : ¬ (nI 1 ≤ n ∧ n ≤ nI 1000)) : nRd YX7_ahead [.ref (a), .int (nI (w)), .int (n), .int (e), .int (z)] h (.long (-1)) := by
  refine nSp_of (by decide +kernel) rfl (Nat.le_of_ble_eq_true rfl) (ls := [some (.ref (a)), some (.int (nI (w))), some (.int (n)), some (.int (e)), some (.int (z)), none, none, none]) (by exact (And.intro rfl (And.intro rfl (And.intro rfl (And.intro rfl (And.intro rfl True.intro)))))) ?_
  refine x_iload_n rfl d_X7_ahead_0 ?_
  refine x_iconst (v := nI 1) (by decide) d_X7_ahead_1 ?_
  refine x_sipush (v := nI 1000) (by decide) d_X7_ahead_2 ?_
  refine x_rdS d_X7_ahead_5 lk_7_64 mo_X7_within sc_X7_within (sp_within (nI (w)) (nI (1)) (nI (1000))) rfl ⟨Nat.le_of_ble_eq_true rfl, Nat.le_of_ble_eq_true rfl⟩ rfl rfl (Nat.zero_le _) (Nat.zero_le _) (Nat.le_of_ble_eq_true rfl) rfl ?_
  rw [nB_ge (a := 1) (b := w) (c := 1000) rfl rfl rfl (by decide) (by omega) (by decide) ⟨hw1, hw2⟩]
  refine x_if_eqN (tgt := 31) d_X7_ahead_8 (by decide) (by omega) (fun c_1 => by exfalso; exact absurd c_1 (by decide)) (fun c_1 => ?_)
  refine x_iload_n rfl d_X7_ahead_11 ?_
  refine x_iconst (v := nI 1) (by decide) d_X7_ahead_12 ?_
  refine x_sipush (v := nI 1000) (by decide) d_X7_ahead_13 ?_
  refine x_rdS d_X7_ahead_16 lk_7_64 mo_X7_within sc_X7_within (sp_within (n) (nI (1)) (nI (1000))) rfl ⟨Nat.le_of_ble_eq_true rfl, Nat.le_of_ble_eq_true rfl⟩ rfl rfl (Nat.zero_le _) (Nat.zero_le _) (Nat.le_of_ble_eq_true rfl) rfl ?_
  rw [nB_F hn]
  refine x_if_eqN (tgt := 31) d_X7_ahead_19 (by decide) (by omega) (fun c_2 => ?_) (fun c_2 => by exfalso; exact c_2 rfl)
  refine x_ldc2 d_X7_ahead_31 ct_7_115 ?_
  exact x_lreturn d_X7_ahead_34 rfl rfl rfl (Nat.zero_le _) (Nat.zero_le _) (⟨rfl, rfl⟩)
theorem cl_aheadR {h : nPH} {a b : Nat} {V : Nat → Nat → Nat} {P : Nat → Nat → Nat → Nat} {R : Nat → Nat → Nat → Nat → Nat} {E Y T S : Nat → Nat → Nat} (C : cW h a b V P R E Y T S) {w : Nat} (hw1 : 1 ≤ w) (hw2 : w ≤ 1000) {n : Nat} (hn1 : 1 ≤ n) (hn2 : n ≤ 1000) {e z : Int32} (hr : ¬ rul e z) : nRd YX7_ahead [.ref (a), .int (nI (w)), .int (nI (n)), .int (e), .int (z)] h (.long (-1)) := by
  refine nSp_of (by decide +kernel) rfl (Nat.le_of_ble_eq_true rfl) (ls := [some (.ref (a)), some (.int (nI (w))), some (.int (nI (n))), some (.int (e)), some (.int (z)), none, none, none]) (by exact (And.intro rfl (And.intro rfl (And.intro rfl (And.intro rfl (And.intro rfl True.intro)))))) ?_
  refine x_iload_n rfl d_X7_ahead_0 ?_
  refine x_iconst (v := nI 1) (by decide) d_X7_ahead_1 ?_
  refine x_sipush (v := nI 1000) (by decide) d_X7_ahead_2 ?_
  refine x_rdS d_X7_ahead_5 lk_7_64 mo_X7_within sc_X7_within (sp_within (nI (w)) (nI (1)) (nI (1000))) rfl ⟨Nat.le_of_ble_eq_true rfl, Nat.le_of_ble_eq_true rfl⟩ rfl rfl (Nat.zero_le _) (Nat.zero_le _) (Nat.le_of_ble_eq_true rfl) rfl ?_
  rw [nB_ge (a := 1) (b := w) (c := 1000) rfl rfl rfl (by decide) (by omega) (by decide) ⟨hw1, hw2⟩]
  refine x_if_eqN (tgt := 31) d_X7_ahead_8 (by decide) (by omega) (fun c_1 => by exfalso; exact absurd c_1 (by decide)) (fun c_1 => ?_)
  refine x_iload_n rfl d_X7_ahead_11 ?_
  refine x_iconst (v := nI 1) (by decide) d_X7_ahead_12 ?_
  refine x_sipush (v := nI 1000) (by decide) d_X7_ahead_13 ?_
  refine x_rdS d_X7_ahead_16 lk_7_64 mo_X7_within sc_X7_within (sp_within (nI (n)) (nI (1)) (nI (1000))) rfl ⟨Nat.le_of_ble_eq_true rfl, Nat.le_of_ble_eq_true rfl⟩ rfl rfl (Nat.zero_le _) (Nat.zero_le _) (Nat.le_of_ble_eq_true rfl) rfl ?_
  rw [nB_ge (a := 1) (b := n) (c := 1000) rfl rfl rfl (by decide) (by omega) (by decide) ⟨hn1, hn2⟩]
  refine x_if_eqN (tgt := 31) d_X7_ahead_19 (by decide) (by omega) (fun c_2 => by exfalso; exact absurd c_2 (by decide)) (fun c_2 => ?_)
  refine x_iload_n rfl d_X7_ahead_22 ?_
  refine x_iload rfl d_X7_ahead_23 ?_
  refine x_rdS d_X7_ahead_25 lk_7_104 mo_X7_isRule sc_X7_isRule (sp_isRule (e) (z)) rfl ⟨Nat.le_of_ble_eq_true rfl, Nat.le_of_ble_eq_true rfl⟩ rfl rfl (Nat.zero_le _) (Nat.zero_le _) (Nat.le_of_ble_eq_true rfl) rfl ?_
  rw [nBr_F hr]
  refine x_if_neN (tgt := 35) d_X7_ahead_28 (by decide) (by omega) (fun c_3 => by exfalso; exact c_3 rfl) (fun c_3 => ?_)
  refine x_ldc2 d_X7_ahead_31 ct_7_115 ?_
  exact x_lreturn d_X7_ahead_34 rfl rfl rfl (Nat.zero_le _) (Nat.zero_le _) (⟨rfl, rfl⟩)
theorem shp_le {v e z : Nat} : shp v e z ≤ 2 * v + 1 := by
  have := Nat.div_le_self v e
  unfold shp
  generalize v / e = t at this ⊢
  split
  · omega
  · split <;> omega
theorem lp_ahead {h : nPH} {a : Nat} {w : Nat} (hw1 : 1 ≤ w) (hw2 : w ≤ 1000) {n : Nat} (hn1 : 1 ≤ n) (hn2 : n ≤ 1000) {e z : Nat} (he : 1 ≤ e) (he2 : e ≤ 24) (hz : 1 ≤ z) (hz2 : z ≤ 2) (hok : ∀ i, i < n → shI w e z (i + 1) ≤ 1000000000000) : ∀ t i : Nat, i + t = n → nG YX7_ahead (nKy YX7_ahead h.1 h.2.1 (fun v h2 => v = some (.long (lN (shI w e z n))) ∧ h2 = h)) 0 0 42 [some (.ref (a)), some (.int (nI (w))), some (.int (nI (n))), some (.int (nI (e))), some (.int (nI (z))), some (.long (lN (shI w e z i))), none, some (.int (nI (i)))] [] h := by
  intro t
  induction t with
  | zero =>
    intro i hi
    refine x_iload rfl d_X7_ahead_42 ?_
    refine x_iload_n rfl d_X7_ahead_44 ?_
    refine x_icmp_geN (tgt := 77) d_X7_ahead_45 (by decide) (by omega) (by omega) (fun c_1 => ?_) (fun c_1 => by exfalso; omega)
    refine x_lload rfl d_X7_ahead_77 ?_
    exact x_lreturn d_X7_ahead_79 rfl rfl rfl (Nat.zero_le _) (Nat.zero_le _) (⟨by rw [show n = i by omega], rfl⟩)
  | succ t ih =>
    intro i hi
    have hv : shI w e z i ≤ 1000000000000 := by
      rcases Nat.eq_zero_or_pos i with y | y
      · subst y; show w ≤ _; omega
      · have := hok (i - 1) (by omega)
        rw [show i - 1 + 1 = i by omega] at this
        exact this
    have hv2 := shp_le (v := shI w e z i) (e := e) (z := z)
    refine x_iload rfl d_X7_ahead_42 ?_
    refine x_iload_n rfl d_X7_ahead_44 ?_
    refine x_icmp_geN (tgt := 77) d_X7_ahead_45 (by decide) (by omega) (by omega) (fun c_1 => by exfalso; omega) (fun c_1 => ?_)
    refine x_lload rfl d_X7_ahead_48 ?_
    refine x_iload_n rfl d_X7_ahead_50 ?_
    refine x_iload rfl d_X7_ahead_51 ?_
    refine x_rdS d_X7_ahead_53 lk_7_117 mo_X7_shapedPlaces sc_X7_shapedPlaces (sp_shaped (v := shI w e z i) (by omega) he he2 (by omega)) rfl ⟨Nat.le_of_ble_eq_true rfl, Nat.le_of_ble_eq_true rfl⟩ rfl rfl (Nat.zero_le _) (Nat.zero_le _) (Nat.le_of_ble_eq_true rfl) rfl ?_
    have hsI : shI w e z (i + 1) = shp (shI w e z i) e z := rfl
    show nG _ _ _ _ _ _ (.long (lN (shI w e z (i + 1))) :: _) _
    refine x_lstore d_X7_ahead_56 (Nat.le_of_ble_eq_true rfl) ?_
    refine x_lload rfl d_X7_ahead_58 ?_
    refine x_ldc2 (v := lN 1000000000000) d_X7_ahead_60 ct_7_121 ?_
    refine x_lcmp d_X7_ahead_63 ?_
    refine x_lif_leN (tgt := 71) d_X7_ahead_64 (by decide) (by omega) (by omega) (fun c_2 => ?_) (fun c_2 => by exfalso; have := hok i (by omega); omega)
    refine x_iincN (m := 1) d_X7_ahead_71 rfl (by decide) (Nat.le_of_ble_eq_true rfl) ?_
    refine x_goto (tgt := 42) d_X7_ahead_74 (by decide) ?_
    exact nG.sub (by exact (And.intro rfl (And.intro rfl (And.intro rfl (And.intro rfl (And.intro rfl (And.intro rfl (And.intro rfl True.intro)))))))) (ih (i + 1) (by omega))
theorem cl_aheadS {h : nPH} {a b : Nat} {V : Nat → Nat → Nat} {P : Nat → Nat → Nat → Nat} {R : Nat → Nat → Nat → Nat → Nat} {E Y T S : Nat → Nat → Nat} (C : cW h a b V P R E Y T S) {w : Nat} (hw1 : 1 ≤ w) (hw2 : w ≤ 1000) {n : Nat} (hn1 : 1 ≤ n) (hn2 : n ≤ 1000) {e z : Nat} (he : 1 ≤ e) (he2 : e ≤ 24) (hz : 1 ≤ z) (hz2 : z ≤ 2) (hok : ∀ i, i < n → shI w e z (i + 1) ≤ 1000000000000) : nRd YX7_ahead [.ref (a), .int (nI (w)), .int (nI (n)), .int (nI (e)), .int (nI (z))] h (.long (lN (shI w e z n))) := by
  refine nSp_of (by decide +kernel) rfl (Nat.le_of_ble_eq_true rfl) (ls := [some (.ref (a)), some (.int (nI (w))), some (.int (nI (n))), some (.int (nI (e))), some (.int (nI (z))), none, none, none]) (by exact (And.intro rfl (And.intro rfl (And.intro rfl (And.intro rfl (And.intro rfl True.intro)))))) ?_
  refine x_iload_n rfl d_X7_ahead_0 ?_
  refine x_iconst (v := nI 1) (by decide) d_X7_ahead_1 ?_
  refine x_sipush (v := nI 1000) (by decide) d_X7_ahead_2 ?_
  refine x_rdS d_X7_ahead_5 lk_7_64 mo_X7_within sc_X7_within (sp_within (nI (w)) (nI (1)) (nI (1000))) rfl ⟨Nat.le_of_ble_eq_true rfl, Nat.le_of_ble_eq_true rfl⟩ rfl rfl (Nat.zero_le _) (Nat.zero_le _) (Nat.le_of_ble_eq_true rfl) rfl ?_
  rw [nB_ge (a := 1) (b := w) (c := 1000) rfl rfl rfl (by decide) (by omega) (by decide) ⟨hw1, hw2⟩]
  refine x_if_eqN (tgt := 31) d_X7_ahead_8 (by decide) (by omega) (fun c_1 => by exfalso; exact absurd c_1 (by decide)) (fun c_1 => ?_)
  refine x_iload_n rfl d_X7_ahead_11 ?_
  refine x_iconst (v := nI 1) (by decide) d_X7_ahead_12 ?_
  refine x_sipush (v := nI 1000) (by decide) d_X7_ahead_13 ?_
  refine x_rdS d_X7_ahead_16 lk_7_64 mo_X7_within sc_X7_within (sp_within (nI (n)) (nI (1)) (nI (1000))) rfl ⟨Nat.le_of_ble_eq_true rfl, Nat.le_of_ble_eq_true rfl⟩ rfl rfl (Nat.zero_le _) (Nat.zero_le _) (Nat.le_of_ble_eq_true rfl) rfl ?_
  rw [nB_ge (a := 1) (b := n) (c := 1000) rfl rfl rfl (by decide) (by omega) (by decide) ⟨hn1, hn2⟩]
  refine x_if_eqN (tgt := 31) d_X7_ahead_19 (by decide) (by omega) (fun c_2 => by exfalso; exact absurd c_2 (by decide)) (fun c_2 => ?_)
  refine x_iload_n rfl d_X7_ahead_22 ?_
  refine x_iload rfl d_X7_ahead_23 ?_
  refine x_rdS d_X7_ahead_25 lk_7_104 mo_X7_isRule sc_X7_isRule (sp_isRule (nI (e)) (nI (z))) rfl ⟨Nat.le_of_ble_eq_true rfl, Nat.le_of_ble_eq_true rfl⟩ rfl rfl (Nat.zero_le _) (Nat.zero_le _) (Nat.le_of_ble_eq_true rfl) rfl ?_
  rw [nBr_T (rul_n he he2 hz hz2)]
  refine x_if_neN (tgt := 35) d_X7_ahead_28 (by decide) (by omega) (fun c_3 => ?_) (fun c_3 => by exfalso; exact absurd c_3 (by decide))
  refine x_iload_n rfl d_X7_ahead_35 ?_
  refine x_i2lN d_X7_ahead_36 (by omega) ?_
  refine x_lstore d_X7_ahead_37 (Nat.le_of_ble_eq_true rfl) ?_
  refine x_iconst (v := nI 0) (by decide) d_X7_ahead_39 ?_
  refine x_istore d_X7_ahead_40 (Nat.le_of_ble_eq_true rfl) ?_
  exact lp_ahead hw1 hw2 hn1 hn2 he he2 hz hz2 hok n 0 (by omega)
theorem lp_aheadX {h : nPH} {a : Nat} {w : Nat} (hw1 : 1 ≤ w) (hw2 : w ≤ 1000) {n : Nat} (hn1 : 1 ≤ n) (hn2 : n ≤ 1000) {e z : Nat} (he : 1 ≤ e) (he2 : e ≤ 24) (hz : 1 ≤ z) (hz2 : z ≤ 2) {m : Nat} (hm : m < n) (hok : ∀ i, i < m → shI w e z (i + 1) ≤ 1000000000000) (hbad : 1000000000000 < shI w e z (m + 1)) : ∀ t i : Nat, i + t = m → nG YX7_ahead (nKy YX7_ahead h.1 h.2.1 (fun v h2 => v = some (.long (-1)) ∧ h2 = h)) 0 0 42 [some (.ref (a)), some (.int (nI (w))), some (.int (nI (n))), some (.int (nI (e))), some (.int (nI (z))), some (.long (lN (shI w e z i))), none, some (.int (nI (i)))] [] h := by
  intro t
  induction t with
  | zero =>
    intro i hi
    have e0 : i = m := by omega
    subst e0
    have hv : shI w e z i ≤ 1000000000000 := by
      rcases Nat.eq_zero_or_pos i with y | y
      · subst y; show w ≤ _; omega
      · have := hok (i - 1) (by omega)
        rw [show i - 1 + 1 = i by omega] at this
        exact this
    have hv2 := shp_le (v := shI w e z i) (e := e) (z := z)
    refine x_iload rfl d_X7_ahead_42 ?_
    refine x_iload_n rfl d_X7_ahead_44 ?_
    refine x_icmp_geN (tgt := 77) d_X7_ahead_45 (by decide) (by omega) (by omega) (fun c_1 => by exfalso; omega) (fun c_1 => ?_)
    refine x_lload rfl d_X7_ahead_48 ?_
    refine x_iload_n rfl d_X7_ahead_50 ?_
    refine x_iload rfl d_X7_ahead_51 ?_
    refine x_rdS d_X7_ahead_53 lk_7_117 mo_X7_shapedPlaces sc_X7_shapedPlaces (sp_shaped (v := shI w e z i) (by omega) he he2 (by omega)) rfl ⟨Nat.le_of_ble_eq_true rfl, Nat.le_of_ble_eq_true rfl⟩ rfl rfl (Nat.zero_le _) (Nat.zero_le _) (Nat.le_of_ble_eq_true rfl) rfl ?_
    have hsI : shI w e z (i + 1) = shp (shI w e z i) e z := rfl
    show nG _ _ _ _ _ _ (.long (lN (shI w e z (i + 1))) :: _) _
    refine x_lstore d_X7_ahead_56 (Nat.le_of_ble_eq_true rfl) ?_
    refine x_lload rfl d_X7_ahead_58 ?_
    refine x_ldc2 (v := lN 1000000000000) d_X7_ahead_60 ct_7_121 ?_
    refine x_lcmp d_X7_ahead_63 ?_
    refine x_lif_leN (tgt := 71) d_X7_ahead_64 (by decide) (by omega) (by omega) (fun c_2 => by exfalso; omega) (fun c_2 => ?_)
    refine x_ldc2 d_X7_ahead_67 ct_7_115 ?_
    exact x_lreturn d_X7_ahead_70 rfl rfl rfl (Nat.zero_le _) (Nat.zero_le _) (⟨rfl, rfl⟩)
  | succ t ih =>
    intro i hi
    have hv : shI w e z i ≤ 1000000000000 := by
      rcases Nat.eq_zero_or_pos i with y | y
      · subst y; show w ≤ _; omega
      · have := hok (i - 1) (by omega)
        rw [show i - 1 + 1 = i by omega] at this
        exact this
    have hv2 := shp_le (v := shI w e z i) (e := e) (z := z)
    refine x_iload rfl d_X7_ahead_42 ?_
    refine x_iload_n rfl d_X7_ahead_44 ?_
    refine x_icmp_geN (tgt := 77) d_X7_ahead_45 (by decide) (by omega) (by omega) (fun c_1 => by exfalso; omega) (fun c_1 => ?_)
    refine x_lload rfl d_X7_ahead_48 ?_
    refine x_iload_n rfl d_X7_ahead_50 ?_
    refine x_iload rfl d_X7_ahead_51 ?_
    refine x_rdS d_X7_ahead_53 lk_7_117 mo_X7_shapedPlaces sc_X7_shapedPlaces (sp_shaped (v := shI w e z i) (by omega) he he2 (by omega)) rfl ⟨Nat.le_of_ble_eq_true rfl, Nat.le_of_ble_eq_true rfl⟩ rfl rfl (Nat.zero_le _) (Nat.zero_le _) (Nat.le_of_ble_eq_true rfl) rfl ?_
    have hsI : shI w e z (i + 1) = shp (shI w e z i) e z := rfl
    show nG _ _ _ _ _ _ (.long (lN (shI w e z (i + 1))) :: _) _
    refine x_lstore d_X7_ahead_56 (Nat.le_of_ble_eq_true rfl) ?_
    refine x_lload rfl d_X7_ahead_58 ?_
    refine x_ldc2 (v := lN 1000000000000) d_X7_ahead_60 ct_7_121 ?_
    refine x_lcmp d_X7_ahead_63 ?_
    refine x_lif_leN (tgt := 71) d_X7_ahead_64 (by decide) (by omega) (by omega) (fun c_2 => ?_) (fun c_2 => by exfalso; have := hok i (by omega); omega)
    refine x_iincN (m := 1) d_X7_ahead_71 rfl (by decide) (Nat.le_of_ble_eq_true rfl) ?_
    refine x_goto (tgt := 42) d_X7_ahead_74 (by decide) ?_
    exact nG.sub (by exact (And.intro rfl (And.intro rfl (And.intro rfl (And.intro rfl (And.intro rfl (And.intro rfl (And.intro rfl True.intro)))))))) (ih (i + 1) (by omega))
theorem cl_aheadX {h : nPH} {a b : Nat} {V : Nat → Nat → Nat} {P : Nat → Nat → Nat → Nat} {R : Nat → Nat → Nat → Nat → Nat} {E Y T S : Nat → Nat → Nat} (C : cW h a b V P R E Y T S) {w : Nat} (hw1 : 1 ≤ w) (hw2 : w ≤ 1000) {n : Nat} (hn1 : 1 ≤ n) (hn2 : n ≤ 1000) {e z : Nat} (he : 1 ≤ e) (he2 : e ≤ 24) (hz : 1 ≤ z) (hz2 : z ≤ 2) {m : Nat} (hm : m < n) (hok : ∀ i, i < m → shI w e z (i + 1) ≤ 1000000000000) (hbad : 1000000000000 < shI w e z (m + 1)) : nRd YX7_ahead [.ref (a), .int (nI (w)), .int (nI (n)), .int (nI (e)), .int (nI (z))] h (.long (-1)) := by
  refine nSp_of (by decide +kernel) rfl (Nat.le_of_ble_eq_true rfl) (ls := [some (.ref (a)), some (.int (nI (w))), some (.int (nI (n))), some (.int (nI (e))), some (.int (nI (z))), none, none, none]) (by exact (And.intro rfl (And.intro rfl (And.intro rfl (And.intro rfl (And.intro rfl True.intro)))))) ?_
  refine x_iload_n rfl d_X7_ahead_0 ?_
  refine x_iconst (v := nI 1) (by decide) d_X7_ahead_1 ?_
  refine x_sipush (v := nI 1000) (by decide) d_X7_ahead_2 ?_
  refine x_rdS d_X7_ahead_5 lk_7_64 mo_X7_within sc_X7_within (sp_within (nI (w)) (nI (1)) (nI (1000))) rfl ⟨Nat.le_of_ble_eq_true rfl, Nat.le_of_ble_eq_true rfl⟩ rfl rfl (Nat.zero_le _) (Nat.zero_le _) (Nat.le_of_ble_eq_true rfl) rfl ?_
  rw [nB_ge (a := 1) (b := w) (c := 1000) rfl rfl rfl (by decide) (by omega) (by decide) ⟨hw1, hw2⟩]
  refine x_if_eqN (tgt := 31) d_X7_ahead_8 (by decide) (by omega) (fun c_1 => by exfalso; exact absurd c_1 (by decide)) (fun c_1 => ?_)
  refine x_iload_n rfl d_X7_ahead_11 ?_
  refine x_iconst (v := nI 1) (by decide) d_X7_ahead_12 ?_
  refine x_sipush (v := nI 1000) (by decide) d_X7_ahead_13 ?_
  refine x_rdS d_X7_ahead_16 lk_7_64 mo_X7_within sc_X7_within (sp_within (nI (n)) (nI (1)) (nI (1000))) rfl ⟨Nat.le_of_ble_eq_true rfl, Nat.le_of_ble_eq_true rfl⟩ rfl rfl (Nat.zero_le _) (Nat.zero_le _) (Nat.le_of_ble_eq_true rfl) rfl ?_
  rw [nB_ge (a := 1) (b := n) (c := 1000) rfl rfl rfl (by decide) (by omega) (by decide) ⟨hn1, hn2⟩]
  refine x_if_eqN (tgt := 31) d_X7_ahead_19 (by decide) (by omega) (fun c_2 => by exfalso; exact absurd c_2 (by decide)) (fun c_2 => ?_)
  refine x_iload_n rfl d_X7_ahead_22 ?_
  refine x_iload rfl d_X7_ahead_23 ?_
  refine x_rdS d_X7_ahead_25 lk_7_104 mo_X7_isRule sc_X7_isRule (sp_isRule (nI (e)) (nI (z))) rfl ⟨Nat.le_of_ble_eq_true rfl, Nat.le_of_ble_eq_true rfl⟩ rfl rfl (Nat.zero_le _) (Nat.zero_le _) (Nat.le_of_ble_eq_true rfl) rfl ?_
  rw [nBr_T (rul_n he he2 hz hz2)]
  refine x_if_neN (tgt := 35) d_X7_ahead_28 (by decide) (by omega) (fun c_3 => ?_) (fun c_3 => by exfalso; exact absurd c_3 (by decide))
  refine x_iload_n rfl d_X7_ahead_35 ?_
  refine x_i2lN d_X7_ahead_36 (by omega) ?_
  refine x_lstore d_X7_ahead_37 (Nat.le_of_ble_eq_true rfl) ?_
  refine x_iconst (v := nI 0) (by decide) d_X7_ahead_39 ?_
  refine x_istore d_X7_ahead_40 (Nat.le_of_ble_eq_true rfl) ?_
  exact lp_aheadX hw1 hw2 hn1 hn2 he he2 hz hz2 hm hok hbad m 0 (by omega)
theorem cl_shapeP {h : nPH} {a b : Nat} {V : Nat → Nat → Nat} {P : Nat → Nat → Nat → Nat} {R : Nat → Nat → Nat → Nat → Nat} {E Y T S : Nat → Nat → Nat} (C : cW h a b V P R E Y T S) {p : Int32} (hp : ¬ nIn p (V 1 0)) {n e z : Int32} : nRd YX7_shape [.ref (a), .int (p), .int (n), .int (e), .int (z)] h (.int (-1)) := by
  refine nSp_of (by decide +kernel) rfl (Nat.le_of_ble_eq_true rfl) (ls := [some (.ref (a)), some (.int (p)), some (.int (n)), some (.int (e)), some (.int (z)), none]) (by exact (And.intro rfl (And.intro rfl (And.intro rfl (And.intro rfl (And.intro rfl True.intro)))))) ?_
  refine x_aload_n rfl d_X7_shape_0 ?_
  refine x_iload_n rfl d_X7_shape_1 ?_
  refine x_rdV d_X7_shape_2 lk_7_85 mo_X7_panelAt vi_X7_panelAt (sp_pAtN C.1.1 (cW_n C) hp) (o7_o C.1.1) ⟨_, rfl, rfl⟩ rfl ⟨Nat.le_of_ble_eq_true rfl, Nat.le_of_ble_eq_true rfl⟩ rfl rfl (Nat.zero_le _) (Nat.zero_le _) (Nat.le_of_ble_eq_true rfl) rfl ?_
  refine x_astoreN d_X7_shape_5 (Nat.le_of_ble_eq_true rfl) ?_
  refine x_aloadN rfl d_X7_shape_7 ?_
  refine x_ifnullN (tgt := 31) d_X7_shape_9 (by decide) ?_
  refine x_iconst (v := -1) (by decide) d_X7_shape_31 ?_
  exact x_ireturn d_X7_shape_32 rfl rfl rfl rfl (Nat.zero_le _) (Nat.zero_le _) (⟨rfl, rfl⟩)
theorem cl_shapeN {h : nPH} {a b : Nat} {V : Nat → Nat → Nat} {P : Nat → Nat → Nat → Nat} {R : Nat → Nat → Nat → Nat → Nat} {E Y T S : Nat → Nat → Nat} (C : cW h a b V P R E Y T S) {p : Nat} (hp : p < V 1 0) {n e z : Int32} (hn : ¬ (nI 1 ≤ n ∧ n ≤ nI 19)) : nRd YX7_shape [.ref (a), .int (nI (p)), .int (n), .int (e), .int (z)] h (.int (-1)) := by
  have hn12 := cW_n C
  have hn20 := (cW_q C hp).2.1
  refine nSp_of (by decide +kernel) rfl (Nat.le_of_ble_eq_true rfl) (ls := [some (.ref (a)), some (.int (nI (p))), some (.int (n)), some (.int (e)), some (.int (z)), none]) (by exact (And.intro rfl (And.intro rfl (And.intro rfl (And.intro rfl (And.intro rfl True.intro)))))) ?_
  refine x_aload_n rfl d_X7_shape_0 ?_
  refine x_iload_n rfl d_X7_shape_1 ?_
  refine x_rdV d_X7_shape_2 lk_7_85 mo_X7_panelAt vi_X7_panelAt (sp_pAt C.1.1 (cW_n C) hp) (o7_o C.1.1) ⟨_, rfl, rfl⟩ rfl ⟨Nat.le_of_ble_eq_true rfl, Nat.le_of_ble_eq_true rfl⟩ rfl rfl (Nat.zero_le _) (Nat.zero_le _) (Nat.le_of_ble_eq_true rfl) rfl ?_
  refine x_astore d_X7_shape_5 (Nat.le_of_ble_eq_true rfl) ?_
  refine x_aload rfl d_X7_shape_7 ?_
  refine x_ifnull d_X7_shape_9 ?_
  refine x_iload_n rfl d_X7_shape_12 ?_
  refine x_iconst (v := nI 1) (by decide) d_X7_shape_13 ?_
  refine x_bipush (v := nI 19) (by decide) d_X7_shape_14 ?_
  refine x_rdS d_X7_shape_16 lk_7_64 mo_X7_within sc_X7_within (sp_within (n) (nI (1)) (nI (19))) rfl ⟨Nat.le_of_ble_eq_true rfl, Nat.le_of_ble_eq_true rfl⟩ rfl rfl (Nat.zero_le _) (Nat.zero_le _) (Nat.le_of_ble_eq_true rfl) rfl ?_
  rw [nB_F hn]
  refine x_if_eqN (tgt := 31) d_X7_shape_19 (by decide) (by omega) (fun c_1 => ?_) (fun c_1 => by exfalso; exact c_1 rfl)
  refine x_iconst (v := -1) (by decide) d_X7_shape_31 ?_
  exact x_ireturn d_X7_shape_32 rfl rfl rfl rfl (Nat.zero_le _) (Nat.zero_le _) (⟨rfl, rfl⟩)
theorem cl_shapeR {h : nPH} {a b : Nat} {V : Nat → Nat → Nat} {P : Nat → Nat → Nat → Nat} {R : Nat → Nat → Nat → Nat → Nat} {E Y T S : Nat → Nat → Nat} (C : cW h a b V P R E Y T S) {p : Nat} (hp : p < V 1 0) {n : Nat} (hn1 : 1 ≤ n) (hn2 : n ≤ 19) {e z : Int32} (hr : ¬ rul e z) : nRd YX7_shape [.ref (a), .int (nI (p)), .int (nI (n)), .int (e), .int (z)] h (.int (-1)) := by
  have hn12 := cW_n C
  have hn20 := (cW_q C hp).2.1
  refine nSp_of (by decide +kernel) rfl (Nat.le_of_ble_eq_true rfl) (ls := [some (.ref (a)), some (.int (nI (p))), some (.int (nI (n))), some (.int (e)), some (.int (z)), none]) (by exact (And.intro rfl (And.intro rfl (And.intro rfl (And.intro rfl (And.intro rfl True.intro)))))) ?_
  refine x_aload_n rfl d_X7_shape_0 ?_
  refine x_iload_n rfl d_X7_shape_1 ?_
  refine x_rdV d_X7_shape_2 lk_7_85 mo_X7_panelAt vi_X7_panelAt (sp_pAt C.1.1 (cW_n C) hp) (o7_o C.1.1) ⟨_, rfl, rfl⟩ rfl ⟨Nat.le_of_ble_eq_true rfl, Nat.le_of_ble_eq_true rfl⟩ rfl rfl (Nat.zero_le _) (Nat.zero_le _) (Nat.le_of_ble_eq_true rfl) rfl ?_
  refine x_astore d_X7_shape_5 (Nat.le_of_ble_eq_true rfl) ?_
  refine x_aload rfl d_X7_shape_7 ?_
  refine x_ifnull d_X7_shape_9 ?_
  refine x_iload_n rfl d_X7_shape_12 ?_
  refine x_iconst (v := nI 1) (by decide) d_X7_shape_13 ?_
  refine x_bipush (v := nI 19) (by decide) d_X7_shape_14 ?_
  refine x_rdS d_X7_shape_16 lk_7_64 mo_X7_within sc_X7_within (sp_within (nI (n)) (nI (1)) (nI (19))) rfl ⟨Nat.le_of_ble_eq_true rfl, Nat.le_of_ble_eq_true rfl⟩ rfl rfl (Nat.zero_le _) (Nat.zero_le _) (Nat.le_of_ble_eq_true rfl) rfl ?_
  rw [nB_ge (a := 1) (b := n) (c := 19) rfl rfl rfl (by decide) (by omega) (by decide) ⟨hn1, hn2⟩]
  refine x_if_eqN (tgt := 31) d_X7_shape_19 (by decide) (by omega) (fun c_1 => by exfalso; exact absurd c_1 (by decide)) (fun c_1 => ?_)
  refine x_iload_n rfl d_X7_shape_22 ?_
  refine x_iload rfl d_X7_shape_23 ?_
  refine x_rdS d_X7_shape_25 lk_7_104 mo_X7_isRule sc_X7_isRule (sp_isRule (e) (z)) rfl ⟨Nat.le_of_ble_eq_true rfl, Nat.le_of_ble_eq_true rfl⟩ rfl rfl (Nat.zero_le _) (Nat.zero_le _) (Nat.le_of_ble_eq_true rfl) rfl ?_
  rw [nBr_F hr]
  refine x_if_neN (tgt := 33) d_X7_shape_28 (by decide) (by omega) (fun c_2 => by exfalso; exact c_2 rfl) (fun c_2 => ?_)
  refine x_iconst (v := -1) (by decide) d_X7_shape_31 ?_
  exact x_ireturn d_X7_shape_32 rfl rfl rfl rfl (Nat.zero_le _) (Nat.zero_le _) (⟨rfl, rfl⟩)
theorem cl_shape0 {h : nPH} {a b : Nat} {V : Nat → Nat → Nat} {P : Nat → Nat → Nat → Nat} {R : Nat → Nat → Nat → Nat → Nat} {E Y T S : Nat → Nat → Nat} (C : cW h a b V P R E Y T S) {p : Nat} (hp : p < V 1 0) {n : Nat} (hn1 : 1 ≤ n) (hn2 : n ≤ 19) {e z : Nat} (he : 1 ≤ e) (he2 : e ≤ 24) (hz : 1 ≤ z) (hz2 : z ≤ 2) (hb : (R p (P p 5 0 - 1) 0 0) = 0 ∨ 20 - P p 5 0 < n) : nRd YX7_shape [.ref (a), .int (nI (p)), .int (nI (n)), .int (nI (e)), .int (nI (z))] h (.int (-1)) := by
  have hn12 := cW_n C
  have hn20 := (cW_q C hp).2.1
  have h1p := cW_1 C hp
  have hl : P p 5 0 - 1 < P p 5 0 := by omega
  have hrk := ((cW_q C hp).2.2.1 _ hl).2.1
  have hpl := hrk.1
  have HD := ((cW_q C hp).2.2.1 _ hl).1
  refine nSp_of (by decide +kernel) rfl (Nat.le_of_ble_eq_true rfl) (ls := [some (.ref (a)), some (.int (nI (p))), some (.int (nI (n))), some (.int (nI (e))), some (.int (nI (z))), none]) (by exact (And.intro rfl (And.intro rfl (And.intro rfl (And.intro rfl (And.intro rfl True.intro)))))) ?_
  refine x_aload_n rfl d_X7_shape_0 ?_
  refine x_iload_n rfl d_X7_shape_1 ?_
  refine x_rdV d_X7_shape_2 lk_7_85 mo_X7_panelAt vi_X7_panelAt (sp_pAt C.1.1 (cW_n C) hp) (o7_o C.1.1) ⟨_, rfl, rfl⟩ rfl ⟨Nat.le_of_ble_eq_true rfl, Nat.le_of_ble_eq_true rfl⟩ rfl rfl (Nat.zero_le _) (Nat.zero_le _) (Nat.le_of_ble_eq_true rfl) rfl ?_
  refine x_astore d_X7_shape_5 (Nat.le_of_ble_eq_true rfl) ?_
  refine x_aload rfl d_X7_shape_7 ?_
  refine x_ifnull d_X7_shape_9 ?_
  refine x_iload_n rfl d_X7_shape_12 ?_
  refine x_iconst (v := nI 1) (by decide) d_X7_shape_13 ?_
  refine x_bipush (v := nI 19) (by decide) d_X7_shape_14 ?_
  refine x_rdS d_X7_shape_16 lk_7_64 mo_X7_within sc_X7_within (sp_within (nI (n)) (nI (1)) (nI (19))) rfl ⟨Nat.le_of_ble_eq_true rfl, Nat.le_of_ble_eq_true rfl⟩ rfl rfl (Nat.zero_le _) (Nat.zero_le _) (Nat.le_of_ble_eq_true rfl) rfl ?_
  rw [nB_ge (a := 1) (b := n) (c := 19) rfl rfl rfl (by decide) (by omega) (by decide) ⟨hn1, hn2⟩]
  refine x_if_eqN (tgt := 31) d_X7_shape_19 (by decide) (by omega) (fun c_1 => by exfalso; exact absurd c_1 (by decide)) (fun c_1 => ?_)
  refine x_iload_n rfl d_X7_shape_22 ?_
  refine x_iload rfl d_X7_shape_23 ?_
  refine x_rdS d_X7_shape_25 lk_7_104 mo_X7_isRule sc_X7_isRule (sp_isRule (nI (e)) (nI (z))) rfl ⟨Nat.le_of_ble_eq_true rfl, Nat.le_of_ble_eq_true rfl⟩ rfl rfl (Nat.zero_le _) (Nat.zero_le _) (Nat.le_of_ble_eq_true rfl) rfl ?_
  rw [nBr_T (rul_n he he2 hz hz2)]
  refine x_if_neN (tgt := 33) d_X7_shape_28 (by decide) (by omega) (fun c_2 => ?_) (fun c_2 => by exfalso; exact absurd c_2 (by decide))
  refine x_aload rfl d_X7_shape_33 ?_
  refine x_iload_n rfl d_X7_shape_35 ?_
  refine x_iload_n rfl d_X7_shape_36 ?_
  refine x_iload rfl d_X7_shape_37 ?_
  refine x_rdV d_X7_shape_39 lk_7_108 mo_X2_bearsShaping vi_X2_bearsShaping (sp_bears0 (cW_q C hp).1 hn20 h1p HD hpl (by omega) hb) (o2_o (cW_q C hp).1) ⟨_, rfl, rfl⟩ rfl ⟨Nat.le_of_ble_eq_true rfl, Nat.le_of_ble_eq_true rfl⟩ rfl rfl (Nat.zero_le _) (Nat.zero_le _) (Nat.le_of_ble_eq_true rfl) rfl ?_
  refine x_if_eqN (tgt := 57) d_X7_shape_42 (by decide) (by omega) (fun c_3 => ?_) (fun c_3 => by exfalso; omega)
  refine x_iconst (v := -1) (by decide) d_X7_shape_57 ?_
  exact x_ireturn d_X7_shape_58 rfl rfl rfl rfl (Nat.zero_le _) (Nat.zero_le _) (⟨rfl, rfl⟩)
theorem cl_shapeF {h : nPH} {a b : Nat} {V : Nat → Nat → Nat} {P : Nat → Nat → Nat → Nat} {R : Nat → Nat → Nat → Nat → Nat} {E Y T S : Nat → Nat → Nat} (C : cW h a b V P R E Y T S) {p : Nat} (hp : p < V 1 0) {n : Nat} (hn1 : 1 ≤ n) (hn2 : n ≤ 19) {e z : Nat} (he : 1 ≤ e) (he2 : e ≤ 24) (hz : 1 ≤ z) (hz2 : z ≤ 2) (hp0 : ¬ (R p (P p 5 0 - 1) 0 0) = 0) (hn3 : n ≤ 20 - P p 5 0) {i0 : Nat} (hi0 : i0 < n) (hs : ∀ i, i < i0 → 1 ≤ shI (R p (P p 5 0 - 1) 0 0) e z (i + 1) ∧ shI (R p (P p 5 0 - 1) 0 0) e z (i + 1) ≤ 24) (hbad : ¬ (1 ≤ shI (R p (P p 5 0 - 1) 0 0) e z (i0 + 1) ∧ shI (R p (P p 5 0 - 1) 0 0) e z (i0 + 1) ≤ 24)) : nRd YX7_shape [.ref (a), .int (nI (p)), .int (nI (n)), .int (nI (e)), .int (nI (z))] h (.int (-1)) := by
  have hn12 := cW_n C
  have hn20 := (cW_q C hp).2.1
  have h1p := cW_1 C hp
  have hl : P p 5 0 - 1 < P p 5 0 := by omega
  have hrk := ((cW_q C hp).2.2.1 _ hl).2.1
  have hpl := hrk.1
  have HD := ((cW_q C hp).2.2.1 _ hl).1
  refine nSp_of (by decide +kernel) rfl (Nat.le_of_ble_eq_true rfl) (ls := [some (.ref (a)), some (.int (nI (p))), some (.int (nI (n))), some (.int (nI (e))), some (.int (nI (z))), none]) (by exact (And.intro rfl (And.intro rfl (And.intro rfl (And.intro rfl (And.intro rfl True.intro)))))) ?_
  refine x_aload_n rfl d_X7_shape_0 ?_
  refine x_iload_n rfl d_X7_shape_1 ?_
  refine x_rdV d_X7_shape_2 lk_7_85 mo_X7_panelAt vi_X7_panelAt (sp_pAt C.1.1 (cW_n C) hp) (o7_o C.1.1) ⟨_, rfl, rfl⟩ rfl ⟨Nat.le_of_ble_eq_true rfl, Nat.le_of_ble_eq_true rfl⟩ rfl rfl (Nat.zero_le _) (Nat.zero_le _) (Nat.le_of_ble_eq_true rfl) rfl ?_
  refine x_astore d_X7_shape_5 (Nat.le_of_ble_eq_true rfl) ?_
  refine x_aload rfl d_X7_shape_7 ?_
  refine x_ifnull d_X7_shape_9 ?_
  refine x_iload_n rfl d_X7_shape_12 ?_
  refine x_iconst (v := nI 1) (by decide) d_X7_shape_13 ?_
  refine x_bipush (v := nI 19) (by decide) d_X7_shape_14 ?_
  refine x_rdS d_X7_shape_16 lk_7_64 mo_X7_within sc_X7_within (sp_within (nI (n)) (nI (1)) (nI (19))) rfl ⟨Nat.le_of_ble_eq_true rfl, Nat.le_of_ble_eq_true rfl⟩ rfl rfl (Nat.zero_le _) (Nat.zero_le _) (Nat.le_of_ble_eq_true rfl) rfl ?_
  rw [nB_ge (a := 1) (b := n) (c := 19) rfl rfl rfl (by decide) (by omega) (by decide) ⟨hn1, hn2⟩]
  refine x_if_eqN (tgt := 31) d_X7_shape_19 (by decide) (by omega) (fun c_1 => by exfalso; exact absurd c_1 (by decide)) (fun c_1 => ?_)
  refine x_iload_n rfl d_X7_shape_22 ?_
  refine x_iload rfl d_X7_shape_23 ?_
  refine x_rdS d_X7_shape_25 lk_7_104 mo_X7_isRule sc_X7_isRule (sp_isRule (nI (e)) (nI (z))) rfl ⟨Nat.le_of_ble_eq_true rfl, Nat.le_of_ble_eq_true rfl⟩ rfl rfl (Nat.zero_le _) (Nat.zero_le _) (Nat.le_of_ble_eq_true rfl) rfl ?_
  rw [nBr_T (rul_n he he2 hz hz2)]
  refine x_if_neN (tgt := 33) d_X7_shape_28 (by decide) (by omega) (fun c_2 => ?_) (fun c_2 => by exfalso; exact absurd c_2 (by decide))
  refine x_aload rfl d_X7_shape_33 ?_
  refine x_iload_n rfl d_X7_shape_35 ?_
  refine x_iload_n rfl d_X7_shape_36 ?_
  refine x_iload rfl d_X7_shape_37 ?_
  refine x_rdV d_X7_shape_39 lk_7_108 mo_X2_bearsShaping vi_X2_bearsShaping (sp_bearsF (cW_q C hp).1 hn20 h1p HD hpl (by omega) he he2 hz hz2 hp0 hn3 hi0 hs hbad) (o2_o (cW_q C hp).1) ⟨_, rfl, rfl⟩ rfl ⟨Nat.le_of_ble_eq_true rfl, Nat.le_of_ble_eq_true rfl⟩ rfl rfl (Nat.zero_le _) (Nat.zero_le _) (Nat.le_of_ble_eq_true rfl) rfl ?_
  refine x_if_eqN (tgt := 57) d_X7_shape_42 (by decide) (by omega) (fun c_3 => ?_) (fun c_3 => by exfalso; omega)
  refine x_iconst (v := -1) (by decide) d_X7_shape_57 ?_
  exact x_ireturn d_X7_shape_58 rfl rfl rfl rfl (Nat.zero_le _) (Nat.zero_le _) (⟨rfl, rfl⟩)
theorem sh_ad (P : Nat → Nat → Nat) (z n : Nat) : ∀ r, r < shP P z n 5 0 → (r < P 5 0 ∧ shP P z n 4 r = P 4 r) ∨ z ≤ shP P z n 4 r := fun r hr => by
  rw [shP_5] at hr
  rcases Nat.lt_or_ge r (P 5 0) with e | e
  · exact Or.inl ⟨e, (shP_4 P z n).1 e⟩
  · right
    rw [(shP_4 P z n).2 e hr]
    exact Nat.le_add_right _ _
theorem cl_shape {h : nPH} {a b : Nat} {V : Nat → Nat → Nat} {P : Nat → Nat → Nat → Nat} {R : Nat → Nat → Nat → Nat → Nat} {E Y T S : Nat → Nat → Nat} (C : cW h a b V P R E Y T S) {p : Nat} (hp : p < V 1 0) {n : Nat} (hn1 : 1 ≤ n) (hn2 : n ≤ 19) {e z : Nat} (he : 1 ≤ e) (he2 : e ≤ 24) (hz : 1 ≤ z) (hz2 : z ≤ 2) (hp0 : 1 ≤ (R p (P p 5 0 - 1) 0 0)) (hn3 : P p 5 0 + n ≤ 20) (hs : shB (R p (P p 5 0 - 1) 0 0) e z n) : nWv YX7_shape [.ref (a), .int (nI (p)), .int (nI (n)), .int (nI (e)), .int (nI (z))] h (some (.int (nI (shI (R p (P p 5 0 - 1) 0 0) e z n)))) (fun h2 => kB b h h2 ∧ cW h2 a b V (uP P p (shP (P p) h.2.2.1 n)) (uP R p (shR e z (P p 5 0) (R p) n)) E Y T S) := by
  have hn12 := cW_n C
  have hn20 := (cW_q C hp).2.1
  have h1p := cW_1 C hp
  have hl : P p 5 0 - 1 < P p 5 0 := by omega
  have hrk := ((cW_q C hp).2.2.1 _ hl).2.1
  have hpl := hrk.1
  have HD := ((cW_q C hp).2.2.1 _ hl).1
  refine nSp_of (by decide +kernel) rfl (Nat.le_of_ble_eq_true rfl) (ls := [some (.ref (a)), some (.int (nI (p))), some (.int (nI (n))), some (.int (nI (e))), some (.int (nI (z))), none]) (by exact (And.intro rfl (And.intro rfl (And.intro rfl (And.intro rfl (And.intro rfl True.intro)))))) ?_
  refine x_aload_n rfl d_X7_shape_0 ?_
  refine x_iload_n rfl d_X7_shape_1 ?_
  refine x_rdV d_X7_shape_2 lk_7_85 mo_X7_panelAt vi_X7_panelAt (sp_pAt C.1.1 (cW_n C) hp) (o7_o C.1.1) ⟨_, rfl, rfl⟩ rfl ⟨Nat.le_of_ble_eq_true rfl, Nat.le_of_ble_eq_true rfl⟩ rfl rfl (Nat.le_of_ble_eq_true rfl) (Nat.le_of_ble_eq_true rfl) (Nat.le_of_ble_eq_true rfl) rfl ?_
  refine x_astore d_X7_shape_5 (Nat.le_of_ble_eq_true rfl) ?_
  refine x_aload rfl d_X7_shape_7 ?_
  refine x_ifnull d_X7_shape_9 ?_
  refine x_iload_n rfl d_X7_shape_12 ?_
  refine x_iconst (v := nI 1) (by decide) d_X7_shape_13 ?_
  refine x_bipush (v := nI 19) (by decide) d_X7_shape_14 ?_
  refine x_rdS d_X7_shape_16 lk_7_64 mo_X7_within sc_X7_within (sp_within (nI (n)) (nI (1)) (nI (19))) rfl ⟨Nat.le_of_ble_eq_true rfl, Nat.le_of_ble_eq_true rfl⟩ rfl rfl (Nat.le_of_ble_eq_true rfl) (Nat.le_of_ble_eq_true rfl) (Nat.le_of_ble_eq_true rfl) rfl ?_
  rw [nB_ge (a := 1) (b := n) (c := 19) rfl rfl rfl (by decide) (by omega) (by decide) ⟨hn1, hn2⟩]
  refine x_if_eqN (tgt := 31) d_X7_shape_19 (by decide) (by omega) (fun c_1 => by exfalso; exact absurd c_1 (by decide)) (fun c_1 => ?_)
  refine x_iload_n rfl d_X7_shape_22 ?_
  refine x_iload rfl d_X7_shape_23 ?_
  refine x_rdS d_X7_shape_25 lk_7_104 mo_X7_isRule sc_X7_isRule (sp_isRule (nI (e)) (nI (z))) rfl ⟨Nat.le_of_ble_eq_true rfl, Nat.le_of_ble_eq_true rfl⟩ rfl rfl (Nat.le_of_ble_eq_true rfl) (Nat.le_of_ble_eq_true rfl) (Nat.le_of_ble_eq_true rfl) rfl ?_
  rw [nBr_T (rul_n he he2 hz hz2)]
  refine x_if_neN (tgt := 33) d_X7_shape_28 (by decide) (by omega) (fun c_2 => ?_) (fun c_2 => by exfalso; exact absurd c_2 (by decide))
  refine x_aload rfl d_X7_shape_33 ?_
  refine x_iload_n rfl d_X7_shape_35 ?_
  refine x_iload_n rfl d_X7_shape_36 ?_
  refine x_iload rfl d_X7_shape_37 ?_
  refine x_rdV d_X7_shape_39 lk_7_108 mo_X2_bearsShaping vi_X2_bearsShaping (sp_bearsT (cW_q C hp).1 hn20 h1p HD hpl (by omega) he he2 hz hz2 (by omega) (by omega) hs) (o2_o (cW_q C hp).1) ⟨_, rfl, rfl⟩ rfl ⟨Nat.le_of_ble_eq_true rfl, Nat.le_of_ble_eq_true rfl⟩ rfl rfl (Nat.le_of_ble_eq_true rfl) (Nat.le_of_ble_eq_true rfl) (Nat.le_of_ble_eq_true rfl) rfl ?_
  refine x_if_eqN (tgt := 57) d_X7_shape_42 (by decide) (by omega) (fun c_3 => by exfalso; omega) (fun c_3 => ?_)
  refine x_aload rfl d_X7_shape_45 ?_
  refine x_iload_n rfl d_X7_shape_47 ?_
  refine x_iload_n rfl d_X7_shape_48 ?_
  refine x_iload rfl d_X7_shape_49 ?_
  refine x_wvV d_X7_shape_51 lk_7_111 mo_X2_shapeRows vi_X2_shapeRows (sp_shapeRows h1p hn1 (by omega) he he2 hz hz2 (by omega) hpl hs (cW_wf C) (cW_q C hp)) (o2_o (cW_q C hp).1) ⟨_, rfl, rfl⟩ rfl ⟨Nat.le_of_ble_eq_true rfl, Nat.le_of_ble_eq_true rfl⟩ (Nat.le_of_ble_eq_true rfl) (Nat.le_of_ble_eq_true rfl) (Nat.le_of_ble_eq_true rfl) rfl (fun h3 hp0 e1 e2 => ?_)
  obtain ⟨G3, W3⟩ := hp0
  have CW := cW_p C hp G3.2.2.2.1 G3.1 G3.2.1 (by rw [G3.2.2.1]; exact Nat.le_add_right _ _) (fun q hq hn => G3.2.2.2.2 q hq (fun z => hn (by rcases z with z | z; exact Or.inl z; exact Or.inr ⟨_, hl, z⟩))) W3 (by rw [shP_5]; omega) (sh_ad (P p) h.2.2.1 n)
  refine x_goto (tgt := 58) d_X7_shape_54 (by decide) ?_
  exact x_ireturn d_X7_shape_58 rfl rfl G3.1 G3.2.1 (Nat.le_of_ble_eq_true rfl) (Nat.le_of_ble_eq_true rfl) (⟨rfl, CW⟩)
