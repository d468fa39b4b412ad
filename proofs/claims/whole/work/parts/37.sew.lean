/-! the loft: sewing -/
theorem apR_lo {R S : Nat → Nat → Nat → Nat} {m r : Nat} (h : r < m) : ∀ n, apR R S m n r = R r
  | 0 => rfl
  | n + 1 => by
    show uR (apR R S m n) (m + n) (rCp 6 (S n)) r = R r
    rw [uR_ne (by omega), apR_lo h n]
theorem apR_hi {R S : Nat → Nat → Nat → Nat} {m i : Nat} : ∀ n, i < n → apR R S m n (m + i) = rCp 6 (S i)
  | 0, h => absurd h (Nat.not_lt_zero i)
  | n + 1, h => by
    show uR (apR R S m n) (m + n) (rCp 6 (S n)) (m + i) = _
    by_cases e : i = n
    · rw [e, uR_eq]
    · rw [uR_ne (by omega), apR_hi n (by omega)]
theorem rCp_0 (D : Nat → Nat → Nat) : rCp 6 D 0 0 = D 0 0 := rfl
theorem pW_2 {X : Nat → Prop} {h h2 : nPH} {b j k : Nat} {P : Nat → Nat → Nat} {R : Nat → Nat → Nat → Nat} (W : pW h b P R) (hj : j < P 5 0) (hk : k < P 5 0) (F : nFr X h h2) (hX : ∀ q, X q → pS b P q → nIv (P 4 j) 7 q ∨ nIv (P 4 k) 7 q) {A B : Nat → Nat → Nat} (HA : o3 h2 (P 4 j) A) (HB : o3 h2 (P 4 k) B) (RA : rOK A) (RB : rOK B) : pW h2 b P (uR (uR R j A) k B) := by
  obtain ⟨w1, w2, w3, w4⟩ := W
  have hno : ∀ q, pS b P q → (∀ x, x = j ∨ x = k → ¬ nIv (P 4 x) 7 q) → ¬ X q := fun q hq hn z => by
    rcases hX q z hq with y | y
    · exact hn j (Or.inl rfl) y
    · exact hn k (Or.inr rfl) y
  refine ⟨o2_fr w1 F (fun q q1 q2 => hno q (Or.inl ⟨q1, q2⟩) (fun x hx => ?_)), w2, fun r hr => ?_, w4⟩
  · have hx2 : x < P 5 0 := by rcases hx with e | e <;> rw [e] <;> assumption
    exact ap_fr (S := fun _ => True) (w3 x hx2).2.2 q q1 q2
  · by_cases e : r = k
    · subst e
      rw [uR_eq]
      exact ⟨HB, RB, (w3 r hr).2.2⟩
    · rw [uR_ne e]
      by_cases e2 : r = j
      · subst e2
        rw [uR_eq]
        exact ⟨HA, RA, (w3 r hr).2.2⟩
      · rw [uR_ne e2]
        refine ⟨o3_fr (w3 r hr).1 F (fun q q1 q2 => hno q (Or.inr ⟨r, hr, q1, q2⟩) (fun x hx => ?_)), (w3 r hr).2⟩
        have hx2 : x < P 5 0 := by rcases hx with e | e <;> rw [e] <;> assumption
        have hne : r ≠ x := by rcases hx with y | y <;> rw [y] <;> assumption
        exact ap_fr (S := fun _ => True) (w4 r x hr hx2 hne) q q1 q2
theorem cF_kS {h h2 : nPH} {a : Nat} {V E Y T S : Nat → Nat → Nat} (H : cF h a V E Y T S) (hB : h2.2.1 = h.2.1) (hq : ∀ q, a ≤ q → q < a + 82 → ¬ nIv (a + 57) 2 q → nAt h2 q = nAt h q) {X : Nat → Nat → Nat} (HX : o4 h2 (a + 57) X) : cF h2 a V E Y T X := by
  obtain ⟨kV, kE, ⟨G, kG⟩, kY, kT, kS, L, kL⟩ := H
  exact ⟨o7_kept kV hB (fun q x y => hq q (by omega) (by omega) (fun z => by have z1 := z.1; have z2 := z.2; omega)), o0_kept kE hB (fun q x y => hq q (by omega) (by omega) (fun z => by have z1 := z.1; have z2 := z.2; omega)), ⟨G, o0_kept kG hB (fun q x y => hq q (by omega) (by omega) (fun z => by have z1 := z.1; have z2 := z.2; omega))⟩, o6_kept kY hB (fun q x y => hq q (by omega) (by omega) (fun z => by have z1 := z.1; have z2 := z.2; omega)), o5_kept kT hB (fun q x y => hq q (by omega) (by omega) (fun z => by have z1 := z.1; have z2 := z.2; omega)), HX, ⟨L, o1_kept kL hB (fun q x y => hq q (by omega) (by omega) (fun z => by have z1 := z.1; have z2 := z.2; omega))⟩⟩
theorem cl_sewP {h : nPH} {a b : Nat} {V : Nat → Nat → Nat} {P : Nat → Nat → Nat → Nat} {R : Nat → Nat → Nat → Nat → Nat} {E Y T S : Nat → Nat → Nat} (C : cW h a b V P R E Y T S) {p q : Int32} (hp : ¬ nIn p (V 1 0)) : nRd YX7_sew [.ref (a), .int (p), .int (q)] h (.int (-1)) := by
  have hn12 := cW_n C
  by_cases hq0 : nIn q (V 1 0)
  · obtain ⟨q, hq, rfl⟩ := nIn_of hq0 (by omega)
    refine nSp_of (by decide +kernel) rfl (Nat.le_of_ble_eq_true rfl) (ls := [some (.ref (a)), some (.int (p)), some (.int (nI (q))), none, none, none]) (by exact (And.intro rfl (And.intro rfl (And.intro rfl True.intro)))) ?_
    refine x_aload_n rfl d_X7_sew_0 ?_
    refine x_iload_n rfl d_X7_sew_1 ?_
    refine x_rdV d_X7_sew_2 lk_7_85 mo_X7_panelAt vi_X7_panelAt (sp_pAtN C.1.1 (cW_n C) hp) (o7_o C.1.1) ⟨_, rfl, rfl⟩ rfl ⟨Nat.le_of_ble_eq_true rfl, Nat.le_of_ble_eq_true rfl⟩ rfl rfl (Nat.zero_le _) (Nat.zero_le _) (Nat.le_of_ble_eq_true rfl) rfl ?_
    refine x_astore_nN d_X7_sew_5 (Nat.le_of_ble_eq_true rfl) ?_
    refine x_aload_n rfl d_X7_sew_6 ?_
    refine x_iload_n rfl d_X7_sew_7 ?_
    refine x_rdV d_X7_sew_8 lk_7_85 mo_X7_panelAt vi_X7_panelAt (sp_pAt C.1.1 (cW_n C) hq) (o7_o C.1.1) ⟨_, rfl, rfl⟩ rfl ⟨Nat.le_of_ble_eq_true rfl, Nat.le_of_ble_eq_true rfl⟩ rfl rfl (Nat.zero_le _) (Nat.zero_le _) (Nat.le_of_ble_eq_true rfl) rfl ?_
    refine x_astore d_X7_sew_11 (Nat.le_of_ble_eq_true rfl) ?_
    refine x_aload_nN rfl d_X7_sew_13 ?_
    refine x_ifnullN (tgt := 36) d_X7_sew_14 (by decide) ?_
    refine x_iconst (v := -1) (by decide) d_X7_sew_36 ?_
    exact x_ireturn d_X7_sew_37 rfl rfl rfl rfl (Nat.zero_le _) (Nat.zero_le _) (⟨rfl, rfl⟩)
  · have hq := hq0
    refine nSp_of (by decide +kernel) rfl (Nat.le_of_ble_eq_true rfl) (ls := [some (.ref (a)), some (.int (p)), some (.int (q)), none, none, none]) (by exact (And.intro rfl (And.intro rfl (And.intro rfl True.intro)))) ?_
    refine x_aload_n rfl d_X7_sew_0 ?_
    refine x_iload_n rfl d_X7_sew_1 ?_
    refine x_rdV d_X7_sew_2 lk_7_85 mo_X7_panelAt vi_X7_panelAt (sp_pAtN C.1.1 (cW_n C) hp) (o7_o C.1.1) ⟨_, rfl, rfl⟩ rfl ⟨Nat.le_of_ble_eq_true rfl, Nat.le_of_ble_eq_true rfl⟩ rfl rfl (Nat.zero_le _) (Nat.zero_le _) (Nat.le_of_ble_eq_true rfl) rfl ?_
    refine x_astore_nN d_X7_sew_5 (Nat.le_of_ble_eq_true rfl) ?_
    refine x_aload_n rfl d_X7_sew_6 ?_
    refine x_iload_n rfl d_X7_sew_7 ?_
    refine x_rdV d_X7_sew_8 lk_7_85 mo_X7_panelAt vi_X7_panelAt (sp_pAtN C.1.1 (cW_n C) hq) (o7_o C.1.1) ⟨_, rfl, rfl⟩ rfl ⟨Nat.le_of_ble_eq_true rfl, Nat.le_of_ble_eq_true rfl⟩ rfl rfl (Nat.zero_le _) (Nat.zero_le _) (Nat.le_of_ble_eq_true rfl) rfl ?_
    refine x_astoreN d_X7_sew_11 (Nat.le_of_ble_eq_true rfl) ?_
    refine x_aload_nN rfl d_X7_sew_13 ?_
    refine x_ifnullN (tgt := 36) d_X7_sew_14 (by decide) ?_
    refine x_iconst (v := -1) (by decide) d_X7_sew_36 ?_
    exact x_ireturn d_X7_sew_37 rfl rfl rfl rfl (Nat.zero_le _) (Nat.zero_le _) (⟨rfl, rfl⟩)
theorem cl_sewQ {h : nPH} {a b : Nat} {V : Nat → Nat → Nat} {P : Nat → Nat → Nat → Nat} {R : Nat → Nat → Nat → Nat → Nat} {E Y T S : Nat → Nat → Nat} (C : cW h a b V P R E Y T S) {p : Nat} (hp : p < V 1 0) {q : Int32} (hq : ¬ nIn q (V 1 0)) : nRd YX7_sew [.ref (a), .int (nI (p)), .int (q)] h (.int (-1)) := by
  have hn12 := cW_n C
  refine nSp_of (by decide +kernel) rfl (Nat.le_of_ble_eq_true rfl) (ls := [some (.ref (a)), some (.int (nI (p))), some (.int (q)), none, none, none]) (by exact (And.intro rfl (And.intro rfl (And.intro rfl True.intro)))) ?_
  refine x_aload_n rfl d_X7_sew_0 ?_
  refine x_iload_n rfl d_X7_sew_1 ?_
  refine x_rdV d_X7_sew_2 lk_7_85 mo_X7_panelAt vi_X7_panelAt (sp_pAt C.1.1 (cW_n C) hp) (o7_o C.1.1) ⟨_, rfl, rfl⟩ rfl ⟨Nat.le_of_ble_eq_true rfl, Nat.le_of_ble_eq_true rfl⟩ rfl rfl (Nat.zero_le _) (Nat.zero_le _) (Nat.le_of_ble_eq_true rfl) rfl ?_
  refine x_astore_n d_X7_sew_5 (Nat.le_of_ble_eq_true rfl) ?_
  refine x_aload_n rfl d_X7_sew_6 ?_
  refine x_iload_n rfl d_X7_sew_7 ?_
  refine x_rdV d_X7_sew_8 lk_7_85 mo_X7_panelAt vi_X7_panelAt (sp_pAtN C.1.1 (cW_n C) hq) (o7_o C.1.1) ⟨_, rfl, rfl⟩ rfl ⟨Nat.le_of_ble_eq_true rfl, Nat.le_of_ble_eq_true rfl⟩ rfl rfl (Nat.zero_le _) (Nat.zero_le _) (Nat.le_of_ble_eq_true rfl) rfl ?_
  refine x_astoreN d_X7_sew_11 (Nat.le_of_ble_eq_true rfl) ?_
  refine x_aload_n rfl d_X7_sew_13 ?_
  refine x_ifnull d_X7_sew_14 ?_
  refine x_aloadN rfl d_X7_sew_17 ?_
  refine x_ifnullN (tgt := 36) d_X7_sew_19 (by decide) ?_
  refine x_iconst (v := -1) (by decide) d_X7_sew_36 ?_
  exact x_ireturn d_X7_sew_37 rfl rfl rfl rfl (Nat.zero_le _) (Nat.zero_le _) (⟨rfl, rfl⟩)
theorem cl_sewE {h : nPH} {a b : Nat} {V : Nat → Nat → Nat} {P : Nat → Nat → Nat → Nat} {R : Nat → Nat → Nat → Nat → Nat} {E Y T S : Nat → Nat → Nat} (C : cW h a b V P R E Y T S) {p : Nat} (hp : p < V 1 0) {q : Nat} (hq : q < V 1 0) (he : p = q ∨ 12 ≤ V 1 0) : nRd YX7_sew [.ref (a), .int (nI (p)), .int (nI (q))] h (.int (-1)) := by
  have hn12 := cW_n C
  refine nSp_of (by decide +kernel) rfl (Nat.le_of_ble_eq_true rfl) (ls := [some (.ref (a)), some (.int (nI (p))), some (.int (nI (q))), none, none, none]) (by exact (And.intro rfl (And.intro rfl (And.intro rfl True.intro)))) ?_
  refine x_aload_n rfl d_X7_sew_0 ?_
  refine x_iload_n rfl d_X7_sew_1 ?_
  refine x_rdV d_X7_sew_2 lk_7_85 mo_X7_panelAt vi_X7_panelAt (sp_pAt C.1.1 (cW_n C) hp) (o7_o C.1.1) ⟨_, rfl, rfl⟩ rfl ⟨Nat.le_of_ble_eq_true rfl, Nat.le_of_ble_eq_true rfl⟩ rfl rfl (Nat.zero_le _) (Nat.zero_le _) (Nat.le_of_ble_eq_true rfl) rfl ?_
  refine x_astore_n d_X7_sew_5 (Nat.le_of_ble_eq_true rfl) ?_
  refine x_aload_n rfl d_X7_sew_6 ?_
  refine x_iload_n rfl d_X7_sew_7 ?_
  refine x_rdV d_X7_sew_8 lk_7_85 mo_X7_panelAt vi_X7_panelAt (sp_pAt C.1.1 (cW_n C) hq) (o7_o C.1.1) ⟨_, rfl, rfl⟩ rfl ⟨Nat.le_of_ble_eq_true rfl, Nat.le_of_ble_eq_true rfl⟩ rfl rfl (Nat.zero_le _) (Nat.zero_le _) (Nat.le_of_ble_eq_true rfl) rfl ?_
  refine x_astore d_X7_sew_11 (Nat.le_of_ble_eq_true rfl) ?_
  refine x_aload_n rfl d_X7_sew_13 ?_
  refine x_ifnull d_X7_sew_14 ?_
  refine x_aload rfl d_X7_sew_17 ?_
  refine x_ifnull d_X7_sew_19 ?_
  refine x_iload_n rfl d_X7_sew_22 ?_
  refine x_iload_n rfl d_X7_sew_23 ?_
  refine x_icmp_eqN (tgt := 36) d_X7_sew_24 (by decide) (by omega) (by omega) (fun c_1 => ?_) (fun c_1 => ?_)
  · refine x_iconst (v := -1) (by decide) d_X7_sew_36 ?_
    exact x_ireturn d_X7_sew_37 rfl rfl rfl rfl (Nat.zero_le _) (Nat.zero_le _) (⟨rfl, rfl⟩)
  · refine x_aload_n rfl d_X7_sew_27 ?_
    refine x_getf co_all (v := .int (nI (V 1 0))) d_X7_sew_28 fk_7_61 (o7_o C.1.1) rfl ?_
    refine x_bipush (v := nI 12) (by decide) d_X7_sew_31 ?_
    refine x_icmp_ltN (tgt := 38) d_X7_sew_33 (by decide) (by omega) (by omega) (fun c_2 => by exfalso; omega) (fun c_2 => ?_)
    refine x_iconst (v := -1) (by decide) d_X7_sew_36 ?_
    exact x_ireturn d_X7_sew_37 rfl rfl rfl rfl (Nat.zero_le _) (Nat.zero_le _) (⟨rfl, rfl⟩)
theorem cl_sewR {h : nPH} {a b : Nat} {V : Nat → Nat → Nat} {P : Nat → Nat → Nat → Nat} {R : Nat → Nat → Nat → Nat → Nat} {E Y T S : Nat → Nat → Nat} (C : cW h a b V P R E Y T S) {p : Nat} (hp : p < V 1 0) {q : Nat} (hq : q < V 1 0) (hne : p ≠ q) (hn : V 1 0 < 12) (h20 : 20 < P p 5 0 + P q 5 0) : nRd YX7_sew [.ref (a), .int (nI (p)), .int (nI (q))] h (.int (-1)) := by
  have hn12 := cW_n C
  have hn20 := (cW_q C hp).2.1
  have hq20 := (cW_q C hq).2.1
  have h1p := cW_1 C hp
  have h1q : 0 < P q 5 0 := cW_1 C hq
  have hl : P p 5 0 - 1 < P p 5 0 := by omega
  have hpl := ((cW_q C hp).2.2.1 _ hl).2.1.1
  have hql := ((cW_q C hq).2.2.1 0 h1q).2.1.1
  refine nSp_of (by decide +kernel) rfl (Nat.le_of_ble_eq_true rfl) (ls := [some (.ref (a)), some (.int (nI (p))), some (.int (nI (q))), none, none, none]) (by exact (And.intro rfl (And.intro rfl (And.intro rfl True.intro)))) ?_
  refine x_aload_n rfl d_X7_sew_0 ?_
  refine x_iload_n rfl d_X7_sew_1 ?_
  refine x_rdV d_X7_sew_2 lk_7_85 mo_X7_panelAt vi_X7_panelAt (sp_pAt C.1.1 (cW_n C) hp) (o7_o C.1.1) ⟨_, rfl, rfl⟩ rfl ⟨Nat.le_of_ble_eq_true rfl, Nat.le_of_ble_eq_true rfl⟩ rfl rfl (Nat.zero_le _) (Nat.zero_le _) (Nat.le_of_ble_eq_true rfl) rfl ?_
  refine x_astore_n d_X7_sew_5 (Nat.le_of_ble_eq_true rfl) ?_
  refine x_aload_n rfl d_X7_sew_6 ?_
  refine x_iload_n rfl d_X7_sew_7 ?_
  refine x_rdV d_X7_sew_8 lk_7_85 mo_X7_panelAt vi_X7_panelAt (sp_pAt C.1.1 (cW_n C) hq) (o7_o C.1.1) ⟨_, rfl, rfl⟩ rfl ⟨Nat.le_of_ble_eq_true rfl, Nat.le_of_ble_eq_true rfl⟩ rfl rfl (Nat.zero_le _) (Nat.zero_le _) (Nat.le_of_ble_eq_true rfl) rfl ?_
  refine x_astore d_X7_sew_11 (Nat.le_of_ble_eq_true rfl) ?_
  refine x_aload_n rfl d_X7_sew_13 ?_
  refine x_ifnull d_X7_sew_14 ?_
  refine x_aload rfl d_X7_sew_17 ?_
  refine x_ifnull d_X7_sew_19 ?_
  refine x_iload_n rfl d_X7_sew_22 ?_
  refine x_iload_n rfl d_X7_sew_23 ?_
  refine x_icmp_eqN (tgt := 36) d_X7_sew_24 (by decide) (by omega) (by omega) (fun c_1 => by exfalso; omega) (fun c_1 => ?_)
  refine x_aload_n rfl d_X7_sew_27 ?_
  refine x_getf co_all (v := .int (nI (V 1 0))) d_X7_sew_28 fk_7_61 (o7_o C.1.1) rfl ?_
  refine x_bipush (v := nI 12) (by decide) d_X7_sew_31 ?_
  refine x_icmp_ltN (tgt := 38) d_X7_sew_33 (by decide) (by omega) (by omega) (fun c_2 => ?_) (fun c_2 => by exfalso; omega)
  refine x_aload_n rfl d_X7_sew_38 ?_
  refine x_getf co_all (v := .int (nI ((P p) 5 0))) d_X7_sew_39 fk_7_162 (o2_o (cW_q C hp).1) rfl ?_
  refine x_aload rfl d_X7_sew_42 ?_
  refine x_getf co_all (v := .int (nI ((P q) 5 0))) d_X7_sew_44 fk_7_162 (o2_o (cW_q C hq).1) rfl ?_
  refine x_iaddN d_X7_sew_47 ?_
  refine x_bipush (v := nI 20) (by decide) d_X7_sew_48 ?_
  refine x_icmp_gtN (tgt := 69) d_X7_sew_50 (by decide) (by omega) (by omega) (fun c_3 => ?_) (fun c_3 => by exfalso; omega)
  refine x_iconst (v := -1) (by decide) d_X7_sew_69 ?_
  exact x_ireturn d_X7_sew_70 rfl rfl rfl rfl (Nat.zero_le _) (Nat.zero_le _) (⟨rfl, rfl⟩)
theorem cl_sewU {h : nPH} {a b : Nat} {V : Nat → Nat → Nat} {P : Nat → Nat → Nat → Nat} {R : Nat → Nat → Nat → Nat → Nat} {E Y T S : Nat → Nat → Nat} (C : cW h a b V P R E Y T S) {p : Nat} (hp : p < V 1 0) {q : Nat} (hq : q < V 1 0) (hne : p ≠ q) (hn : V 1 0 < 12) (h20 : P p 5 0 + P q 5 0 ≤ 20) (hu : ¬ fit (R p (P p 5 0 - 1) 0 0) (R q 0 0 0)) : nRd YX7_sew [.ref (a), .int (nI (p)), .int (nI (q))] h (.int (-1)) := by
  have hn12 := cW_n C
  have hn20 := (cW_q C hp).2.1
  have hq20 := (cW_q C hq).2.1
  have h1p := cW_1 C hp
  have h1q : 0 < P q 5 0 := cW_1 C hq
  have hl : P p 5 0 - 1 < P p 5 0 := by omega
  have hpl := ((cW_q C hp).2.2.1 _ hl).2.1.1
  have hql := ((cW_q C hq).2.2.1 0 h1q).2.1.1
  refine nSp_of (by decide +kernel) rfl (Nat.le_of_ble_eq_true rfl) (ls := [some (.ref (a)), some (.int (nI (p))), some (.int (nI (q))), none, none, none]) (by exact (And.intro rfl (And.intro rfl (And.intro rfl True.intro)))) ?_
  refine x_aload_n rfl d_X7_sew_0 ?_
  refine x_iload_n rfl d_X7_sew_1 ?_
  refine x_rdV d_X7_sew_2 lk_7_85 mo_X7_panelAt vi_X7_panelAt (sp_pAt C.1.1 (cW_n C) hp) (o7_o C.1.1) ⟨_, rfl, rfl⟩ rfl ⟨Nat.le_of_ble_eq_true rfl, Nat.le_of_ble_eq_true rfl⟩ rfl rfl (Nat.zero_le _) (Nat.zero_le _) (Nat.le_of_ble_eq_true rfl) rfl ?_
  refine x_astore_n d_X7_sew_5 (Nat.le_of_ble_eq_true rfl) ?_
  refine x_aload_n rfl d_X7_sew_6 ?_
  refine x_iload_n rfl d_X7_sew_7 ?_
  refine x_rdV d_X7_sew_8 lk_7_85 mo_X7_panelAt vi_X7_panelAt (sp_pAt C.1.1 (cW_n C) hq) (o7_o C.1.1) ⟨_, rfl, rfl⟩ rfl ⟨Nat.le_of_ble_eq_true rfl, Nat.le_of_ble_eq_true rfl⟩ rfl rfl (Nat.zero_le _) (Nat.zero_le _) (Nat.le_of_ble_eq_true rfl) rfl ?_
  refine x_astore d_X7_sew_11 (Nat.le_of_ble_eq_true rfl) ?_
  refine x_aload_n rfl d_X7_sew_13 ?_
  refine x_ifnull d_X7_sew_14 ?_
  refine x_aload rfl d_X7_sew_17 ?_
  refine x_ifnull d_X7_sew_19 ?_
  refine x_iload_n rfl d_X7_sew_22 ?_
  refine x_iload_n rfl d_X7_sew_23 ?_
  refine x_icmp_eqN (tgt := 36) d_X7_sew_24 (by decide) (by omega) (by omega) (fun c_1 => by exfalso; omega) (fun c_1 => ?_)
  refine x_aload_n rfl d_X7_sew_27 ?_
  refine x_getf co_all (v := .int (nI (V 1 0))) d_X7_sew_28 fk_7_61 (o7_o C.1.1) rfl ?_
  refine x_bipush (v := nI 12) (by decide) d_X7_sew_31 ?_
  refine x_icmp_ltN (tgt := 38) d_X7_sew_33 (by decide) (by omega) (by omega) (fun c_2 => ?_) (fun c_2 => by exfalso; omega)
  refine x_aload_n rfl d_X7_sew_38 ?_
  refine x_getf co_all (v := .int (nI ((P p) 5 0))) d_X7_sew_39 fk_7_162 (o2_o (cW_q C hp).1) rfl ?_
  refine x_aload rfl d_X7_sew_42 ?_
  refine x_getf co_all (v := .int (nI ((P q) 5 0))) d_X7_sew_44 fk_7_162 (o2_o (cW_q C hq).1) rfl ?_
  refine x_iaddN d_X7_sew_47 ?_
  refine x_bipush (v := nI 20) (by decide) d_X7_sew_48 ?_
  refine x_icmp_gtN (tgt := 69) d_X7_sew_50 (by decide) (by omega) (by omega) (fun c_3 => by exfalso; omega) (fun c_3 => ?_)
  refine x_aload_n rfl d_X7_sew_53 ?_
  refine x_rdV d_X7_sew_54 lk_7_93 mo_X2_lastRow vi_X2_lastRow (sp_lastRow (cW_q C hp).1 hn20 h1p) (o2_o (cW_q C hp).1) ⟨_, rfl, rfl⟩ rfl ⟨Nat.le_of_ble_eq_true rfl, Nat.le_of_ble_eq_true rfl⟩ rfl rfl (Nat.zero_le _) (Nat.zero_le _) (Nat.le_of_ble_eq_true rfl) rfl ?_
  refine x_aload rfl d_X7_sew_57 ?_
  refine x_iconst (v := nI 0) (by decide) d_X7_sew_59 ?_
  refine x_rdV d_X7_sew_60 lk_7_123 mo_X2_rowAt vi_X2_rowAt (sp_rowAt (cW_q C hq).1 hq20 h1q) (o2_o (cW_q C hq).1) ⟨_, rfl, rfl⟩ rfl ⟨Nat.le_of_ble_eq_true rfl, Nat.le_of_ble_eq_true rfl⟩ rfl rfl (Nat.zero_le _) (Nat.zero_le _) (Nat.le_of_ble_eq_true rfl) rfl ?_
  refine x_rdS d_X7_sew_63 lk_7_223 mo_X7_fitTogether sc_X7_fitTogether (sp_fit ((cW_q C hp).2.2.1 _ hl).1 ((cW_q C hq).2.2.1 0 h1q).1 hpl hql) rfl ⟨Nat.le_of_ble_eq_true rfl, Nat.le_of_ble_eq_true rfl⟩ rfl rfl (Nat.zero_le _) (Nat.zero_le _) (Nat.le_of_ble_eq_true rfl) rfl ?_
  rw [nBf_0.mpr hu]
  refine x_if_neN (tgt := 71) d_X7_sew_66 (by decide) (by omega) (fun c_4 => by exfalso; exact c_4 rfl) (fun c_4 => ?_)
  refine x_iconst (v := -1) (by decide) d_X7_sew_69 ?_
  exact x_ireturn d_X7_sew_70 rfl rfl rfl rfl (Nat.zero_le _) (Nat.zero_le _) (⟨rfl, rfl⟩)
def sQ0 (P : Nat → Nat → Nat) : Nat → Nat → Nat := u2 (u2 (pNew (P 0 0) (P 1 0)) 2 0 (P 2 0)) 3 0 (P 3 0)
def sQ (P Q : Nat → Nat → Nat) (z : Nat) : Nat → Nat → Nat := shP (shP (sQ0 P) (z + 3) (P 5 0)) (z + 3 + 7 * P 5 0) (Q 5 0)
def sR0 (R S : Nat → Nat → Nat → Nat) (n m : Nat) : Nat → Nat → Nat → Nat := apR (apR (fun _ _ _ => 0) R 0 n) S n m
def sR (R S : Nat → Nat → Nat → Nat) (n m : Nat) : Nat → Nat → Nat → Nat := uR (uR (sR0 R S n m) (n - 1) (rJn (S 0 0 0) (rCp 6 (R (n - 1))))) n (rHG (rJn (S 0 0 0) (rCp 6 (R (n - 1)))) (S 0 0 0) (rCp 6 (S 0)))
theorem sQ1_5 (P : Nat → Nat → Nat) (z : Nat) : shP (sQ0 P) (z + 3) (P 5 0) 5 0 = P 5 0 := (shP_5 _ _ _).trans (Nat.zero_add _)
theorem sQ_5 (P Q : Nat → Nat → Nat) (z : Nat) : sQ P Q z 5 0 = P 5 0 + Q 5 0 := by
  unfold sQ
  rw [shP_5, sQ1_5]
theorem sQ_4 (P Q : Nat → Nat → Nat) (z : Nat) : ∀ r, r < P 5 0 + Q 5 0 → sQ P Q z 4 r = z + 3 + 7 * r := fun r hr => by
  unfold sQ
  have h1 := shP_4 (shP (sQ0 P) (z + 3) (P 5 0)) (z + 3 + 7 * P 5 0) (r := r) (Q 5 0)
  rw [sQ1_5] at h1
  have h2 := shP_4 (sQ0 P) (z + 3) (r := r) (P 5 0)
  have e0 : sQ0 P 5 0 = 0 := rfl
  rw [e0] at h2
  rcases Nat.lt_or_ge r (P 5 0) with e | e
  · rw [h1.1 e, h2.2 (Nat.zero_le _) (by omega)]
    omega
  · rw [h1.2 e hr]
    omega
theorem sR0_p {R S : Nat → Nat → Nat → Nat} {n m r : Nat} (h : r < n) : sR0 R S n m r = rCp 6 (R r) := by
  unfold sR0
  rw [apR_lo h]
  have := apR_hi (R := fun _ _ _ => 0) (S := R) (m := 0) n h
  rw [Nat.zero_add] at this
  exact this
theorem sR0_q {R S : Nat → Nat → Nat → Nat} {n m r : Nat} (h : r < m) : sR0 R S n m (n + r) = rCp 6 (S r) := apR_hi m h
theorem cl_sew {h : nPH} {a b : Nat} {V : Nat → Nat → Nat} {P : Nat → Nat → Nat → Nat} {R : Nat → Nat → Nat → Nat → Nat} {E Y T S : Nat → Nat → Nat} (C : cW h a b V P R E Y T S) {p : Nat} (hp : p < V 1 0) {q : Nat} (hq : q < V 1 0) (hne : p ≠ q) (hn : V 1 0 < 12) (h20 : P p 5 0 + P q 5 0 ≤ 20) (hu : fit (R p (P p 5 0 - 1) 0 0) (R q 0 0 0)) : nWv YX7_sew [.ref (a), .int (nI (p)), .int (nI (q))] h (some (.int (nI (V 1 0)))) (fun h2 => kB b h h2 ∧ cW h2 a b (vAp V h.2.2.1) (uP P (V 1 0) (sQ (P p) (P q) h.2.2.1)) (uP R (V 1 0) (sR (R p) (R q) (P p 5 0) (P q 5 0))) E Y T (sJn (R p (P p 5 0 - 1) 0 0) (R q 0 0 0) S)) := by
  have hn12 := cW_n C
  have hn20 := (cW_q C hp).2.1
  have hq20 := (cW_q C hq).2.1
  have h1p := cW_1 C hp
  have h1q : 0 < P q 5 0 := cW_1 C hq
  have hl : P p 5 0 - 1 < P p 5 0 := by omega
  have hpl := ((cW_q C hp).2.2.1 _ hl).2.1.1
  have hql := ((cW_q C hq).2.2.1 0 h1q).2.1.1
  have hw := cW_wf C
  have hl1 := cF_lt C.1 hw
  have hfT : nBf (R p (P p 5 0 - 1) 0 0) (R q 0 0 0) = 1 := if_pos hu
  have keep : ∀ (hx : nPH), hx.2.1 = h.2.1 → (∀ x, x < h.2.2.1 → nAt hx x = nAt h x) → ∀ y, y < V 1 0 → pW hx (V 0 y) (P y) (R y) := fun hx e1 e2 y hy => pW_kept (cW_q C hy) e1 (fun x hx => e2 x (pW_lt (cW_q C hy) hw hx))
  have hap3 := o2_lt (cW_q C hp).1 hw
  have haq3 := o2_lt (cW_q C hq).1 hw
  have hap7 := fun r hr => o3_lt ((cW_q C hp).2.2.1 r hr).1 hw
  have haq7 := fun r hr => o3_lt ((cW_q C hq).2.2.1 r hr).1 hw
  generalize hzz : h.2.2.1 = z at keep hap3 haq3 hap7 haq7 hl1 ⊢
  refine nSp_of (by decide +kernel) rfl (Nat.le_of_ble_eq_true rfl) (ls := [some (.ref (a)), some (.int (nI (p))), some (.int (nI (q))), none, none, none]) (by exact (And.intro rfl (And.intro rfl (And.intro rfl True.intro)))) ?_
  refine x_aload_n rfl d_X7_sew_0 ?_
  refine x_iload_n rfl d_X7_sew_1 ?_
  refine x_rdV d_X7_sew_2 lk_7_85 mo_X7_panelAt vi_X7_panelAt (sp_pAt C.1.1 (cW_n C) hp) (o7_o C.1.1) ⟨_, rfl, rfl⟩ rfl ⟨Nat.le_of_ble_eq_true rfl, Nat.le_of_ble_eq_true rfl⟩ rfl rfl (Nat.zero_le _) (Nat.zero_le _) (Nat.le_of_ble_eq_true rfl) rfl ?_
  refine x_astore_n d_X7_sew_5 (Nat.le_of_ble_eq_true rfl) ?_
  refine x_aload_n rfl d_X7_sew_6 ?_
  refine x_iload_n rfl d_X7_sew_7 ?_
  refine x_rdV d_X7_sew_8 lk_7_85 mo_X7_panelAt vi_X7_panelAt (sp_pAt C.1.1 (cW_n C) hq) (o7_o C.1.1) ⟨_, rfl, rfl⟩ rfl ⟨Nat.le_of_ble_eq_true rfl, Nat.le_of_ble_eq_true rfl⟩ rfl rfl (Nat.zero_le _) (Nat.zero_le _) (Nat.le_of_ble_eq_true rfl) rfl ?_
  refine x_astore d_X7_sew_11 (Nat.le_of_ble_eq_true rfl) ?_
  refine x_aload_n rfl d_X7_sew_13 ?_
  refine x_ifnull d_X7_sew_14 ?_
  refine x_aload rfl d_X7_sew_17 ?_
  refine x_ifnull d_X7_sew_19 ?_
  refine x_iload_n rfl d_X7_sew_22 ?_
  refine x_iload_n rfl d_X7_sew_23 ?_
  refine x_icmp_eqN (tgt := 36) d_X7_sew_24 (by decide) (by omega) (by omega) (fun c_1 => by exfalso; omega) (fun c_1 => ?_)
  refine x_aload_n rfl d_X7_sew_27 ?_
  refine x_getf co_all (v := .int (nI (V 1 0))) d_X7_sew_28 fk_7_61 (o7_o C.1.1) rfl ?_
  refine x_bipush (v := nI 12) (by decide) d_X7_sew_31 ?_
  refine x_icmp_ltN (tgt := 38) d_X7_sew_33 (by decide) (by omega) (by omega) (fun c_2 => ?_) (fun c_2 => by exfalso; omega)
  refine x_aload_n rfl d_X7_sew_38 ?_
  refine x_getf co_all (v := .int (nI ((P p) 5 0))) d_X7_sew_39 fk_7_162 (o2_o (cW_q C hp).1) rfl ?_
  refine x_aload rfl d_X7_sew_42 ?_
  refine x_getf co_all (v := .int (nI ((P q) 5 0))) d_X7_sew_44 fk_7_162 (o2_o (cW_q C hq).1) rfl ?_
  refine x_iaddN d_X7_sew_47 ?_
  refine x_bipush (v := nI 20) (by decide) d_X7_sew_48 ?_
  refine x_icmp_gtN (tgt := 69) d_X7_sew_50 (by decide) (by omega) (by omega) (fun c_3 => by exfalso; omega) (fun c_3 => ?_)
  refine x_aload_n rfl d_X7_sew_53 ?_
  refine x_rdV d_X7_sew_54 lk_7_93 mo_X2_lastRow vi_X2_lastRow (sp_lastRow (cW_q C hp).1 hn20 h1p) (o2_o (cW_q C hp).1) ⟨_, rfl, rfl⟩ rfl ⟨Nat.le_of_ble_eq_true rfl, Nat.le_of_ble_eq_true rfl⟩ rfl rfl (Nat.zero_le _) (Nat.zero_le _) (Nat.le_of_ble_eq_true rfl) rfl ?_
  refine x_aload rfl d_X7_sew_57 ?_
  refine x_iconst (v := nI 0) (by decide) d_X7_sew_59 ?_
  refine x_rdV d_X7_sew_60 lk_7_123 mo_X2_rowAt vi_X2_rowAt (sp_rowAt (cW_q C hq).1 hq20 h1q) (o2_o (cW_q C hq).1) ⟨_, rfl, rfl⟩ rfl ⟨Nat.le_of_ble_eq_true rfl, Nat.le_of_ble_eq_true rfl⟩ rfl rfl (Nat.zero_le _) (Nat.zero_le _) (Nat.le_of_ble_eq_true rfl) rfl ?_
  refine x_rdS d_X7_sew_63 lk_7_223 mo_X7_fitTogether sc_X7_fitTogether (sp_fit ((cW_q C hp).2.2.1 _ hl).1 ((cW_q C hq).2.2.1 0 h1q).1 hpl hql) rfl ⟨Nat.le_of_ble_eq_true rfl, Nat.le_of_ble_eq_true rfl⟩ rfl rfl (Nat.zero_le _) (Nat.zero_le _) (Nat.le_of_ble_eq_true rfl) rfl ?_
  rw [hfT]
  refine x_if_neN (tgt := 71) d_X7_sew_66 (by decide) (by omega) (fun c_4 => ?_) (fun c_4 => by exfalso; exact absurd c_4 (by decide))
  refine x_new co_all d_X7_sew_71 nn_7_9 df_2 (Nat.le_of_ble_eq_true rfl) (Nat.le_of_ble_eq_true rfl) ?_
  have B0 := nBld_new hw 2 [.int 0, .int 0, .int 0, .int 0, .null, .int 0, .null]
  have W1p := keep _ (show (nNw h (nOb 2 [.int 0, .int 0, .int 0, .int 0, .null, .int 0, .null])).2.1 = h.2.1 from rfl) (fun x hx => nAt_nn (by omega)) p hp
  rw [hzz] at B0 ⊢
  refine x_dup rfl d_X7_sew_74 ?_
  refine x_aload_n rfl d_X7_sew_75 ?_
  refine x_getf co_all (v := .int (nI (P p 0 0))) d_X7_sew_76 fk_7_165 (o2_o W1p.1) rfl ?_
  refine x_aload_n rfl d_X7_sew_79 ?_
  refine x_getf co_all (v := .int (nI (P p 1 0))) d_X7_sew_80 fk_7_168 (o2_o W1p.1) rfl ?_
  refine x_wvI d_X7_sew_83 lk_7_69 mo_X2_init ii_X2_init rfl (sp_panInit B0) rfl ⟨Nat.le_of_ble_eq_true rfl, Nat.le_of_ble_eq_true rfl⟩ (Nat.le_of_ble_eq_true rfl) (Nat.le_of_ble_eq_true rfl) (Nat.le_of_ble_eq_true rfl) rfl (fun h2 hp0 e1 e2 => ?_)
  obtain ⟨M, HP⟩ := hp0
  rw [← hzz] at M
  have M := nMk_new M
  have hw2 := M.2.2.2.2
  have hz2 : h2.2.2.1 = z + 3 := by rw [M.2.2.1, hzz]
  have K2 : ∀ x, x < z → nAt h2 x = nAt h x := fun x hx => M.2.2.2.1 x (by omega)
  have W2p := keep h2 M.2.1 K2 p hp
  refine x_astore d_X7_sew_86 (Nat.le_of_ble_eq_true rfl) ?_
  refine x_aload rfl d_X7_sew_88 ?_
  refine x_aload_n rfl d_X7_sew_90 ?_
  refine x_getf co_all (v := .int (nI (P p 2 0))) d_X7_sew_91 fk_7_171 (o2_o W2p.1) rfl ?_
  refine x_putf co_all d_X7_sew_94 fk_7_171 ft_2_2 (o2_o HP) (Nat.le_of_ble_eq_true rfl) rfl rfl (o2_B HP) ?_
  have Ha := o2_put2 (P p 2 0) HP
  have Fa := o2_g2 (P p 2 0) HP (nFr.rf (S := nIv z 3) (h := h2)) (show nIv z 3 z from ⟨by omega, by omega⟩)
  have Wap := keep _ (Fa.2.1.trans M.2.1) (fun x hx => (Fa.2.2.2.2 x (fun y => by have := y.1; omega)).trans (K2 x hx)) p hp
  refine x_aload rfl d_X7_sew_97 ?_
  refine x_aload_n rfl d_X7_sew_99 ?_
  refine x_getf co_all (v := .int (nI (P p 3 0))) d_X7_sew_100 fk_7_174 (o2_o Wap.1) rfl ?_
  refine x_putf co_all d_X7_sew_103 fk_7_174 ft_2_3 (o2_o Ha) (Nat.le_of_ble_eq_true rfl) rfl rfl (o2_B Ha) ?_
  have Hb := o2_put3 (P p 3 0) Ha
  have Fb := o2_g3 (P p 3 0) Ha Fa (show nIv z 3 z from ⟨by omega, by omega⟩)
  revert Hb Fb
  generalize (nSt (nSt h2 z (nOb 2 _)) z (nOb 2 _)) = hb
  intro Hb Fb
  have Kb : ∀ x, x < z → nAt hb x = nAt h x := fun x hx => (Fb.2.2.2.2 x (fun y => by have := y.1; omega)).trans (K2 x hx)
  have eBb := Fb.2.1.trans M.2.1
  have hzb : hb.2.2.1 = z + 3 := Fb.2.2.1.trans hz2
  have hwb := Fb.2.2.2.1 hw2
  have Wb : pW hb z (sQ0 (P p)) (fun _ _ _ => 0) := ⟨Hb, by show 0 ≤ 20; omega, fun r hr => absurd hr (Nat.not_lt_zero r), fun r r2 hr => absurd hr (Nat.not_lt_zero r)⟩
  have Wbp := keep hb eBb Kb p hp
  refine x_aload rfl d_X7_sew_106 ?_
  refine x_aload_n rfl d_X7_sew_108 ?_
  refine x_wvV d_X7_sew_109 lk_7_227 mo_X2_appendCopies vi_X2_appendCopies (sp_appC (by show 0 + P p 5 0 ≤ 20; omega) (Or.inl (by omega)) (fun r hr => Or.inl (by have := hap7 r hr; omega)) hwb Wb Wbp) (o2_o Hb) ⟨_, rfl, rfl⟩ rfl ⟨Nat.le_of_ble_eq_true rfl, Nat.le_of_ble_eq_true rfl⟩ (Nat.le_of_ble_eq_true rfl) (Nat.le_of_ble_eq_true rfl) (Nat.le_of_ble_eq_true rfl) rfl (fun h4 hp4 e4 f4 => ?_)
  obtain ⟨G4, W4⟩ := hp4
  rw [hzb] at W4
  have W4 : pW h4 z (shP (sQ0 (P p)) (z + 3) (P p 5 0)) (apR (fun _ _ _ => 0) (R p) 0 (P p 5 0)) := W4
  have K4 : ∀ x, x < z → nAt h4 x = nAt h x := fun x hx => (G4.2.2.2.2 x (by omega) (fun y => by have := y.1; omega)).trans (Kb x hx)
  have eB4 := G4.2.1.trans eBb
  have hz4 : h4.2.2.1 = z + 3 + 7 * P p 5 0 := by rw [G4.2.2.1, hzb]
  have W4q := keep h4 eB4 K4 q hq
  have e15 := sQ1_5 (P p) z
  refine x_aload rfl d_X7_sew_112 ?_
  refine x_aload rfl d_X7_sew_114 ?_
  refine x_wvV d_X7_sew_116 lk_7_227 mo_X2_appendCopies vi_X2_appendCopies (sp_appC (by rw [e15]; exact h20) (Or.inl (by omega)) (fun r hr => Or.inl (by have := haq7 r hr; omega)) G4.2.2.2.1 W4 W4q) (o2_o W4.1) ⟨_, rfl, rfl⟩ rfl ⟨Nat.le_of_ble_eq_true rfl, Nat.le_of_ble_eq_true rfl⟩ (Nat.le_of_ble_eq_true rfl) (Nat.le_of_ble_eq_true rfl) (Nat.le_of_ble_eq_true rfl) rfl (fun h5 hp5 e5 f5 => ?_)
  obtain ⟨G5, W5⟩ := hp5
  rw [hz4, e15] at W5
  have W5 : pW h5 z (sQ (P p) (P q) z) (sR0 (R p) (R q) (P p 5 0) (P q 5 0)) := W5
  have K5 : ∀ x, x < z → nAt h5 x = nAt h x := fun x hx => (G5.2.2.2.2 x (by omega) (fun y => by have := y.1; omega)).trans (K4 x hx)
  have eB5 := G5.2.1.trans eB4
  have W5p := keep h5 eB5 K5 p hp
  have CF5 : cF h5 a V E Y T S := cF_kept C.1 eB5 (fun x x1 x2 => K5 x (by omega))
  have s5 := sQ_5 (P p) (P q) z
  have s4 := sQ_4 (P p) (P q) z
  refine x_aload_n rfl d_X7_sew_119 ?_
  refine x_getf co_all (v := .ref (a + 57)) d_X7_sew_120 fk_7_50 (o7_o CF5.1) rfl ?_
  refine x_aload rfl d_X7_sew_123 ?_
  refine x_aload_n rfl d_X7_sew_125 ?_
  refine x_getf co_all (v := .int (nI (P p 5 0))) d_X7_sew_126 fk_7_162 (o2_o W5p.1) rfl ?_
  refine x_iconst (v := nI 1) (by decide) d_X7_sew_129 ?_
  refine x_isubN d_X7_sew_130 (by omega) ?_
  refine x_wvV d_X7_sew_131 lk_7_123 mo_X2_rowAt vi_X2_rowAt (sp_rowAt W5.1 W5.2.1 (j := P p 5 0 - 1) (by omega)) (o2_o W5.1) ⟨_, rfl, rfl⟩ rfl ⟨Nat.le_of_ble_eq_true rfl, Nat.le_of_ble_eq_true rfl⟩ (Nat.le_of_ble_eq_true rfl) (Nat.le_of_ble_eq_true rfl) (Nat.le_of_ble_eq_true rfl) rfl (fun hy hpy _ _ => ?_)
  subst hpy
  refine x_aload rfl d_X7_sew_134 ?_
  refine x_aload_n rfl d_X7_sew_136 ?_
  refine x_getf co_all (v := .int (nI (P p 5 0))) d_X7_sew_137 fk_7_162 (o2_o W5p.1) rfl ?_
  refine x_wvV d_X7_sew_140 lk_7_123 mo_X2_rowAt vi_X2_rowAt (sp_rowAt W5.1 W5.2.1 (j := P p 5 0) (by omega)) (o2_o W5.1) ⟨_, rfl, rfl⟩ rfl ⟨Nat.le_of_ble_eq_true rfl, Nat.le_of_ble_eq_true rfl⟩ (Nat.le_of_ble_eq_true rfl) (Nat.le_of_ble_eq_true rfl) (Nat.le_of_ble_eq_true rfl) rfl (fun hy hpy _ _ => ?_)
  subst hpy
  have HD := W5.2.2.1 (P p 5 0 - 1) (by omega)
  have HE := W5.2.2.1 (P p 5 0) (by omega)
  have eD : sR0 (R p) (R q) (P p 5 0) (P q 5 0) (P p 5 0 - 1) = rCp 6 (R p (P p 5 0 - 1)) := sR0_p (by omega)
  have eE : sR0 (R p) (R q) (P p 5 0) (P q 5 0) (P p 5 0) = rCp 6 (R q 0) := sR0_q (r := 0) h1q
  rw [eD] at HD
  rw [eE] at HE
  have s4a := s4 (P p 5 0 - 1) (by omega)
  have s4b := s4 (P p 5 0) (by omega)
  unfold fit at hu
  refine x_wvV d_X7_sew_143 lk_7_231 mo_X4_join vi_X4_join (sp_join CF5.2.2.2.2.2.1 HD.1 HE.1 HD.2.1 HE.2.1 (by rw [rCp_0]; omega) (by rw [rCp_0]; omega) (Or.inl (by omega)) (Or.inl (by omega)) (Or.inl (by omega)) (by rw [rCp_0, rCp_0]; omega)) (o4_o CF5.2.2.2.2.2.1) ⟨_, rfl, rfl⟩ rfl ⟨Nat.le_of_ble_eq_true rfl, Nat.le_of_ble_eq_true rfl⟩ (Nat.le_of_ble_eq_true rfl) (Nat.le_of_ble_eq_true rfl) (Nat.le_of_ble_eq_true rfl) rfl (fun h6 hp6 e6 f6 => ?_)
  obtain ⟨F6, HS6, HD6, HE6⟩ := hp6
  rw [rCp_0] at HD6 HE6
  rw [rCp_0, rCp_0] at HS6
  have W6 : pW h6 z (sQ (P p) (P q) z) (sR (R p) (R q) (P p 5 0) (P q 5 0)) := pW_2 W5 (by omega) (by omega) F6 (fun x y g => by
    rcases y with y | y | y
    · have := y.2
      rcases g with g | ⟨r, hr, g⟩
      · have := g.1; omega
      · have := g.1
        rw [s4 r (by omega)] at this; omega
    · exact Or.inl y
    · exact Or.inr y) HD6 HE6 (rOK_Jn HD.2.1 (by rw [rCp_0]; omega) (by rw [rCp_0]; omega)) (rOK_HG (rOK_Jn HD.2.1 (by rw [rCp_0]; omega) (by rw [rCp_0]; omega)) HE.2.1 (by rw [rJn_0, rCp_0]; omega))
  have CF6 : cF h6 a V E Y T (sJn (R p (P p 5 0 - 1) 0 0) (R q 0 0 0) S) := cF_kS CF5 F6.2.1 (fun x x1 x2 x3 => F6.2.2.2.2 x (fun y => by rcases y with y | y | y; exact x3 y; (have := y.1; omega); (have := y.1; omega))) HS6
  have K6 : ∀ x, x < z → ¬ nIv (a + 57) 2 x → nAt h6 x = nAt h x := fun x hx hn9 => (F6.2.2.2.2 x (fun y => by rcases y with y | y | y; exact hn9 y; (have := y.1; omega); (have := y.1; omega))).trans (K5 x hx)
  refine x_aload_n rfl d_X7_sew_146 ?_
  refine x_aload rfl d_X7_sew_147 ?_
  refine x_wvV d_X7_sew_149 lk_7_81 mo_X7_keep vi_X7_keep (sp_keep CF6.1 hn W6.1) (o7_o CF6.1) ⟨_, rfl, rfl⟩ rfl ⟨Nat.le_of_ble_eq_true rfl, Nat.le_of_ble_eq_true rfl⟩ (Nat.le_of_ble_eq_true rfl) (Nat.le_of_ble_eq_true rfl) (Nat.le_of_ble_eq_true rfl) rfl (fun h7 hp7 e7 f7 => ?_)
  obtain ⟨F7, H7⟩ := hp7
  have hz7 : h7.2.2.1 = z + 3 + 7 * P p 5 0 + 7 * P q 5 0 := by rw [F7.2.2.1, F6.2.2.1, G5.2.2.1, hz4]
  refine x_ireturn d_X7_sew_152 rfl rfl (by rw [F7.1, F6.1, G5.1, G4.1, Fb.1, M.1]) (by rw [F7.2.1, F6.2.1, eB5]) (Nat.le_of_ble_eq_true rfl) (Nat.le_of_ble_eq_true rfl) ⟨rfl, ?_⟩
  refine cW_n2 C hn (F7.2.2.2.1 (F6.2.2.2.1 G5.2.2.2.1)) (by rw [F7.1, F6.1, G5.1, G4.1, Fb.1, M.1]) (by rw [F7.2.1, F6.2.1, eB5]) (by omega) (fun x x1 x2 => (F7.2.2.2.2 x (fun y => x2 (nFr_up (Nat.le_refl _) (by omega) x y))).trans (K6 x (by omega) (fun y => x2 (nFr_up (by omega) (by omega) x y)))) (cF_V CF6 F7 H7) (pW_fr W6 F7 (fun x g1 g2 g3 => by have := g3.2; omega) (fun r hr x g1 g2 g3 => by rw [s5] at hr; rw [s4 r hr] at g1; have := g3.2; omega)) (by omega) (by omega) (fun r hr => by rw [s5] at hr; rw [s4 r hr]; omega)
