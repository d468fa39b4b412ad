/-! the loft: what it changes -/
theorem cF_V {h h2 : nPH} {a : Nat} {V E Y T S : Nat → Nat → Nat} (H : cF h a V E Y T S) (F : nFr (nIv a 3) h h2) {X : Nat → Nat → Nat} (HX : o7 h2 a X) : cF h2 a X E Y T S := by
  obtain ⟨kV, kE, ⟨G, kG⟩, kY, kT, kS, L, kL⟩ := H
  exact ⟨HX, o0_kept kE F.2.1 (fun q x y => F.2.2.2.2 q (fun z => by have z1 := z.1; have z2 := z.2; omega)), ⟨G, o0_kept kG F.2.1 (fun q x y => F.2.2.2.2 q (fun z => by have z1 := z.1; have z2 := z.2; omega))⟩, o6_kept kY F.2.1 (fun q x y => F.2.2.2.2 q (fun z => by have z1 := z.1; have z2 := z.2; omega)), o5_kept kT F.2.1 (fun q x y => F.2.2.2.2 q (fun z => by have z1 := z.1; have z2 := z.2; omega)), o4_kept kS F.2.1 (fun q x y => F.2.2.2.2 q (fun z => by have z1 := z.1; have z2 := z.2; omega)), ⟨L, o1_kept kL F.2.1 (fun q x y => F.2.2.2.2 q (fun z => by have z1 := z.1; have z2 := z.2; omega))⟩⟩
theorem cF_E {h h2 : nPH} {a : Nat} {V E Y T S : Nat → Nat → Nat} (H : cF h a V E Y T S) (F : nFr (nIv (a + 3) 25) h h2) {X : Nat → Nat → Nat} (HX : o0 h2 (a + 3) X) : cF h2 a V X Y T S := by
  obtain ⟨kV, kE, ⟨G, kG⟩, kY, kT, kS, L, kL⟩ := H
  exact ⟨o7_kept kV F.2.1 (fun q x y => F.2.2.2.2 q (fun z => by have z1 := z.1; have z2 := z.2; omega)), HX, ⟨G, o0_kept kG F.2.1 (fun q x y => F.2.2.2.2 q (fun z => by have z1 := z.1; have z2 := z.2; omega))⟩, o6_kept kY F.2.1 (fun q x y => F.2.2.2.2 q (fun z => by have z1 := z.1; have z2 := z.2; omega)), o5_kept kT F.2.1 (fun q x y => F.2.2.2.2 q (fun z => by have z1 := z.1; have z2 := z.2; omega)), o4_kept kS F.2.1 (fun q x y => F.2.2.2.2 q (fun z => by have z1 := z.1; have z2 := z.2; omega)), ⟨L, o1_kept kL F.2.1 (fun q x y => F.2.2.2.2 q (fun z => by have z1 := z.1; have z2 := z.2; omega))⟩⟩
theorem cF_G {h h2 : nPH} {a : Nat} {V E Y T S : Nat → Nat → Nat} (H : cF h a V E Y T S) (F : nFr (nIv (a + 28) 25) h h2) {X : Nat → Nat → Nat} (HX : o0 h2 (a + 28) X) : cF h2 a V E Y T S := by
  obtain ⟨kV, kE, ⟨G, kG⟩, kY, kT, kS, L, kL⟩ := H
  exact ⟨o7_kept kV F.2.1 (fun q x y => F.2.2.2.2 q (fun z => by have z1 := z.1; have z2 := z.2; omega)), o0_kept kE F.2.1 (fun q x y => F.2.2.2.2 q (fun z => by have z1 := z.1; have z2 := z.2; omega)), ⟨X, HX⟩, o6_kept kY F.2.1 (fun q x y => F.2.2.2.2 q (fun z => by have z1 := z.1; have z2 := z.2; omega)), o5_kept kT F.2.1 (fun q x y => F.2.2.2.2 q (fun z => by have z1 := z.1; have z2 := z.2; omega)), o4_kept kS F.2.1 (fun q x y => F.2.2.2.2 q (fun z => by have z1 := z.1; have z2 := z.2; omega)), ⟨L, o1_kept kL F.2.1 (fun q x y => F.2.2.2.2 q (fun z => by have z1 := z.1; have z2 := z.2; omega))⟩⟩
theorem cF_Y {h h2 : nPH} {a : Nat} {V E Y T S : Nat → Nat → Nat} (H : cF h a V E Y T S) (F : nFr (nIv (a + 53) 3) h h2) {X : Nat → Nat → Nat} (HX : o6 h2 (a + 53) X) : cF h2 a V E X T S := by
  obtain ⟨kV, kE, ⟨G, kG⟩, kY, kT, kS, L, kL⟩ := H
  exact ⟨o7_kept kV F.2.1 (fun q x y => F.2.2.2.2 q (fun z => by have z1 := z.1; have z2 := z.2; omega)), o0_kept kE F.2.1 (fun q x y => F.2.2.2.2 q (fun z => by have z1 := z.1; have z2 := z.2; omega)), ⟨G, o0_kept kG F.2.1 (fun q x y => F.2.2.2.2 q (fun z => by have z1 := z.1; have z2 := z.2; omega))⟩, HX, o5_kept kT F.2.1 (fun q x y => F.2.2.2.2 q (fun z => by have z1 := z.1; have z2 := z.2; omega)), o4_kept kS F.2.1 (fun q x y => F.2.2.2.2 q (fun z => by have z1 := z.1; have z2 := z.2; omega)), ⟨L, o1_kept kL F.2.1 (fun q x y => F.2.2.2.2 q (fun z => by have z1 := z.1; have z2 := z.2; omega))⟩⟩
theorem cF_T {h h2 : nPH} {a : Nat} {V E Y T S : Nat → Nat → Nat} (H : cF h a V E Y T S) (F : nFr (nIv (a + 56) 1) h h2) {X : Nat → Nat → Nat} (HX : o5 h2 (a + 56) X) : cF h2 a V E Y X S := by
  obtain ⟨kV, kE, ⟨G, kG⟩, kY, kT, kS, L, kL⟩ := H
  exact ⟨o7_kept kV F.2.1 (fun q x y => F.2.2.2.2 q (fun z => by have z1 := z.1; have z2 := z.2; omega)), o0_kept kE F.2.1 (fun q x y => F.2.2.2.2 q (fun z => by have z1 := z.1; have z2 := z.2; omega)), ⟨G, o0_kept kG F.2.1 (fun q x y => F.2.2.2.2 q (fun z => by have z1 := z.1; have z2 := z.2; omega))⟩, o6_kept kY F.2.1 (fun q x y => F.2.2.2.2 q (fun z => by have z1 := z.1; have z2 := z.2; omega)), HX, o4_kept kS F.2.1 (fun q x y => F.2.2.2.2 q (fun z => by have z1 := z.1; have z2 := z.2; omega)), ⟨L, o1_kept kL F.2.1 (fun q x y => F.2.2.2.2 q (fun z => by have z1 := z.1; have z2 := z.2; omega))⟩⟩
theorem cF_S {h h2 : nPH} {a : Nat} {V E Y T S : Nat → Nat → Nat} (H : cF h a V E Y T S) (F : nFr (nIv (a + 57) 2) h h2) {X : Nat → Nat → Nat} (HX : o4 h2 (a + 57) X) : cF h2 a V E Y T X := by
  obtain ⟨kV, kE, ⟨G, kG⟩, kY, kT, kS, L, kL⟩ := H
  exact ⟨o7_kept kV F.2.1 (fun q x y => F.2.2.2.2 q (fun z => by have z1 := z.1; have z2 := z.2; omega)), o0_kept kE F.2.1 (fun q x y => F.2.2.2.2 q (fun z => by have z1 := z.1; have z2 := z.2; omega)), ⟨G, o0_kept kG F.2.1 (fun q x y => F.2.2.2.2 q (fun z => by have z1 := z.1; have z2 := z.2; omega))⟩, o6_kept kY F.2.1 (fun q x y => F.2.2.2.2 q (fun z => by have z1 := z.1; have z2 := z.2; omega)), o5_kept kT F.2.1 (fun q x y => F.2.2.2.2 q (fun z => by have z1 := z.1; have z2 := z.2; omega)), HX, ⟨L, o1_kept kL F.2.1 (fun q x y => F.2.2.2.2 q (fun z => by have z1 := z.1; have z2 := z.2; omega))⟩⟩
theorem cF_L {h h2 : nPH} {a : Nat} {V E Y T S : Nat → Nat → Nat} (H : cF h a V E Y T S) (F : nFr (nIv (a + 59) 23) h h2) {X : Nat → Nat → Nat} (HX : o1 h2 (a + 59) X) : cF h2 a V E Y T S := by
  obtain ⟨kV, kE, ⟨G, kG⟩, kY, kT, kS, L, kL⟩ := H
  exact ⟨o7_kept kV F.2.1 (fun q x y => F.2.2.2.2 q (fun z => by have z1 := z.1; have z2 := z.2; omega)), o0_kept kE F.2.1 (fun q x y => F.2.2.2.2 q (fun z => by have z1 := z.1; have z2 := z.2; omega)), ⟨G, o0_kept kG F.2.1 (fun q x y => F.2.2.2.2 q (fun z => by have z1 := z.1; have z2 := z.2; omega))⟩, o6_kept kY F.2.1 (fun q x y => F.2.2.2.2 q (fun z => by have z1 := z.1; have z2 := z.2; omega)), o5_kept kT F.2.1 (fun q x y => F.2.2.2.2 q (fun z => by have z1 := z.1; have z2 := z.2; omega)), o4_kept kS F.2.1 (fun q x y => F.2.2.2.2 q (fun z => by have z1 := z.1; have z2 := z.2; omega)), ⟨X, HX⟩⟩
theorem cW_r {h h2 : nPH} {a b : Nat} {V : Nat → Nat → Nat} {P : Nat → Nat → Nat → Nat} {R : Nat → Nat → Nat → Nat → Nat} {E Y T S : Nat → Nat → Nat} (W : cW h a b V P R E Y T S) {p : Nat} (hp : p < V 1 0) {X : Nat → Prop} {R2 : Nat → Nat → Nat → Nat} (F : nFr X h h2) (hX : ∀ q, X q → pS (V 0 p) (P p) q) (Wp : pW h2 (V 0 p) (P p) R2) : kB b h h2 ∧ cW h2 a b V P (uP R p R2) E Y T S := by
  have Z := cW_pf W hp F hX Wp rfl (fun _ => rfl)
  have e : uP P p (P p) = P := funext fun q => by
    unfold uP
    split
    · rename_i e; rw [e]
    · rfl
  rw [e] at Z
  exact Z
theorem hTr_ex (P : Nat → Nat → Nat) (R : Nat → Nat → Nat → Nat) (s : Nat) : ∃ T, hTr P R s T := by
  by_cases e : gsx P R s = 0
  · exact ⟨fun _ => false, fun _ _ => rfl, fun z => absurd e z⟩
  · exact ⟨fun x => @decide (gRe (P 5 0) R s x) (Classical.propDecidable _), fun z => absurd z e, fun _ x => by simp⟩
theorem hTr_one {P : Nat → Nat → Nat} {R : Nat → Nat → Nat → Nat} {s : Nat} {T T2 : Nat → Bool} (h : hTr P R s T) (h2 : hTr P R s T2) : T2 = T := funext fun x => by
  by_cases e : gsx P R s = 0
  · rw [h.1 e x, h2.1 e x]
  · rw [Bool.eq_iff_iff, h.2 e x, h2.2 e x]
theorem sp_traceT {a b j k : Nat} {P : Nat → Nat → Nat} {R : Nat → Nat → Nat → Nat} (G : gOK (P 5 0) R) (hj : j < P 5 0) (hk : k < R j 0 0) (hap : apW a 25 b P) {h0 : nPH} (Wp0 : pW h0 b P R) {E0 : Nat → Nat → Nat} (H : o0 h0 a E0) {T : Nat → Bool} (hT : hTr P R (24 * j + k) T) : nWv YX0_trace [.ref a, .ref b, .int (nI j), .int (nI k)] h0 none (fun h2 => nFr (nIv a 25) h0 h2 ∧ ∃ E2, o0 h2 a E2 ∧ hIs P R T E2) :=
  (sp_trace G hj hk hap Wp0 H).mono (fun v h2 z => ⟨z.1, z.2.1, by
    obtain ⟨E2, T2, z1, z2, z3⟩ := z.2.2
    rw [hTr_one hT z3] at z2
    exact ⟨E2, z1, z2⟩⟩)
theorem pAp_5 (P : Nat → Nat → Nat) (z : Nat) : pAp P z 5 0 = P 5 0 + 1 := by
  unfold pAp
  rw [if_neg (by omega), if_pos rfl]
theorem pAp_4 (P : Nat → Nat → Nat) (z r : Nat) : pAp P z 4 r = if r = P 5 0 then z else P 4 r := by
  unfold pAp
  by_cases e : r = P 5 0
  · rw [if_pos ⟨rfl, e⟩, if_pos e]
  · rw [if_neg (by omega), if_neg (by omega), if_neg e]
theorem pAp_f {P : Nat → Nat → Nat} {z f i : Nat} (h : f ≠ 4) (h2 : f ≠ 5) : pAp P z f i = P f i := by
  unfold pAp
  rw [if_neg (by omega), if_neg h2]
theorem row_ad (P : Nat → Nat → Nat) (z : Nat) : ∀ r, r < pAp P z 5 0 → (r < P 5 0 ∧ pAp P z 4 r = P 4 r) ∨ z ≤ pAp P z 4 r := fun r hr => by
  rw [pAp_5] at hr
  rw [pAp_4]
  by_cases e : r = P 5 0
  · rw [if_pos e]; exact Or.inr (Nat.le_refl _)
  · rw [if_neg e]; exact Or.inl ⟨by omega, rfl⟩
theorem cl_row {h : nPH} {a b : Nat} {V : Nat → Nat → Nat} {P : Nat → Nat → Nat → Nat} {R : Nat → Nat → Nat → Nat → Nat} {E Y T S : Nat → Nat → Nat} (C : cW h a b V P R E Y T S) {p : Nat} (hp : p < V 1 0) (h20 : P p 5 0 < 20) (h1t : 1 ≤ off (R p (P p 5 0 - 1)) (R p (P p 5 0 - 1) 0 0)) (h24 : off (R p (P p 5 0 - 1)) (R p (P p 5 0 - 1) 0 0) ≤ 24) : nWv YX7_row [.ref (a), .int (nI (p))] h (some (.int (nI (off (R p (P p 5 0 - 1)) (R p (P p 5 0 - 1) 0 0))))) (fun h2 => kB b h h2 ∧ cW h2 a b V (uP P p (pAp (P p) h.2.2.1)) (uP R p (uR (R p) (P p 5 0) (rHG (R p (P p 5 0 - 1)) (off (R p (P p 5 0 - 1)) (R p (P p 5 0 - 1) 0 0)) (rNew (off (R p (P p 5 0 - 1)) (R p (P p 5 0 - 1) 0 0)))))) E Y T S) := by
  have hn12 := cW_n C
  have hn20 := (cW_q C hp).2.1
  have hp0 := hp
  refine nSp_of (by decide +kernel) rfl (Nat.le_of_ble_eq_true rfl) (ls := [some (.ref (a)), some (.int (nI (p))), none]) (by exact (And.intro rfl (And.intro rfl True.intro))) ?_
  refine x_aload_n rfl d_X7_row_0 ?_
  refine x_iload_n rfl d_X7_row_1 ?_
  refine x_rdV d_X7_row_2 lk_7_85 mo_X7_panelAt vi_X7_panelAt (sp_pAt C.1.1 (cW_n C) hp) (o7_o C.1.1) ⟨_, rfl, rfl⟩ rfl ⟨Nat.le_of_ble_eq_true rfl, Nat.le_of_ble_eq_true rfl⟩ rfl rfl (Nat.zero_le _) (Nat.zero_le _) (Nat.le_of_ble_eq_true rfl) rfl ?_
  refine x_astore_n d_X7_row_5 (Nat.le_of_ble_eq_true rfl) ?_
  refine x_aload_n rfl d_X7_row_6 ?_
  refine x_ifnonnull (tgt := 14) d_X7_row_7 (by decide) ?_
  refine x_aload_n rfl d_X7_row_14 ?_
  refine x_wvV d_X7_row_15 lk_7_89 mo_X2_hangRow vi_X2_hangRow (sp_hangRow (cW_q C hp) (cW_wf C) (cW_1 C hp) rfl h20 h1t h24) (o2_o (cW_q C hp).1) ⟨_, rfl, rfl⟩ rfl ⟨Nat.le_of_ble_eq_true rfl, Nat.le_of_ble_eq_true rfl⟩ (Nat.le_of_ble_eq_true rfl) (Nat.le_of_ble_eq_true rfl) (Nat.le_of_ble_eq_true rfl) rfl (fun h3 hp e1 e2 => ?_)
  obtain ⟨G3, W3⟩ := hp
  exact x_ireturn d_X7_row_18 rfl rfl G3.1 G3.2.1 (Nat.le_of_ble_eq_true rfl) (Nat.le_of_ble_eq_true rfl) ⟨rfl, cW_p C hp0 G3.2.2.2.1 G3.1 G3.2.1 (by rw [G3.2.2.1]; exact Nat.le_add_right _ _) (fun q hq hn => G3.2.2.2.2 q hq (fun z => hn (Or.inl z))) W3 (by show 1 ≤ pAp (P p) h.2.2.1 5 0; unfold pAp; rw [if_neg (by omega), if_pos rfl]; omega) (row_ad _ _)⟩
theorem cl_rowN {h : nPH} {a b : Nat} {V : Nat → Nat → Nat} {P : Nat → Nat → Nat → Nat} {R : Nat → Nat → Nat → Nat → Nat} {E Y T S : Nat → Nat → Nat} (C : cW h a b V P R E Y T S) {p : Nat} (hp : p < V 1 0) (hno : 20 ≤ P p 5 0 ∨ ¬ (1 ≤ off (R p (P p 5 0 - 1)) (R p (P p 5 0 - 1) 0 0) ∧ off (R p (P p 5 0 - 1)) (R p (P p 5 0 - 1) 0 0) ≤ 24)) : nRd YX7_row [.ref (a), .int (nI (p))] h (.int (-1)) := by
  have hn12 := cW_n C
  have hn20 := (cW_q C hp).2.1
  refine nSp_of (by decide +kernel) rfl (Nat.le_of_ble_eq_true rfl) (ls := [some (.ref (a)), some (.int (nI (p))), none]) (by exact (And.intro rfl (And.intro rfl True.intro))) ?_
  refine x_aload_n rfl d_X7_row_0 ?_
  refine x_iload_n rfl d_X7_row_1 ?_
  refine x_rdV d_X7_row_2 lk_7_85 mo_X7_panelAt vi_X7_panelAt (sp_pAt C.1.1 (cW_n C) hp) (o7_o C.1.1) ⟨_, rfl, rfl⟩ rfl ⟨Nat.le_of_ble_eq_true rfl, Nat.le_of_ble_eq_true rfl⟩ rfl rfl (Nat.le_of_ble_eq_true rfl) (Nat.le_of_ble_eq_true rfl) (Nat.le_of_ble_eq_true rfl) rfl ?_
  refine x_astore_n d_X7_row_5 (Nat.le_of_ble_eq_true rfl) ?_
  refine x_aload_n rfl d_X7_row_6 ?_
  refine x_ifnonnull (tgt := 14) d_X7_row_7 (by decide) ?_
  refine x_aload_n rfl d_X7_row_14 ?_
  refine x_wvV d_X7_row_15 lk_7_89 mo_X2_hangRow vi_X2_hangRow (sp_hangRowN (cW_q C hp) (cW_wf C) (cW_1 C hp) rfl hno) (o2_o (cW_q C hp).1) ⟨_, rfl, rfl⟩ rfl ⟨Nat.le_of_ble_eq_true rfl, Nat.le_of_ble_eq_true rfl⟩ (Nat.le_of_ble_eq_true rfl) (Nat.le_of_ble_eq_true rfl) (Nat.le_of_ble_eq_true rfl) rfl (fun h3 hp e1 e2 => ?_)
  subst hp
  exact x_ireturn d_X7_row_18 rfl rfl rfl rfl (Nat.le_of_ble_eq_true rfl) (Nat.le_of_ble_eq_true rfl) (⟨rfl, rfl⟩)
theorem cl_rowP {h : nPH} {a b : Nat} {V : Nat → Nat → Nat} {P : Nat → Nat → Nat → Nat} {R : Nat → Nat → Nat → Nat → Nat} {E Y T S : Nat → Nat → Nat} (C : cW h a b V P R E Y T S) {p : Int32} (hp : ¬ nIn p (V 1 0)) : nRd YX7_row [.ref (a), .int (p)] h (.int (-1)) := by
  refine nSp_of (by decide +kernel) rfl (Nat.le_of_ble_eq_true rfl) (ls := [some (.ref (a)), some (.int (p)), none]) (by exact (And.intro rfl (And.intro rfl True.intro))) ?_
  refine x_aload_n rfl d_X7_row_0 ?_
  refine x_iload_n rfl d_X7_row_1 ?_
  refine x_rdV d_X7_row_2 lk_7_85 mo_X7_panelAt vi_X7_panelAt (sp_pAtN C.1.1 (cW_n C) hp) (o7_o C.1.1) ⟨_, rfl, rfl⟩ rfl ⟨Nat.le_of_ble_eq_true rfl, Nat.le_of_ble_eq_true rfl⟩ rfl rfl (Nat.zero_le _) (Nat.zero_le _) (Nat.le_of_ble_eq_true rfl) rfl ?_
  refine x_astore_nN d_X7_row_5 (Nat.le_of_ble_eq_true rfl) ?_
  refine x_aload_nN rfl d_X7_row_6 ?_
  refine x_ifnonnullN d_X7_row_7 ?_
  refine x_iconst (v := -1) (by decide) d_X7_row_10 ?_
  refine x_goto (tgt := 18) d_X7_row_11 (by decide) ?_
  exact x_ireturn d_X7_row_18 rfl rfl rfl rfl (Nat.zero_le _) (Nat.zero_le _) (⟨rfl, rfl⟩)
theorem cl_kindP {h : nPH} {a b : Nat} {V : Nat → Nat → Nat} {P : Nat → Nat → Nat → Nat} {R : Nat → Nat → Nat → Nat → Nat} {E Y T S : Nat → Nat → Nat} (C : cW h a b V P R E Y T S) {p : Int32} (hp : ¬ nIn p (V 1 0)) {k z : Int32} : nRd YX7_kind [.ref (a), .int (p), .int (k), .int (z)] h (.int (nI 0)) := by
  refine nSp_of (by decide +kernel) rfl (Nat.le_of_ble_eq_true rfl) (ls := [some (.ref (a)), some (.int (p)), some (.int (k)), some (.int (z)), none, none]) (by exact (And.intro rfl (And.intro rfl (And.intro rfl (And.intro rfl True.intro))))) ?_
  refine x_aload_n rfl d_X7_kind_0 ?_
  refine x_iload_n rfl d_X7_kind_1 ?_
  refine x_rdV d_X7_kind_2 lk_7_85 mo_X7_panelAt vi_X7_panelAt (sp_pAtN C.1.1 (cW_n C) hp) (o7_o C.1.1) ⟨_, rfl, rfl⟩ rfl ⟨Nat.le_of_ble_eq_true rfl, Nat.le_of_ble_eq_true rfl⟩ rfl rfl (Nat.zero_le _) (Nat.zero_le _) (Nat.le_of_ble_eq_true rfl) rfl ?_
  refine x_astoreN d_X7_kind_5 (Nat.le_of_ble_eq_true rfl) ?_
  refine x_aloadN rfl d_X7_kind_7 ?_
  refine x_ifnonnullN d_X7_kind_9 ?_
  refine x_null d_X7_kind_12 ?_
  refine x_goto (tgt := 21) d_X7_kind_13 (by decide) ?_
  refine x_astoreN d_X7_kind_21 (Nat.le_of_ble_eq_true rfl) ?_
  refine x_aloadN rfl d_X7_kind_23 ?_
  refine x_ifnullN (tgt := 46) d_X7_kind_25 (by decide) ?_
  refine x_iconst (v := nI 0) (by decide) d_X7_kind_46 ?_
  exact x_ireturn d_X7_kind_47 rfl (by first | rfl | exact nB_nar _ | exact nB_nar1 (by omega)) rfl rfl (Nat.zero_le _) (Nat.zero_le _) (⟨rfl, rfl⟩)
theorem cl_kindK {h : nPH} {a b : Nat} {V : Nat → Nat → Nat} {P : Nat → Nat → Nat → Nat} {R : Nat → Nat → Nat → Nat → Nat} {E Y T S : Nat → Nat → Nat} (C : cW h a b V P R E Y T S) {p : Nat} (hp : p < V 1 0) {k z : Int32} (hk : ¬ nIn k (R p (P p 5 0 - 1) 0 0)) : nRd YX7_kind [.ref (a), .int (nI (p)), .int (k), .int (z)] h (.int (nI 0)) := by
  have hn12 := cW_n C
  have hn20 := (cW_q C hp).2.1
  have h1p := cW_1 C hp
  have hl : P p 5 0 - 1 < P p 5 0 := by omega
  have hrk := ((cW_q C hp).2.2.1 _ hl).2.1
  have hpl := hrk.1
  refine nSp_of (by decide +kernel) rfl (Nat.le_of_ble_eq_true rfl) (ls := [some (.ref (a)), some (.int (nI (p))), some (.int (k)), some (.int (z)), none, none]) (by exact (And.intro rfl (And.intro rfl (And.intro rfl (And.intro rfl True.intro))))) ?_
  refine x_aload_n rfl d_X7_kind_0 ?_
  refine x_iload_n rfl d_X7_kind_1 ?_
  refine x_rdV d_X7_kind_2 lk_7_85 mo_X7_panelAt vi_X7_panelAt (sp_pAt C.1.1 (cW_n C) hp) (o7_o C.1.1) ⟨_, rfl, rfl⟩ rfl ⟨Nat.le_of_ble_eq_true rfl, Nat.le_of_ble_eq_true rfl⟩ rfl rfl (Nat.zero_le _) (Nat.zero_le _) (Nat.le_of_ble_eq_true rfl) rfl ?_
  refine x_astore d_X7_kind_5 (Nat.le_of_ble_eq_true rfl) ?_
  refine x_aload rfl d_X7_kind_7 ?_
  refine x_ifnonnull (tgt := 16) d_X7_kind_9 (by decide) ?_
  refine x_aload rfl d_X7_kind_16 ?_
  refine x_rdV d_X7_kind_18 lk_7_93 mo_X2_lastRow vi_X2_lastRow (sp_lastRow (cW_q C hp).1 hn20 h1p) (o2_o (cW_q C hp).1) ⟨_, rfl, rfl⟩ rfl ⟨Nat.le_of_ble_eq_true rfl, Nat.le_of_ble_eq_true rfl⟩ rfl rfl (Nat.zero_le _) (Nat.zero_le _) (Nat.le_of_ble_eq_true rfl) rfl ?_
  refine x_astore d_X7_kind_21 (Nat.le_of_ble_eq_true rfl) ?_
  refine x_aload rfl d_X7_kind_23 ?_
  refine x_ifnull d_X7_kind_25 ?_
  refine x_aload rfl d_X7_kind_28 ?_
  refine x_iload_n rfl d_X7_kind_30 ?_
  refine x_rdV d_X7_kind_31 lk_7_97 mo_X3_has vi_X3_has (sp_has ((cW_q C hp).2.2.1 _ hl).1 hpl (k)) (o3_o ((cW_q C hp).2.2.1 _ hl).1) ⟨_, rfl, rfl⟩ rfl ⟨Nat.le_of_ble_eq_true rfl, Nat.le_of_ble_eq_true rfl⟩ rfl rfl (Nat.zero_le _) (Nat.zero_le _) (Nat.le_of_ble_eq_true rfl) rfl ?_
  have hle := nBi_le (k) (R p (P p 5 0 - 1) 0 0)
  refine x_if_eqN (tgt := 46) d_X7_kind_34 (by decide) (by omega) (fun c_1 => ?_) (fun c_1 => by exfalso; exact c_1 (nBi_F hk))
  refine x_iconst (v := nI 0) (by decide) d_X7_kind_46 ?_
  exact x_ireturn d_X7_kind_47 rfl (by first | rfl | exact nB_nar _ | exact nB_nar1 (by omega)) rfl rfl (Nat.zero_le _) (Nat.zero_le _) (⟨rfl, rfl⟩)
theorem cl_kindZ {h : nPH} {a b : Nat} {V : Nat → Nat → Nat} {P : Nat → Nat → Nat → Nat} {R : Nat → Nat → Nat → Nat → Nat} {E Y T S : Nat → Nat → Nat} (C : cW h a b V P R E Y T S) {p : Nat} (hp : p < V 1 0) {k : Nat} (hk : k < R p (P p 5 0 - 1) 0 0) {z : Int32} (hz : ¬ (nI 0 ≤ z ∧ z ≤ nI 2)) : nRd YX7_kind [.ref (a), .int (nI (p)), .int (nI (k)), .int (z)] h (.int (nI 0)) := by
  have hn12 := cW_n C
  have hn20 := (cW_q C hp).2.1
  have h1p := cW_1 C hp
  have hl : P p 5 0 - 1 < P p 5 0 := by omega
  have hrk := ((cW_q C hp).2.2.1 _ hl).2.1
  have hpl := hrk.1
  refine nSp_of (by decide +kernel) rfl (Nat.le_of_ble_eq_true rfl) (ls := [some (.ref (a)), some (.int (nI (p))), some (.int (nI (k))), some (.int (z)), none, none]) (by exact (And.intro rfl (And.intro rfl (And.intro rfl (And.intro rfl True.intro))))) ?_
  refine x_aload_n rfl d_X7_kind_0 ?_
  refine x_iload_n rfl d_X7_kind_1 ?_
  refine x_rdV d_X7_kind_2 lk_7_85 mo_X7_panelAt vi_X7_panelAt (sp_pAt C.1.1 (cW_n C) hp) (o7_o C.1.1) ⟨_, rfl, rfl⟩ rfl ⟨Nat.le_of_ble_eq_true rfl, Nat.le_of_ble_eq_true rfl⟩ rfl rfl (Nat.zero_le _) (Nat.zero_le _) (Nat.le_of_ble_eq_true rfl) rfl ?_
  refine x_astore d_X7_kind_5 (Nat.le_of_ble_eq_true rfl) ?_
  refine x_aload rfl d_X7_kind_7 ?_
  refine x_ifnonnull (tgt := 16) d_X7_kind_9 (by decide) ?_
  refine x_aload rfl d_X7_kind_16 ?_
  refine x_rdV d_X7_kind_18 lk_7_93 mo_X2_lastRow vi_X2_lastRow (sp_lastRow (cW_q C hp).1 hn20 h1p) (o2_o (cW_q C hp).1) ⟨_, rfl, rfl⟩ rfl ⟨Nat.le_of_ble_eq_true rfl, Nat.le_of_ble_eq_true rfl⟩ rfl rfl (Nat.zero_le _) (Nat.zero_le _) (Nat.le_of_ble_eq_true rfl) rfl ?_
  refine x_astore d_X7_kind_21 (Nat.le_of_ble_eq_true rfl) ?_
  refine x_aload rfl d_X7_kind_23 ?_
  refine x_ifnull d_X7_kind_25 ?_
  refine x_aload rfl d_X7_kind_28 ?_
  refine x_iload_n rfl d_X7_kind_30 ?_
  refine x_rdV d_X7_kind_31 lk_7_97 mo_X3_has vi_X3_has (sp_has ((cW_q C hp).2.2.1 _ hl).1 hpl (nI k)) (o3_o ((cW_q C hp).2.2.1 _ hl).1) ⟨_, rfl, rfl⟩ rfl ⟨Nat.le_of_ble_eq_true rfl, Nat.le_of_ble_eq_true rfl⟩ rfl rfl (Nat.zero_le _) (Nat.zero_le _) (Nat.le_of_ble_eq_true rfl) rfl ?_
  have hle := nBi_le (nI k) (R p (P p 5 0 - 1) 0 0)
  refine x_if_eqN (tgt := 46) d_X7_kind_34 (by decide) (by omega) (fun c_1 => by exfalso; rw [nBi_n (by omega)] at c_1; exact absurd hk (nB_0.mp c_1)) (fun c_1 => ?_)
  refine x_iload_n rfl d_X7_kind_37 ?_
  refine x_iconst (v := nI 0) (by decide) d_X7_kind_38 ?_
  refine x_iconst (v := nI 2) (by decide) d_X7_kind_39 ?_
  refine x_rdS d_X7_kind_40 lk_7_64 mo_X7_within sc_X7_within (sp_within (z) (nI 0) (nI 2)) rfl ⟨Nat.le_of_ble_eq_true rfl, Nat.le_of_ble_eq_true rfl⟩ rfl rfl (Nat.zero_le _) (Nat.zero_le _) (Nat.le_of_ble_eq_true rfl) rfl ?_
  have hle2 := nB_le (nI 0 ≤ z ∧ z ≤ nI 2)
  refine x_if_neN (tgt := 48) d_X7_kind_43 (by decide) (by omega) (fun c_2 => by exfalso; exact c_2 (nB_F hz)) (fun c_2 => ?_)
  refine x_iconst (v := nI 0) (by decide) d_X7_kind_46 ?_
  exact x_ireturn d_X7_kind_47 rfl (by first | rfl | exact nB_nar _ | exact nB_nar1 (by omega)) rfl rfl (Nat.zero_le _) (Nat.zero_le _) (⟨rfl, rfl⟩)
theorem cl_kind0 {h : nPH} {a b : Nat} {V : Nat → Nat → Nat} {P : Nat → Nat → Nat → Nat} {R : Nat → Nat → Nat → Nat → Nat} {E Y T S : Nat → Nat → Nat} (C : cW h a b V P R E Y T S) {p : Nat} (hp : p < V 1 0) (hk : 0 < R p (P p 5 0 - 1) 0 0) : nRd YX7_kind [.ref (a), .int (nI (p)), .int (nI (0)), .int (nI (2))] h (.int (nI 0)) := by
  have hn12 := cW_n C
  have hn20 := (cW_q C hp).2.1
  have h1p := cW_1 C hp
  have hl : P p 5 0 - 1 < P p 5 0 := by omega
  have hrk := ((cW_q C hp).2.2.1 _ hl).2.1
  have hpl := hrk.1
  refine nSp_of (by decide +kernel) rfl (Nat.le_of_ble_eq_true rfl) (ls := [some (.ref (a)), some (.int (nI (p))), some (.int (nI (0))), some (.int (nI (2))), none, none]) (by exact (And.intro rfl (And.intro rfl (And.intro rfl (And.intro rfl True.intro))))) ?_
  refine x_aload_n rfl d_X7_kind_0 ?_
  refine x_iload_n rfl d_X7_kind_1 ?_
  refine x_rdV d_X7_kind_2 lk_7_85 mo_X7_panelAt vi_X7_panelAt (sp_pAt C.1.1 (cW_n C) hp) (o7_o C.1.1) ⟨_, rfl, rfl⟩ rfl ⟨Nat.le_of_ble_eq_true rfl, Nat.le_of_ble_eq_true rfl⟩ rfl rfl (Nat.zero_le _) (Nat.zero_le _) (Nat.le_of_ble_eq_true rfl) rfl ?_
  refine x_astore d_X7_kind_5 (Nat.le_of_ble_eq_true rfl) ?_
  refine x_aload rfl d_X7_kind_7 ?_
  refine x_ifnonnull (tgt := 16) d_X7_kind_9 (by decide) ?_
  refine x_aload rfl d_X7_kind_16 ?_
  refine x_rdV d_X7_kind_18 lk_7_93 mo_X2_lastRow vi_X2_lastRow (sp_lastRow (cW_q C hp).1 hn20 h1p) (o2_o (cW_q C hp).1) ⟨_, rfl, rfl⟩ rfl ⟨Nat.le_of_ble_eq_true rfl, Nat.le_of_ble_eq_true rfl⟩ rfl rfl (Nat.zero_le _) (Nat.zero_le _) (Nat.le_of_ble_eq_true rfl) rfl ?_
  refine x_astore d_X7_kind_21 (Nat.le_of_ble_eq_true rfl) ?_
  refine x_aload rfl d_X7_kind_23 ?_
  refine x_ifnull d_X7_kind_25 ?_
  refine x_aload rfl d_X7_kind_28 ?_
  refine x_iload_n rfl d_X7_kind_30 ?_
  refine x_rdV d_X7_kind_31 lk_7_97 mo_X3_has vi_X3_has (sp_has ((cW_q C hp).2.2.1 _ hl).1 hpl (nI 0)) (o3_o ((cW_q C hp).2.2.1 _ hl).1) ⟨_, rfl, rfl⟩ rfl ⟨Nat.le_of_ble_eq_true rfl, Nat.le_of_ble_eq_true rfl⟩ rfl rfl (Nat.zero_le _) (Nat.zero_le _) (Nat.le_of_ble_eq_true rfl) rfl ?_
  have hle := nBi_le (nI 0) (R p (P p 5 0 - 1) 0 0)
  refine x_if_eqN (tgt := 46) d_X7_kind_34 (by decide) (by omega) (fun c_1 => by exfalso; rw [nBi_n (by omega)] at c_1; exact absurd hk (nB_0.mp c_1)) (fun c_1 => ?_)
  refine x_iload_n rfl d_X7_kind_37 ?_
  refine x_iconst (v := nI 0) (by decide) d_X7_kind_38 ?_
  refine x_iconst (v := nI 2) (by decide) d_X7_kind_39 ?_
  refine x_rdS d_X7_kind_40 lk_7_64 mo_X7_within sc_X7_within (sp_within (nI 2) (nI 0) (nI 2)) rfl ⟨Nat.le_of_ble_eq_true rfl, Nat.le_of_ble_eq_true rfl⟩ rfl rfl (Nat.zero_le _) (Nat.zero_le _) (Nat.le_of_ble_eq_true rfl) rfl ?_
  have hle2 := nB_le (nI 0 ≤ nI 2 ∧ nI 2 ≤ nI 2)
  refine x_if_neN (tgt := 48) d_X7_kind_43 (by decide) (by omega) (fun c_2 => ?_) (fun c_2 => by exfalso; exact absurd c_2 (by decide))
  refine x_iload_n rfl d_X7_kind_48 ?_
  refine x_iconst (v := nI 2) (by decide) d_X7_kind_49 ?_
  refine x_icmp_neN (tgt := 59) d_X7_kind_50 (by decide) (by omega) (by omega) (fun c_3 => by exfalso; omega) (fun c_3 => ?_)
  refine x_iload_n rfl d_X7_kind_53 ?_
  refine x_if_neN (tgt := 59) d_X7_kind_54 (by decide) (by omega) (fun c_4 => by exfalso; omega) (fun c_4 => ?_)
  refine x_iconst (v := nI 0) (by decide) d_X7_kind_57 ?_
  exact x_ireturn d_X7_kind_58 rfl (by first | rfl | exact nB_nar _ | exact nB_nar1 (by omega)) rfl rfl (Nat.zero_le _) (Nat.zero_le _) (⟨rfl, rfl⟩)
theorem rOK_tn {D : Nat → Nat → Nat} (R : rOK D) {k z : Nat} (hz : z ≤ 3) : rOK (u2 (u2 D 1 k z) 2 k (gvo z)) := by
  refine ⟨R.1, fun i hi => ?_⟩
  obtain ⟨r1, r2, r3, r4, r5, r6⟩ := R.2 i hi
  have hg := gvo_le z
  refine ⟨?_, ?_, ?_, ?_, ?_, ?_⟩
  · rw [u2_ne (by omega)]
    unfold u2
    split <;> assumption
  · unfold u2
    split
    · exact hg
    · rw [if_neg (by omega)]; exact r2
  · rw [u2_ne (by omega), u2_ne (by omega)]; exact r3
  · rw [u2_ne (by omega), u2_ne (by omega)]; exact r4
  · rw [u2_ne (by omega), u2_ne (by omega)]; exact r5
  · rw [u2_ne (by omega), u2_ne (by omega), u2_ne (by omega), u2_ne (by omega)]; exact r6
theorem rOK_nd {D : Nat → Nat → Nat} (R : rOK D) {k z : Nat} (hz : z ≤ 1) : rOK (u2 D 3 k z) := by
  refine ⟨R.1, fun i hi => ?_⟩
  obtain ⟨r1, r2, r3, r4, r5, r6⟩ := R.2 i hi
  refine ⟨?_, ?_, ?_, ?_, ?_, ?_⟩
  · rw [u2_ne (by omega)]; exact r1
  · rw [u2_ne (by omega)]; exact r2
  · unfold u2
    split <;> assumption
  · rw [u2_ne (by omega)]; exact r4
  · rw [u2_ne (by omega)]; exact r5
  · rw [u2_ne (by omega), u2_ne (by omega)]; exact r6
theorem rOK_no {D : Nat → Nat → Nat} (R : rOK D) : rOK (u2 D 0 0 0) := by
  refine ⟨by rw [u2_eq]; omega, fun i hi => ?_⟩
  obtain ⟨r1, r2, r3, r4, r5, r6⟩ := R.2 i hi
  rw [u2_ne (by omega), u2_ne (by omega), u2_ne (by omega), u2_ne (by omega), u2_ne (by omega), u2_ne (by omega)]
  exact ⟨r1, r2, r3, r4, r5, r6⟩
theorem cl_kind {h : nPH} {a b : Nat} {V : Nat → Nat → Nat} {P : Nat → Nat → Nat → Nat} {R : Nat → Nat → Nat → Nat → Nat} {E Y T S : Nat → Nat → Nat} (C : cW h a b V P R E Y T S) {p : Nat} (hp : p < V 1 0) {k : Nat} (hk : k < R p (P p 5 0 - 1) 0 0) {z : Nat} (hz : z ≤ 2) (hk0 : ¬ (z = 2 ∧ k = 0)) : nWv YX7_kind [.ref (a), .int (nI (p)), .int (nI (k)), .int (nI (z))] h (some (.int (nI 1))) (fun h2 => kB b h h2 ∧ cW h2 a b V P (uP R p (uR (R p) (P p 5 0 - 1) (u2 (u2 (R p (P p 5 0 - 1)) 1 k z) 2 k (gvo z)))) E Y T S) := by
  have hn12 := cW_n C
  have hn20 := (cW_q C hp).2.1
  have h1p := cW_1 C hp
  have hl : P p 5 0 - 1 < P p 5 0 := by omega
  have hrk := ((cW_q C hp).2.2.1 _ hl).2.1
  have hpl := hrk.1
  have hp0 := hp
  have hz2 : nI 0 ≤ nI z ∧ nI z ≤ nI 2 := ⟨(nI_leI (by decide) (by omega)).mpr (by omega), (nI_leI (by omega) (by decide)).mpr hz⟩
  refine nSp_of (by decide +kernel) rfl (Nat.le_of_ble_eq_true rfl) (ls := [some (.ref (a)), some (.int (nI (p))), some (.int (nI (k))), some (.int (nI (z))), none, none]) (by exact (And.intro rfl (And.intro rfl (And.intro rfl (And.intro rfl True.intro))))) ?_
  refine x_aload_n rfl d_X7_kind_0 ?_
  refine x_iload_n rfl d_X7_kind_1 ?_
  refine x_rdV d_X7_kind_2 lk_7_85 mo_X7_panelAt vi_X7_panelAt (sp_pAt C.1.1 (cW_n C) hp) (o7_o C.1.1) ⟨_, rfl, rfl⟩ rfl ⟨Nat.le_of_ble_eq_true rfl, Nat.le_of_ble_eq_true rfl⟩ rfl rfl (Nat.zero_le _) (Nat.zero_le _) (Nat.le_of_ble_eq_true rfl) rfl ?_
  refine x_astore d_X7_kind_5 (Nat.le_of_ble_eq_true rfl) ?_
  refine x_aload rfl d_X7_kind_7 ?_
  refine x_ifnonnull (tgt := 16) d_X7_kind_9 (by decide) ?_
  refine x_aload rfl d_X7_kind_16 ?_
  refine x_rdV d_X7_kind_18 lk_7_93 mo_X2_lastRow vi_X2_lastRow (sp_lastRow (cW_q C hp).1 hn20 h1p) (o2_o (cW_q C hp).1) ⟨_, rfl, rfl⟩ rfl ⟨Nat.le_of_ble_eq_true rfl, Nat.le_of_ble_eq_true rfl⟩ rfl rfl (Nat.zero_le _) (Nat.zero_le _) (Nat.le_of_ble_eq_true rfl) rfl ?_
  refine x_astore d_X7_kind_21 (Nat.le_of_ble_eq_true rfl) ?_
  refine x_aload rfl d_X7_kind_23 ?_
  refine x_ifnull d_X7_kind_25 ?_
  refine x_aload rfl d_X7_kind_28 ?_
  refine x_iload_n rfl d_X7_kind_30 ?_
  refine x_rdV d_X7_kind_31 lk_7_97 mo_X3_has vi_X3_has (sp_has ((cW_q C hp).2.2.1 _ hl).1 hpl (nI k)) (o3_o ((cW_q C hp).2.2.1 _ hl).1) ⟨_, rfl, rfl⟩ rfl ⟨Nat.le_of_ble_eq_true rfl, Nat.le_of_ble_eq_true rfl⟩ rfl rfl (Nat.zero_le _) (Nat.zero_le _) (Nat.le_of_ble_eq_true rfl) rfl ?_
  have hle := nBi_le (nI k) (R p (P p 5 0 - 1) 0 0)
  refine x_if_eqN (tgt := 46) d_X7_kind_34 (by decide) (by omega) (fun c_1 => by exfalso; rw [nBi_n (by omega)] at c_1; exact absurd hk (nB_0.mp c_1)) (fun c_1 => ?_)
  refine x_iload_n rfl d_X7_kind_37 ?_
  refine x_iconst (v := nI 0) (by decide) d_X7_kind_38 ?_
  refine x_iconst (v := nI 2) (by decide) d_X7_kind_39 ?_
  refine x_rdS d_X7_kind_40 lk_7_64 mo_X7_within sc_X7_within (sp_within (nI z) (nI 0) (nI 2)) rfl ⟨Nat.le_of_ble_eq_true rfl, Nat.le_of_ble_eq_true rfl⟩ rfl rfl (Nat.zero_le _) (Nat.zero_le _) (Nat.le_of_ble_eq_true rfl) rfl ?_
  have hle2 := nB_le (nI 0 ≤ nI z ∧ nI z ≤ nI 2)
  refine x_if_neN (tgt := 48) d_X7_kind_43 (by decide) (by omega) (fun c_2 => ?_) (fun c_2 => by exfalso; exact absurd c_2 (by rw [nB_T hz2]; decide))
  refine x_iload_n rfl d_X7_kind_48 ?_
  refine x_iconst (v := nI 2) (by decide) d_X7_kind_49 ?_
  refine x_icmp_neN (tgt := 59) d_X7_kind_50 (by decide) (by omega) (by omega) (fun c_3 => ?_) (fun c_3 => ?_)
  · refine x_aload rfl d_X7_kind_59 ?_
    refine x_iload_n rfl d_X7_kind_61 ?_
    refine x_iload_n rfl d_X7_kind_62 ?_
    refine x_wvV d_X7_kind_63 lk_7_101 mo_X3_turn vi_X3_turn (sp_turn ((cW_q C hp).2.2.1 _ hl).1 (k := k) (by omega) (z := z) (by omega)) (o3_o ((cW_q C hp).2.2.1 _ hl).1) ⟨_, rfl, rfl⟩ rfl ⟨Nat.le_of_ble_eq_true rfl, Nat.le_of_ble_eq_true rfl⟩ (Nat.zero_le _) (Nat.zero_le _) (Nat.le_of_ble_eq_true rfl) rfl (fun h3 hp e1 e2 => ?_)
    obtain ⟨F3, H3⟩ := hp
    have W3 := pW_up (cW_q C hp0) hl F3 H3 (rOK_tn hrk (by omega))
    refine x_iconst (v := nI 1) (by decide) d_X7_kind_66 ?_
    exact x_ireturn d_X7_kind_67 rfl (by first | rfl | exact nB_nar _ | exact nB_nar1 (by omega)) F3.1 F3.2.1 (Nat.zero_le _) (Nat.zero_le _) (⟨rfl, cW_r C hp0 F3 (fun q z => Or.inr ⟨_, hl, z⟩) W3⟩)
  · refine x_iload_n rfl d_X7_kind_53 ?_
    refine x_if_neN (tgt := 59) d_X7_kind_54 (by decide) (by omega) (fun c_4 => ?_) (fun c_4 => by exfalso; omega)
    refine x_aload rfl d_X7_kind_59 ?_
    refine x_iload_n rfl d_X7_kind_61 ?_
    refine x_iload_n rfl d_X7_kind_62 ?_
    refine x_wvV d_X7_kind_63 lk_7_101 mo_X3_turn vi_X3_turn (sp_turn ((cW_q C hp).2.2.1 _ hl).1 (k := k) (by omega) (z := z) (by omega)) (o3_o ((cW_q C hp).2.2.1 _ hl).1) ⟨_, rfl, rfl⟩ rfl ⟨Nat.le_of_ble_eq_true rfl, Nat.le_of_ble_eq_true rfl⟩ (Nat.zero_le _) (Nat.zero_le _) (Nat.le_of_ble_eq_true rfl) rfl (fun h3 hp e1 e2 => ?_)
    obtain ⟨F3, H3⟩ := hp
    have W3 := pW_up (cW_q C hp0) hl F3 H3 (rOK_tn hrk (by omega))
    refine x_iconst (v := nI 1) (by decide) d_X7_kind_66 ?_
    exact x_ireturn d_X7_kind_67 rfl (by first | rfl | exact nB_nar _ | exact nB_nar1 (by omega)) F3.1 F3.2.1 (Nat.zero_le _) (Nat.zero_le _) (⟨rfl, cW_r C hp0 F3 (fun q z => Or.inr ⟨_, hl, z⟩) W3⟩)
theorem nIn_ge {s : Int32} {n : Nat} (h1 : ¬ s < 0) (h2 : s < nI n) (hn : n < 2 ^ 31) : nIn s n := by
  rw [Int32.lt_iff_toInt_lt] at h1 h2
  rw [nI_toInt hn] at h2
  have : (0 : Int32).toInt = 0 := by decide
  exact ⟨by omega, h2⟩
theorem cl_sideP {h : nPH} {a b : Nat} {V : Nat → Nat → Nat} {P : Nat → Nat → Nat → Nat} {R : Nat → Nat → Nat → Nat → Nat} {E Y T S : Nat → Nat → Nat} (C : cW h a b V P R E Y T S) {p : Int32} (hp : ¬ nIn p (V 1 0)) {r k s o : Int32} : nRd YX7_side [.ref (a), .int (p), .int (r), .int (k), .int (s), .int (o)] h (.int (nI 0)) := by
  refine nSp_of (by decide +kernel) rfl (Nat.le_of_ble_eq_true rfl) (ls := [some (.ref (a)), some (.int (p)), some (.int (r)), some (.int (k)), some (.int (s)), some (.int (o)), none, none]) (by exact (And.intro rfl (And.intro rfl (And.intro rfl (And.intro rfl (And.intro rfl (And.intro rfl True.intro))))))) ?_
  refine x_aload_n rfl d_X7_side_0 ?_
  refine x_iload_n rfl d_X7_side_1 ?_
  refine x_rdV d_X7_side_2 lk_7_85 mo_X7_panelAt vi_X7_panelAt (sp_pAtN C.1.1 (cW_n C) hp) (o7_o C.1.1) ⟨_, rfl, rfl⟩ rfl ⟨Nat.le_of_ble_eq_true rfl, Nat.le_of_ble_eq_true rfl⟩ rfl rfl (Nat.zero_le _) (Nat.zero_le _) (Nat.le_of_ble_eq_true rfl) rfl ?_
  refine x_astoreN d_X7_side_5 (Nat.le_of_ble_eq_true rfl) ?_
  refine x_aloadN rfl d_X7_side_7 ?_
  refine x_ifnonnullN d_X7_side_9 ?_
  refine x_null d_X7_side_12 ?_
  refine x_goto (tgt := 23) d_X7_side_13 (by decide) ?_
  refine x_astoreN d_X7_side_23 (Nat.le_of_ble_eq_true rfl) ?_
  refine x_aloadN rfl d_X7_side_25 ?_
  refine x_ifnullN (tgt := 47) d_X7_side_27 (by decide) ?_
  refine x_iconst (v := nI 0) (by decide) d_X7_side_47 ?_
  exact x_ireturn d_X7_side_48 rfl (by first | rfl | exact nB_nar _ | exact nB_nar1 (by omega)) rfl rfl (Nat.zero_le _) (Nat.zero_le _) (⟨rfl, rfl⟩)
theorem cl_sideO {h : nPH} {a b : Nat} {V : Nat → Nat → Nat} {P : Nat → Nat → Nat → Nat} {R : Nat → Nat → Nat → Nat → Nat} {E Y T S : Nat → Nat → Nat} (C : cW h a b V P R E Y T S) {p : Nat} (hp : p < V 1 0) {r k : Int32} (hO : rOff (P p 5 0) (R p) r k) {s o : Int32} : nRd YX7_side [.ref (a), .int (nI (p)), .int (r), .int (k), .int (s), .int (o)] h (.int (nI 0)) := by
  have hn12 := cW_n C
  have hn20 := (cW_q C hp).2.1
  refine nSp_of (by decide +kernel) rfl (Nat.le_of_ble_eq_true rfl) (ls := [some (.ref (a)), some (.int (nI (p))), some (.int (r)), some (.int (k)), some (.int (s)), some (.int (o)), none, none]) (by exact (And.intro rfl (And.intro rfl (And.intro rfl (And.intro rfl (And.intro rfl (And.intro rfl True.intro))))))) ?_
  refine x_aload_n rfl d_X7_side_0 ?_
  refine x_iload_n rfl d_X7_side_1 ?_
  refine x_rdV d_X7_side_2 lk_7_85 mo_X7_panelAt vi_X7_panelAt (sp_pAt C.1.1 (cW_n C) hp) (o7_o C.1.1) ⟨_, rfl, rfl⟩ rfl ⟨Nat.le_of_ble_eq_true rfl, Nat.le_of_ble_eq_true rfl⟩ rfl rfl (Nat.zero_le _) (Nat.zero_le _) (Nat.le_of_ble_eq_true rfl) rfl ?_
  refine x_astore d_X7_side_5 (Nat.le_of_ble_eq_true rfl) ?_
  refine x_aload rfl d_X7_side_7 ?_
  refine x_ifnonnull (tgt := 16) d_X7_side_9 (by decide) ?_
  refine x_aload rfl d_X7_side_16 ?_
  refine x_iload_n rfl d_X7_side_18 ?_
  refine x_iload_n rfl d_X7_side_19 ?_
  refine x_rdV d_X7_side_20 lk_7_130 mo_X2_rowWith vi_X2_rowWith (sp_rowWithO (cW_q C hp) hO) (o2_o (cW_q C hp).1) ⟨_, rfl, rfl⟩ rfl ⟨Nat.le_of_ble_eq_true rfl, Nat.le_of_ble_eq_true rfl⟩ rfl rfl (Nat.zero_le _) (Nat.zero_le _) (Nat.le_of_ble_eq_true rfl) rfl ?_
  refine x_astoreN d_X7_side_23 (Nat.le_of_ble_eq_true rfl) ?_
  refine x_aloadN rfl d_X7_side_25 ?_
  refine x_ifnullN (tgt := 47) d_X7_side_27 (by decide) ?_
  refine x_iconst (v := nI 0) (by decide) d_X7_side_47 ?_
  exact x_ireturn d_X7_side_48 rfl (by first | rfl | exact nB_nar _ | exact nB_nar1 (by omega)) rfl rfl (Nat.zero_le _) (Nat.zero_le _) (⟨rfl, rfl⟩)
theorem cl_sideS {h : nPH} {a b : Nat} {V : Nat → Nat → Nat} {P : Nat → Nat → Nat → Nat} {R : Nat → Nat → Nat → Nat → Nat} {E Y T S : Nat → Nat → Nat} (C : cW h a b V P R E Y T S) {p : Nat} (hp : p < V 1 0) {r : Nat} (hr : r < P p 5 0) {k : Nat} (hk : k < R p r 0 0) {s o : Int32} (hs : ¬ nIn s (R p r 5 k)) : nRd YX7_side [.ref (a), .int (nI (p)), .int (nI (r)), .int (nI (k)), .int (s), .int (o)] h (.int (nI 0)) := by
  have hn12 := cW_n C
  have hn20 := (cW_q C hp).2.1
  have hrk := ((cW_q C hp).2.2.1 r hr).2.1
  have hpl := hrk.1
  have hkk := hrk.2 k (by omega)
  refine nSp_of (by decide +kernel) rfl (Nat.le_of_ble_eq_true rfl) (ls := [some (.ref (a)), some (.int (nI (p))), some (.int (nI (r))), some (.int (nI (k))), some (.int (s)), some (.int (o)), none, none]) (by exact (And.intro rfl (And.intro rfl (And.intro rfl (And.intro rfl (And.intro rfl (And.intro rfl True.intro))))))) ?_
  refine x_aload_n rfl d_X7_side_0 ?_
  refine x_iload_n rfl d_X7_side_1 ?_
  refine x_rdV d_X7_side_2 lk_7_85 mo_X7_panelAt vi_X7_panelAt (sp_pAt C.1.1 (cW_n C) hp) (o7_o C.1.1) ⟨_, rfl, rfl⟩ rfl ⟨Nat.le_of_ble_eq_true rfl, Nat.le_of_ble_eq_true rfl⟩ rfl rfl (Nat.zero_le _) (Nat.zero_le _) (Nat.le_of_ble_eq_true rfl) rfl ?_
  refine x_astore d_X7_side_5 (Nat.le_of_ble_eq_true rfl) ?_
  refine x_aload rfl d_X7_side_7 ?_
  refine x_ifnonnull (tgt := 16) d_X7_side_9 (by decide) ?_
  refine x_aload rfl d_X7_side_16 ?_
  refine x_iload_n rfl d_X7_side_18 ?_
  refine x_iload_n rfl d_X7_side_19 ?_
  refine x_rdV d_X7_side_20 lk_7_130 mo_X2_rowWith vi_X2_rowWith (sp_rowWith (cW_q C hp) hr hk) (o2_o (cW_q C hp).1) ⟨_, rfl, rfl⟩ rfl ⟨Nat.le_of_ble_eq_true rfl, Nat.le_of_ble_eq_true rfl⟩ rfl rfl (Nat.zero_le _) (Nat.zero_le _) (Nat.le_of_ble_eq_true rfl) rfl ?_
  refine x_astore d_X7_side_23 (Nat.le_of_ble_eq_true rfl) ?_
  refine x_aload rfl d_X7_side_25 ?_
  refine x_ifnull d_X7_side_27 ?_
  refine x_iload rfl d_X7_side_30 ?_
  refine x_if_lt (tgt := 47) d_X7_side_32 (by decide) (fun c_1 => ?_) (fun c_1 => ?_)
  · refine x_iconst (v := nI 0) (by decide) d_X7_side_47 ?_
    exact x_ireturn d_X7_side_48 rfl (by first | rfl | exact nB_nar _ | exact nB_nar1 (by omega)) rfl rfl (Nat.zero_le _) (Nat.zero_le _) (⟨rfl, rfl⟩)
  · refine x_iload rfl d_X7_side_35 ?_
    refine x_aload rfl d_X7_side_37 ?_
    refine x_getf co_all (v := .ref (P p 4 r + 5)) d_X7_side_39 fk_7_140 (o3_o ((cW_q C hp).2.2.1 r hr).1) rfl ?_
    refine x_iload_n rfl d_X7_side_42 ?_
    refine x_iaload d_X7_side_43 (o3_5 ((cW_q C hp).2.2.1 r hr).1) (nIx_nI (j := k) (by omega) (by decide)) ?_
    refine x_icmp_lt (tgt := 49) d_X7_side_44 (by decide) (fun c_2 => by exfalso; exact hs (nIn_ge c_1 c_2 (by omega))) (fun c_2 => ?_)
    refine x_iconst (v := nI 0) (by decide) d_X7_side_47 ?_
    exact x_ireturn d_X7_side_48 rfl (by first | rfl | exact nB_nar _ | exact nB_nar1 (by omega)) rfl rfl (Nat.zero_le _) (Nat.zero_le _) (⟨rfl, rfl⟩)
theorem cl_side {h : nPH} {a b : Nat} {V : Nat → Nat → Nat} {P : Nat → Nat → Nat → Nat} {R : Nat → Nat → Nat → Nat → Nat} {E Y T S : Nat → Nat → Nat} (C : cW h a b V P R E Y T S) {p : Nat} (hp : p < V 1 0) {r : Nat} (hr : r < P p 5 0) {k : Nat} (hk : k < R p r 0 0) {s o : Nat} (hs : s < R p r 5 k) (ho : o ≤ 1) : nWv YX7_side [.ref (a), .int (nI (p)), .int (nI (r)), .int (nI (k)), .int (nI (s)), .int (nI (o))] h (some (.int (nI 1))) (fun h2 => kB b h h2 ∧ cW h2 a b V P (uP R p (uR (R p) r (u2 (R p r) 6 k (ssd o (R p r 6 k) s)))) E Y T S) := by
  have hn12 := cW_n C
  have hn20 := (cW_q C hp).2.1
  have hrk := ((cW_q C hp).2.2.1 r hr).2.1
  have hpl := hrk.1
  have hkk := hrk.2 k (by omega)
  have hp0 := hp
  refine nSp_of (by decide +kernel) rfl (Nat.le_of_ble_eq_true rfl) (ls := [some (.ref (a)), some (.int (nI (p))), some (.int (nI (r))), some (.int (nI (k))), some (.int (nI (s))), some (.int (nI (o))), none, none]) (by exact (And.intro rfl (And.intro rfl (And.intro rfl (And.intro rfl (And.intro rfl (And.intro rfl True.intro))))))) ?_
  refine x_aload_n rfl d_X7_side_0 ?_
  refine x_iload_n rfl d_X7_side_1 ?_
  refine x_rdV d_X7_side_2 lk_7_85 mo_X7_panelAt vi_X7_panelAt (sp_pAt C.1.1 (cW_n C) hp) (o7_o C.1.1) ⟨_, rfl, rfl⟩ rfl ⟨Nat.le_of_ble_eq_true rfl, Nat.le_of_ble_eq_true rfl⟩ rfl rfl (Nat.zero_le _) (Nat.zero_le _) (Nat.le_of_ble_eq_true rfl) rfl ?_
  refine x_astore d_X7_side_5 (Nat.le_of_ble_eq_true rfl) ?_
  refine x_aload rfl d_X7_side_7 ?_
  refine x_ifnonnull (tgt := 16) d_X7_side_9 (by decide) ?_
  refine x_aload rfl d_X7_side_16 ?_
  refine x_iload_n rfl d_X7_side_18 ?_
  refine x_iload_n rfl d_X7_side_19 ?_
  refine x_rdV d_X7_side_20 lk_7_130 mo_X2_rowWith vi_X2_rowWith (sp_rowWith (cW_q C hp) hr hk) (o2_o (cW_q C hp).1) ⟨_, rfl, rfl⟩ rfl ⟨Nat.le_of_ble_eq_true rfl, Nat.le_of_ble_eq_true rfl⟩ rfl rfl (Nat.zero_le _) (Nat.zero_le _) (Nat.le_of_ble_eq_true rfl) rfl ?_
  refine x_astore d_X7_side_23 (Nat.le_of_ble_eq_true rfl) ?_
  refine x_aload rfl d_X7_side_25 ?_
  refine x_ifnull d_X7_side_27 ?_
  refine x_iload rfl d_X7_side_30 ?_
  refine x_if_ltN (tgt := 47) d_X7_side_32 (by decide) (by omega) (fun c_1 => by exfalso; omega) (fun c_1 => ?_)
  refine x_iload rfl d_X7_side_35 ?_
  refine x_aload rfl d_X7_side_37 ?_
  refine x_getf co_all (v := .ref (P p 4 r + 5)) d_X7_side_39 fk_7_140 (o3_o ((cW_q C hp).2.2.1 r hr).1) rfl ?_
  refine x_iload_n rfl d_X7_side_42 ?_
  refine x_iaload d_X7_side_43 (o3_5 ((cW_q C hp).2.2.1 r hr).1) (nIx_nI (j := k) (by omega) (by decide)) ?_
  refine x_icmp_ltN (tgt := 49) d_X7_side_44 (by decide) (by omega) (by omega) (fun c_2 => ?_) (fun c_2 => by exfalso; omega)
  refine x_aload rfl d_X7_side_49 ?_
  refine x_iload_n rfl d_X7_side_51 ?_
  refine x_iload rfl d_X7_side_52 ?_
  refine x_iload rfl d_X7_side_54 ?_
  refine x_wvV d_X7_side_56 lk_7_183 mo_X3_setSide vi_X3_setSide (sp_setSide ((cW_q C hp).2.2.1 r hr).1 hrk (k := k) (by omega) (s := s) (by omega) (on := o) ho) (o3_o ((cW_q C hp).2.2.1 r hr).1) ⟨_, rfl, rfl⟩ rfl ⟨Nat.le_of_ble_eq_true rfl, Nat.le_of_ble_eq_true rfl⟩ (Nat.zero_le _) (Nat.zero_le _) (Nat.le_of_ble_eq_true rfl) rfl (fun h3 hp e1 e2 => ?_)
  obtain ⟨F3, H3⟩ := hp
  have W3 := pW_up (cW_q C hp0) hr F3 H3 (rOK_ssd hrk o hs)
  refine x_iconst (v := nI 1) (by decide) d_X7_side_59 ?_
  exact x_ireturn d_X7_side_60 rfl (by first | rfl | exact nB_nar _ | exact nB_nar1 (by omega)) F3.1 F3.2.1 (Nat.zero_le _) (Nat.zero_le _) (⟨rfl, cW_r C hp0 F3 (fun q z => Or.inr ⟨_, hr, z⟩) W3⟩)
theorem cl_cutP {h : nPH} {a b : Nat} {V : Nat → Nat → Nat} {P : Nat → Nat → Nat → Nat} {R : Nat → Nat → Nat → Nat → Nat} {E Y T S : Nat → Nat → Nat} (C : cW h a b V P R E Y T S) {p : Int32} (hp : ¬ nIn p (V 1 0)) {r k : Int32} : nRd YX7_cut [.ref (a), .int (p), .int (r), .int (k)] h (.int (-1)) := by
  refine nSp_of (by decide +kernel) rfl (Nat.le_of_ble_eq_true rfl) (ls := [some (.ref (a)), some (.int (p)), some (.int (r)), some (.int (k)), none]) (by exact (And.intro rfl (And.intro rfl (And.intro rfl (And.intro rfl True.intro))))) ?_
  refine x_aload_n rfl d_X7_cut_0 ?_
  refine x_iload_n rfl d_X7_cut_1 ?_
  refine x_rdV d_X7_cut_2 lk_7_85 mo_X7_panelAt vi_X7_panelAt (sp_pAtN C.1.1 (cW_n C) hp) (o7_o C.1.1) ⟨_, rfl, rfl⟩ rfl ⟨Nat.le_of_ble_eq_true rfl, Nat.le_of_ble_eq_true rfl⟩ rfl rfl (Nat.zero_le _) (Nat.zero_le _) (Nat.le_of_ble_eq_true rfl) rfl ?_
  refine x_astoreN d_X7_cut_5 (Nat.le_of_ble_eq_true rfl) ?_
  refine x_aloadN rfl d_X7_cut_7 ?_
  refine x_ifnullN (tgt := 22) d_X7_cut_9 (by decide) ?_
  refine x_iconst (v := -1) (by decide) d_X7_cut_22 ?_
  exact x_ireturn d_X7_cut_23 rfl rfl rfl rfl (Nat.zero_le _) (Nat.zero_le _) (⟨rfl, rfl⟩)
theorem cl_cutO {h : nPH} {a b : Nat} {V : Nat → Nat → Nat} {P : Nat → Nat → Nat → Nat} {R : Nat → Nat → Nat → Nat → Nat} {E Y T S : Nat → Nat → Nat} (C : cW h a b V P R E Y T S) {p : Nat} (hp : p < V 1 0) {r k : Int32} (hO : rOff (P p 5 0) (R p) r k) : nRd YX7_cut [.ref (a), .int (nI (p)), .int (r), .int (k)] h (.int (-1)) := by
  have hn12 := cW_n C
  have hn20 := (cW_q C hp).2.1
  refine nSp_of (by decide +kernel) rfl (Nat.le_of_ble_eq_true rfl) (ls := [some (.ref (a)), some (.int (nI (p))), some (.int (r)), some (.int (k)), none]) (by exact (And.intro rfl (And.intro rfl (And.intro rfl (And.intro rfl True.intro))))) ?_
  refine x_aload_n rfl d_X7_cut_0 ?_
  refine x_iload_n rfl d_X7_cut_1 ?_
  refine x_rdV d_X7_cut_2 lk_7_85 mo_X7_panelAt vi_X7_panelAt (sp_pAt C.1.1 (cW_n C) hp) (o7_o C.1.1) ⟨_, rfl, rfl⟩ rfl ⟨Nat.le_of_ble_eq_true rfl, Nat.le_of_ble_eq_true rfl⟩ rfl rfl (Nat.zero_le _) (Nat.zero_le _) (Nat.le_of_ble_eq_true rfl) rfl ?_
  refine x_astore d_X7_cut_5 (Nat.le_of_ble_eq_true rfl) ?_
  refine x_aload rfl d_X7_cut_7 ?_
  refine x_ifnull d_X7_cut_9 ?_
  refine x_aload rfl d_X7_cut_12 ?_
  refine x_iload_n rfl d_X7_cut_14 ?_
  refine x_iload_n rfl d_X7_cut_15 ?_
  refine x_rdV d_X7_cut_16 lk_7_130 mo_X2_rowWith vi_X2_rowWith (sp_rowWithO (cW_q C hp) hO) (o2_o (cW_q C hp).1) ⟨_, rfl, rfl⟩ rfl ⟨Nat.le_of_ble_eq_true rfl, Nat.le_of_ble_eq_true rfl⟩ rfl rfl (Nat.zero_le _) (Nat.zero_le _) (Nat.le_of_ble_eq_true rfl) rfl ?_
  refine x_ifnonnullN d_X7_cut_19 ?_
  refine x_iconst (v := -1) (by decide) d_X7_cut_22 ?_
  exact x_ireturn d_X7_cut_23 rfl rfl rfl rfl (Nat.zero_le _) (Nat.zero_le _) (⟨rfl, rfl⟩)
theorem cl_cut {h : nPH} {a b : Nat} {V : Nat → Nat → Nat} {P : Nat → Nat → Nat → Nat} {R : Nat → Nat → Nat → Nat → Nat} {E Y T S : Nat → Nat → Nat} (C : cW h a b V P R E Y T S) {p : Nat} (hp : p < V 1 0) {r : Nat} (hr : r < P p 5 0) {k : Nat} (hk : k < R p r 0 0) : nWv YX7_cut [.ref (a), .int (nI (p)), .int (nI (r)), .int (nI (k))] h (some (.int (nI (cus (P p) (R p) r k)))) (fun h2 => kB b h h2 ∧ cW h2 a b V P (uP R p (rCu (P p) (R p) r k)) E Y T S) := by
  have hn12 := cW_n C
  have hn20 := (cW_q C hp).2.1
  have hrk := ((cW_q C hp).2.2.1 r hr).2.1
  have hpl := hrk.1
  have hkk := hrk.2 k (by omega)
  have hp0 := hp
  refine nSp_of (by decide +kernel) rfl (Nat.le_of_ble_eq_true rfl) (ls := [some (.ref (a)), some (.int (nI (p))), some (.int (nI (r))), some (.int (nI (k))), none]) (by exact (And.intro rfl (And.intro rfl (And.intro rfl (And.intro rfl True.intro))))) ?_
  refine x_aload_n rfl d_X7_cut_0 ?_
  refine x_iload_n rfl d_X7_cut_1 ?_
  refine x_rdV d_X7_cut_2 lk_7_85 mo_X7_panelAt vi_X7_panelAt (sp_pAt C.1.1 (cW_n C) hp) (o7_o C.1.1) ⟨_, rfl, rfl⟩ rfl ⟨Nat.le_of_ble_eq_true rfl, Nat.le_of_ble_eq_true rfl⟩ rfl rfl (Nat.zero_le _) (Nat.zero_le _) (Nat.le_of_ble_eq_true rfl) rfl ?_
  refine x_astore d_X7_cut_5 (Nat.le_of_ble_eq_true rfl) ?_
  refine x_aload rfl d_X7_cut_7 ?_
  refine x_ifnull d_X7_cut_9 ?_
  refine x_aload rfl d_X7_cut_12 ?_
  refine x_iload_n rfl d_X7_cut_14 ?_
  refine x_iload_n rfl d_X7_cut_15 ?_
  refine x_rdV d_X7_cut_16 lk_7_130 mo_X2_rowWith vi_X2_rowWith (sp_rowWith (cW_q C hp) hr hk) (o2_o (cW_q C hp).1) ⟨_, rfl, rfl⟩ rfl ⟨Nat.le_of_ble_eq_true rfl, Nat.le_of_ble_eq_true rfl⟩ rfl rfl (Nat.zero_le _) (Nat.zero_le _) (Nat.le_of_ble_eq_true rfl) rfl ?_
  refine x_ifnonnull (tgt := 24) d_X7_cut_19 (by decide) ?_
  refine x_aload rfl d_X7_cut_24 ?_
  refine x_iload_n rfl d_X7_cut_26 ?_
  refine x_iload_n rfl d_X7_cut_27 ?_
  refine x_wvV d_X7_cut_28 lk_7_187 mo_X2_cutSidesAt vi_X2_cutSidesAt (sp_cut (cW_q C hp) hr hk) (o2_o (cW_q C hp).1) ⟨_, rfl, rfl⟩ rfl ⟨Nat.le_of_ble_eq_true rfl, Nat.le_of_ble_eq_true rfl⟩ (Nat.zero_le _) (Nat.zero_le _) (Nat.le_of_ble_eq_true rfl) rfl (fun h3 hp e1 e2 => ?_)
  obtain ⟨F3, W3⟩ := hp
  exact x_ireturn d_X7_cut_31 rfl rfl F3.1 F3.2.1 (Nat.zero_le _) (Nat.zero_le _) (⟨rfl, cW_r C hp0 F3 (fun q z => by rcases z with z | ⟨z1, z⟩; exact Or.inr ⟨_, hr, z⟩; exact Or.inr ⟨_, z1, z⟩) W3⟩)
theorem cl_needleP {h : nPH} {a b : Nat} {V : Nat → Nat → Nat} {P : Nat → Nat → Nat → Nat} {R : Nat → Nat → Nat → Nat → Nat} {E Y T S : Nat → Nat → Nat} (C : cW h a b V P R E Y T S) {p : Int32} (hp : ¬ nIn p (V 1 0)) {r k o : Int32} : nRd YX7_needle [.ref (a), .int (p), .int (r), .int (k), .int (o)] h (.int (nI 0)) := by
  refine nSp_of (by decide +kernel) rfl (Nat.le_of_ble_eq_true rfl) (ls := [some (.ref (a)), some (.int (p)), some (.int (r)), some (.int (k)), some (.int (o)), none, none]) (by exact (And.intro rfl (And.intro rfl (And.intro rfl (And.intro rfl (And.intro rfl True.intro)))))) ?_
  refine x_aload_n rfl d_X7_needle_0 ?_
  refine x_iload_n rfl d_X7_needle_1 ?_
  refine x_rdV d_X7_needle_2 lk_7_85 mo_X7_panelAt vi_X7_panelAt (sp_pAtN C.1.1 (cW_n C) hp) (o7_o C.1.1) ⟨_, rfl, rfl⟩ rfl ⟨Nat.le_of_ble_eq_true rfl, Nat.le_of_ble_eq_true rfl⟩ rfl rfl (Nat.zero_le _) (Nat.zero_le _) (Nat.le_of_ble_eq_true rfl) rfl ?_
  refine x_astoreN d_X7_needle_5 (Nat.le_of_ble_eq_true rfl) ?_
  refine x_aloadN rfl d_X7_needle_7 ?_
  refine x_ifnonnullN d_X7_needle_9 ?_
  refine x_null d_X7_needle_12 ?_
  refine x_goto (tgt := 23) d_X7_needle_13 (by decide) ?_
  refine x_astoreN d_X7_needle_23 (Nat.le_of_ble_eq_true rfl) ?_
  refine x_aloadN rfl d_X7_needle_25 ?_
  refine x_ifnonnullN d_X7_needle_27 ?_
  refine x_iconst (v := nI 0) (by decide) d_X7_needle_30 ?_
  exact x_ireturn d_X7_needle_31 rfl (by first | rfl | exact nB_nar _ | exact nB_nar1 (by omega)) rfl rfl (Nat.zero_le _) (Nat.zero_le _) (⟨rfl, rfl⟩)
theorem cl_needleO {h : nPH} {a b : Nat} {V : Nat → Nat → Nat} {P : Nat → Nat → Nat → Nat} {R : Nat → Nat → Nat → Nat → Nat} {E Y T S : Nat → Nat → Nat} (C : cW h a b V P R E Y T S) {p : Nat} (hp : p < V 1 0) {r k : Int32} (hO : rOff (P p 5 0) (R p) r k) {o : Int32} : nRd YX7_needle [.ref (a), .int (nI (p)), .int (r), .int (k), .int (o)] h (.int (nI 0)) := by
  have hn12 := cW_n C
  have hn20 := (cW_q C hp).2.1
  refine nSp_of (by decide +kernel) rfl (Nat.le_of_ble_eq_true rfl) (ls := [some (.ref (a)), some (.int (nI (p))), some (.int (r)), some (.int (k)), some (.int (o)), none, none]) (by exact (And.intro rfl (And.intro rfl (And.intro rfl (And.intro rfl (And.intro rfl True.intro)))))) ?_
  refine x_aload_n rfl d_X7_needle_0 ?_
  refine x_iload_n rfl d_X7_needle_1 ?_
  refine x_rdV d_X7_needle_2 lk_7_85 mo_X7_panelAt vi_X7_panelAt (sp_pAt C.1.1 (cW_n C) hp) (o7_o C.1.1) ⟨_, rfl, rfl⟩ rfl ⟨Nat.le_of_ble_eq_true rfl, Nat.le_of_ble_eq_true rfl⟩ rfl rfl (Nat.zero_le _) (Nat.zero_le _) (Nat.le_of_ble_eq_true rfl) rfl ?_
  refine x_astore d_X7_needle_5 (Nat.le_of_ble_eq_true rfl) ?_
  refine x_aload rfl d_X7_needle_7 ?_
  refine x_ifnonnull (tgt := 16) d_X7_needle_9 (by decide) ?_
  refine x_aload rfl d_X7_needle_16 ?_
  refine x_iload_n rfl d_X7_needle_18 ?_
  refine x_iload_n rfl d_X7_needle_19 ?_
  refine x_rdV d_X7_needle_20 lk_7_130 mo_X2_rowWith vi_X2_rowWith (sp_rowWithO (cW_q C hp) hO) (o2_o (cW_q C hp).1) ⟨_, rfl, rfl⟩ rfl ⟨Nat.le_of_ble_eq_true rfl, Nat.le_of_ble_eq_true rfl⟩ rfl rfl (Nat.zero_le _) (Nat.zero_le _) (Nat.le_of_ble_eq_true rfl) rfl ?_
  refine x_astoreN d_X7_needle_23 (Nat.le_of_ble_eq_true rfl) ?_
  refine x_aloadN rfl d_X7_needle_25 ?_
  refine x_ifnonnullN d_X7_needle_27 ?_
  refine x_iconst (v := nI 0) (by decide) d_X7_needle_30 ?_
  exact x_ireturn d_X7_needle_31 rfl (by first | rfl | exact nB_nar _ | exact nB_nar1 (by omega)) rfl rfl (Nat.zero_le _) (Nat.zero_le _) (⟨rfl, rfl⟩)
theorem cl_needle0 {h : nPH} {a b : Nat} {V : Nat → Nat → Nat} {P : Nat → Nat → Nat → Nat} {R : Nat → Nat → Nat → Nat → Nat} {E Y T S : Nat → Nat → Nat} (C : cW h a b V P R E Y T S) {p : Nat} (hp : p < V 1 0) {r : Nat} (hr : r < P p 5 0) {k : Nat} (hk : k < R p r 0 0) : nWv YX7_needle [.ref (a), .int (nI (p)), .int (nI (r)), .int (nI (k)), .int (nI (0))] h (some (.int (nI 1))) (fun h2 => kB b h h2 ∧ cW h2 a b V P (uP R p (uR (R p) r (u2 (R p r) 3 k 0))) E Y T S) := by
  have hn12 := cW_n C
  have hn20 := (cW_q C hp).2.1
  have hrk := ((cW_q C hp).2.2.1 r hr).2.1
  have hpl := hrk.1
  have hkk := hrk.2 k (by omega)
  refine nSp_of (by decide +kernel) rfl (Nat.le_of_ble_eq_true rfl) (ls := [some (.ref (a)), some (.int (nI (p))), some (.int (nI (r))), some (.int (nI (k))), some (.int (nI (0))), none, none]) (by exact (And.intro rfl (And.intro rfl (And.intro rfl (And.intro rfl (And.intro rfl True.intro)))))) ?_
  refine x_aload_n rfl d_X7_needle_0 ?_
  refine x_iload_n rfl d_X7_needle_1 ?_
  refine x_rdV d_X7_needle_2 lk_7_85 mo_X7_panelAt vi_X7_panelAt (sp_pAt C.1.1 (cW_n C) hp) (o7_o C.1.1) ⟨_, rfl, rfl⟩ rfl ⟨Nat.le_of_ble_eq_true rfl, Nat.le_of_ble_eq_true rfl⟩ rfl rfl (Nat.zero_le _) (Nat.zero_le _) (Nat.le_of_ble_eq_true rfl) rfl ?_
  refine x_astore d_X7_needle_5 (Nat.le_of_ble_eq_true rfl) ?_
  refine x_aload rfl d_X7_needle_7 ?_
  refine x_ifnonnull (tgt := 16) d_X7_needle_9 (by decide) ?_
  refine x_aload rfl d_X7_needle_16 ?_
  refine x_iload_n rfl d_X7_needle_18 ?_
  refine x_iload_n rfl d_X7_needle_19 ?_
  refine x_rdV d_X7_needle_20 lk_7_130 mo_X2_rowWith vi_X2_rowWith (sp_rowWith (cW_q C hp) hr hk) (o2_o (cW_q C hp).1) ⟨_, rfl, rfl⟩ rfl ⟨Nat.le_of_ble_eq_true rfl, Nat.le_of_ble_eq_true rfl⟩ rfl rfl (Nat.zero_le _) (Nat.zero_le _) (Nat.le_of_ble_eq_true rfl) rfl ?_
  refine x_astore d_X7_needle_23 (Nat.le_of_ble_eq_true rfl) ?_
  refine x_aload rfl d_X7_needle_25 ?_
  refine x_ifnonnull (tgt := 32) d_X7_needle_27 (by decide) ?_
  refine x_aload rfl d_X7_needle_32 ?_
  refine x_getf co_all (v := .ref (P p 4 r + 3)) d_X7_needle_34 fk_7_156 (o3_o ((cW_q C hp).2.2.1 r hr).1) rfl ?_
  refine x_iload_n rfl d_X7_needle_37 ?_
  refine x_iload rfl d_X7_needle_38 ?_
  refine x_if_eqN (tgt := 47) d_X7_needle_40 (by decide) (by omega) (fun c_1 => ?_) (fun c_1 => by exfalso; omega)
  refine x_iconst (v := nI 0) (by decide) d_X7_needle_47 ?_
  refine x_iastore d_X7_needle_48 (o3_3 ((cW_q C hp).2.2.1 r hr).1) (nIx_nI (j := k) (by omega) (by decide)) (Nat.le_trans (o3_B ((cW_q C hp).2.2.1 r hr).1) (Nat.le_add_right _ _)) ?_
  have H2_3 := o3_ast3 (k) (0) ((cW_q C hp).2.2.1 r hr).1
  have f_3 := o3_f3 (k) (0) ((cW_q C hp).2.2.1 r hr).1 ((nFr.rf (S := nIv (P p 4 r) 7) (h := h))) (by exact ⟨by omega, by omega⟩)
  refine x_iconst (v := nI 1) (by decide) d_X7_needle_49 ?_
  exact x_ireturn d_X7_needle_50 rfl (by first | rfl | exact nB_nar _ | exact nB_nar1 (by omega)) (f_3).1 (f_3).2.1 (Nat.zero_le _) (Nat.zero_le _) (⟨rfl, cW_r C hp f_3 (fun q z => Or.inr ⟨_, hr, z⟩) (pW_up (cW_q C hp) hr f_3 H2_3 (rOK_nd hrk (by decide)))⟩)
theorem cl_needle1 {h : nPH} {a b : Nat} {V : Nat → Nat → Nat} {P : Nat → Nat → Nat → Nat} {R : Nat → Nat → Nat → Nat → Nat} {E Y T S : Nat → Nat → Nat} (C : cW h a b V P R E Y T S) {p : Nat} (hp : p < V 1 0) {r : Nat} (hr : r < P p 5 0) {k : Nat} (hk : k < R p r 0 0) : nWv YX7_needle [.ref (a), .int (nI (p)), .int (nI (r)), .int (nI (k)), .int (nI (1))] h (some (.int (nI 1))) (fun h2 => kB b h h2 ∧ cW h2 a b V P (uP R p (uR (R p) r (u2 (R p r) 3 k 1))) E Y T S) := by
  have hn12 := cW_n C
  have hn20 := (cW_q C hp).2.1
  have hrk := ((cW_q C hp).2.2.1 r hr).2.1
  have hpl := hrk.1
  have hkk := hrk.2 k (by omega)
  refine nSp_of (by decide +kernel) rfl (Nat.le_of_ble_eq_true rfl) (ls := [some (.ref (a)), some (.int (nI (p))), some (.int (nI (r))), some (.int (nI (k))), some (.int (nI (1))), none, none]) (by exact (And.intro rfl (And.intro rfl (And.intro rfl (And.intro rfl (And.intro rfl True.intro)))))) ?_
  refine x_aload_n rfl d_X7_needle_0 ?_
  refine x_iload_n rfl d_X7_needle_1 ?_
  refine x_rdV d_X7_needle_2 lk_7_85 mo_X7_panelAt vi_X7_panelAt (sp_pAt C.1.1 (cW_n C) hp) (o7_o C.1.1) ⟨_, rfl, rfl⟩ rfl ⟨Nat.le_of_ble_eq_true rfl, Nat.le_of_ble_eq_true rfl⟩ rfl rfl (Nat.zero_le _) (Nat.zero_le _) (Nat.le_of_ble_eq_true rfl) rfl ?_
  refine x_astore d_X7_needle_5 (Nat.le_of_ble_eq_true rfl) ?_
  refine x_aload rfl d_X7_needle_7 ?_
  refine x_ifnonnull (tgt := 16) d_X7_needle_9 (by decide) ?_
  refine x_aload rfl d_X7_needle_16 ?_
  refine x_iload_n rfl d_X7_needle_18 ?_
  refine x_iload_n rfl d_X7_needle_19 ?_
  refine x_rdV d_X7_needle_20 lk_7_130 mo_X2_rowWith vi_X2_rowWith (sp_rowWith (cW_q C hp) hr hk) (o2_o (cW_q C hp).1) ⟨_, rfl, rfl⟩ rfl ⟨Nat.le_of_ble_eq_true rfl, Nat.le_of_ble_eq_true rfl⟩ rfl rfl (Nat.zero_le _) (Nat.zero_le _) (Nat.le_of_ble_eq_true rfl) rfl ?_
  refine x_astore d_X7_needle_23 (Nat.le_of_ble_eq_true rfl) ?_
  refine x_aload rfl d_X7_needle_25 ?_
  refine x_ifnonnull (tgt := 32) d_X7_needle_27 (by decide) ?_
  refine x_aload rfl d_X7_needle_32 ?_
  refine x_getf co_all (v := .ref (P p 4 r + 3)) d_X7_needle_34 fk_7_156 (o3_o ((cW_q C hp).2.2.1 r hr).1) rfl ?_
  refine x_iload_n rfl d_X7_needle_37 ?_
  refine x_iload rfl d_X7_needle_38 ?_
  refine x_if_eqN (tgt := 47) d_X7_needle_40 (by decide) (by omega) (fun c_1 => by exfalso; omega) (fun c_1 => ?_)
  refine x_iconst (v := nI 1) (by decide) d_X7_needle_43 ?_
  refine x_goto (tgt := 48) d_X7_needle_44 (by decide) ?_
  refine x_iastore d_X7_needle_48 (o3_3 ((cW_q C hp).2.2.1 r hr).1) (nIx_nI (j := k) (by omega) (by decide)) (Nat.le_trans (o3_B ((cW_q C hp).2.2.1 r hr).1) (Nat.le_add_right _ _)) ?_
  have H2_3 := o3_ast3 (k) (1) ((cW_q C hp).2.2.1 r hr).1
  have f_3 := o3_f3 (k) (1) ((cW_q C hp).2.2.1 r hr).1 ((nFr.rf (S := nIv (P p 4 r) 7) (h := h))) (by exact ⟨by omega, by omega⟩)
  refine x_iconst (v := nI 1) (by decide) d_X7_needle_49 ?_
  exact x_ireturn d_X7_needle_50 rfl (by first | rfl | exact nB_nar _ | exact nB_nar1 (by omega)) (f_3).1 (f_3).2.1 (Nat.zero_le _) (Nat.zero_le _) (⟨rfl, cW_r C hp f_3 (fun q z => Or.inr ⟨_, hr, z⟩) (pW_up (cW_q C hp) hr f_3 H2_3 (rOK_nd hrk (by decide)))⟩)
