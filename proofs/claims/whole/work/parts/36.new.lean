/-! the loft: new panels -/
def vAp (V : Nat → Nat → Nat) (z : Nat) : Nat → Nat → Nat := fun f i => if f = 0 ∧ i = V 1 0 then z else if f = 1 ∧ i = 0 then V 1 0 + 1 else V f i
theorem vAp_1 (V : Nat → Nat → Nat) (z : Nat) : vAp V z 1 0 = V 1 0 + 1 := by
  unfold vAp
  rw [if_neg (by omega), if_pos ⟨rfl, rfl⟩]
theorem vAp_0 (V : Nat → Nat → Nat) (z p : Nat) : vAp V z 0 p = if p = V 1 0 then z else V 0 p := by
  unfold vAp
  by_cases e : p = V 1 0
  · rw [if_pos ⟨rfl, e⟩, if_pos e]
  · rw [if_neg (by omega), if_neg (by omega), if_neg e]
theorem vAp_o {V : Nat → Nat → Nat} {z f i : Nat} (h : 2 ≤ f) : vAp V z f i = V f i := by
  unfold vAp
  rw [if_neg (by omega), if_neg (by omega)]
def l7 (a : Nat) (D : Nat → Nat → Nat) : List Value := [.ref (a + 1), .int (nI (D 1 0)), .ref (a + 2), .int (nV (D 3 0)), .ref (a + 3), .ref (a + 28), .ref (a + 53), .ref (a + 56), .ref (a + 57), .ref (a + 59)]
theorem o7_app {h : nPH} {a z : Nat} {V : Nat → Nat → Nat} (H : o7 h a V) : o7 (nSt (nSt h (a + 1) (nAr (.object "NetLoft$Panel") 12 (nUp (fun r => if r < V 1 0 then some (V 0 r) else none) (V 1 0) (some z)))) a (nOb 7 (List.set (l7 a V) 1 (.int (nI (V 1 0 + 1)))))) a (vAp V z) := by
  refine ⟨H.1, nAt_eq.trans rfl, ?_, ?_⟩
  · rw [nAt_ne (by omega), nAt_eq]
    congr 4
    funext r
    unfold nUp
    rw [vAp_1, vAp_0]
    by_cases h1 : r = V 1 0
    · rw [if_pos h1, if_pos (by omega), if_pos h1]
    · rw [if_neg h1, if_neg h1]
      by_cases h2 : r < V 1 0
      · exact (if_pos h2).trans (if_pos (by omega)).symm
      · exact (if_neg h2).trans (if_neg (by omega)).symm
  · rw [nAt_ne (by omega), nAt_ne (by omega)]
    exact (o7_2 H).trans rfl
theorem sp_keep {h : nPH} {a z : Nat} {V Q : Nat → Nat → Nat} (H : o7 h a V) (hn : V 1 0 < 12) (HZ : o2 h z Q) : nWv YX7_keep [.ref a, .ref z] h (some (.int (nI (V 1 0)))) (fun h2 => nFr (nIv a 3) h h2 ∧ o7 h2 a (vAp V z)) := by
  refine nSp_of (by decide +kernel) rfl (Nat.le_of_ble_eq_true rfl) (ls := [some (.ref (a)), some (.ref (z))]) (by exact (And.intro rfl (And.intro rfl True.intro))) ?_
  refine x_aload_n rfl d_X7_keep_0 ?_
  refine x_getf co_all (v := .int (nI (V 1 0))) d_X7_keep_1 fk_7_61 (o7_o H) rfl ?_
  refine x_bipush (v := nI 12) (by decide) d_X7_keep_4 ?_
  refine x_icmp_ltN (tgt := 11) d_X7_keep_6 (by decide) (by omega) (by omega) (fun c_1 => ?_) (fun c_1 => by exfalso; omega)
  refine x_aload_n rfl d_X7_keep_11 ?_
  refine x_getf co_all (v := .ref (a + 1)) d_X7_keep_12 fk_7_11 (o7_o H) rfl ?_
  refine x_aload_n rfl d_X7_keep_15 ?_
  refine x_getf co_all (v := .int (nI (V 1 0))) d_X7_keep_16 fk_7_61 (o7_o H) rfl ?_
  refine x_aload_n rfl d_X7_keep_19 ?_
  refine x_aastore d_X7_keep_20 (ci := 2) rfl (o7_0 H) (o2_o HZ) (nIx_nI (j := V 1 0) (by omega) (by decide)) (Nat.le_trans (o7_B H) (Nat.le_add_right _ _)) ?_
  have F1 := (nFr.rf (S := nIv a 3) (h := h)).st (e := (nAr (.object "NetLoft$Panel") 12 (nUp (fun r => if r < V 1 0 then some (V 0 r) else none) (V 1 0) (some z)))) (o7_0 H) (show nIv a 3 (a + 1) from ⟨by omega, by omega⟩)
  have e1 : nAt (nSt h (a + 1) (nAr (.object "NetLoft$Panel") 12 (nUp (fun r => if r < V 1 0 then some (V 0 r) else none) (V 1 0) (some z)))) a = some (nOb 7 (l7 a V)) := (nAt_ne (by omega)).trans (o7_o H)
  refine x_aload_n rfl d_X7_keep_21 ?_
  refine x_dup rfl d_X7_keep_22 ?_
  refine x_getf co_all (v := .int (nI (V 1 0))) d_X7_keep_23 fk_7_61 e1 rfl ?_
  refine x_iconst (v := nI 1) (by decide) d_X7_keep_26 ?_
  refine x_iaddN d_X7_keep_27 ?_
  refine x_putf co_all d_X7_keep_28 fk_7_61 ft_7_1 e1 (Nat.le_of_ble_eq_true rfl) rfl rfl (by exact o7_B (h := h) H) ?_
  have F2 := F1.st (e := nOb 7 (List.set (l7 a V) 1 (.int (nI (V 1 0 + 1))))) e1 (show nIv a 3 a from ⟨by omega, by omega⟩)
  refine x_aload_n rfl d_X7_keep_31 ?_
  refine x_getf co_all (v := .int (nI (V 1 0 + 1))) d_X7_keep_32 fk_7_61 nAt_eq rfl ?_
  refine x_iconst (v := nI 1) (by decide) d_X7_keep_35 ?_
  refine x_isubN d_X7_keep_36 (by omega) ?_
  rw [Nat.add_sub_cancel]
  exact x_ireturn d_X7_keep_37 rfl rfl F2.1 F2.2.1 (Nat.zero_le _) (Nat.zero_le _) ⟨rfl, F2, o7_app H⟩
theorem cW_n2 {h h3 : nPH} {a b z : Nat} {V : Nat → Nat → Nat} {P : Nat → Nat → Nat → Nat} {R : Nat → Nat → Nat → Nat → Nat} {E Y T S S2 : Nat → Nat → Nat} (W : cW h a b V P R E Y T S) (hn : V 1 0 < 12) {Q : Nat → Nat → Nat} {RQ : Nat → Nat → Nat → Nat} (hw3 : nWF h3) (hD : h3.1 = h.1) (hB : h3.2.1 = h.2.1) (hz : h.2.2.1 ≤ h3.2.2.1) (hk : ∀ q, q < h.2.2.1 → ¬ nIv a 82 q → nAt h3 q = nAt h q) (CF : cF h3 a (vAp V z) E Y T S2) (Wp : pW h3 z Q RQ) (h1 : 1 ≤ Q 5 0) (hA : h.2.2.1 ≤ z) (hA2 : ∀ r, r < Q 5 0 → h.2.2.1 ≤ Q 4 r) : kB b h h3 ∧ cW h3 a b (vAp V z) (uP P (V 1 0) Q) (uP R (V 1 0) RQ) E Y T S2 := by
  obtain ⟨w1, ⟨w2, w3⟩, w4, w5, w6, w7⟩ := W
  have l1 := cF_lt w1 w5
  have hap : ∀ x n, x + n ≤ h.2.2.1 → apW x n z Q := fun x n hx => ⟨Or.inl (by omega), fun r hr => Or.inl (by have := hA2 r hr; omega)⟩
  have hpb : ∀ p, p < V 1 0 → V 0 p + 3 ≤ h.2.2.1 ∧ ∀ r, r < P p 5 0 → P p 4 r + 7 ≤ h.2.2.1 := fun p hp => ⟨o2_lt (w2 p hp).1.1 w5, fun r hr => o3_lt ((w2 p hp).1.2.2.1 r hr).1 w5⟩
  refine ⟨⟨hD, hB, fun q q1 q2 => hk q (by omega) (fun z => by have z1 := z.1; have z2 := z.2; rcases w6 with e | e <;> omega)⟩, CF, ⟨?_, ?_⟩, by rw [vAp_1]; omega, hw3, w6, by omega⟩
  · intro p hp
    rw [vAp_1] at hp
    rw [vAp_0]
    by_cases e : p = V 1 0
    · rw [if_pos e, e, uP_eq, uP_eq]
      exact ⟨Wp, h1, hap _ _ l1, hap _ _ w7⟩
    · have hp' : p < V 1 0 := by omega
      rw [if_neg e, uP_ne e, uP_ne e]
      exact ⟨pW_kept (w2 p hp').1 hB (fun q hq => hk q (pW_lt (w2 p hp').1 w5 hq) (apW_S (w2 p hp').2.2.1 hq)), (w2 p hp').2⟩
  · intro p p2 hp hp2 hne
    rw [vAp_1] at hp hp2
    rw [vAp_0, vAp_0]
    by_cases e : p = V 1 0
    · have e2 : p2 ≠ V 1 0 := fun z => hne (e.trans z.symm)
      have hp' : p2 < V 1 0 := by omega
      rw [if_pos e, if_neg e2, e, uP_eq, uP_ne e2]
      have B := hpb p2 hp'
      exact ⟨⟨Or.inr (by omega), fun r hr => Or.inr (by have := B.2 r hr; omega)⟩, fun r hr => ⟨Or.inr (by have := hA2 r hr; omega), fun r2 hr2 => Or.inr (by have := hA2 r hr; have := B.2 r2 hr2; omega)⟩⟩
    · have hp' : p < V 1 0 := by omega
      rw [if_neg e, uP_ne e]
      have B := hpb p hp'
      by_cases e2 : p2 = V 1 0
      · rw [if_pos e2, e2, uP_eq]
        exact ⟨hap _ _ B.1, fun r hr => hap _ _ (B.2 r hr)⟩
      · rw [if_neg e2, uP_ne e2]
        exact w3 p p2 hp' (by omega) hne
theorem cl_panelF {h : nPH} {a b : Nat} {V : Nat → Nat → Nat} {P : Nat → Nat → Nat → Nat} {R : Nat → Nat → Nat → Nat → Nat} {E Y T S : Nat → Nat → Nat} (C : cW h a b V P R E Y T S) (hn : 12 ≤ V 1 0) {w g s : Int32} : nRd YX7_panel [.ref (a), .int (w), .int (g), .int (s)] h (.int (-1)) := by
  have hn12 := cW_n C
  refine nSp_of (by decide +kernel) rfl (Nat.le_of_ble_eq_true rfl) (ls := [some (.ref (a)), some (.int (w)), some (.int (g)), some (.int (s)), none]) (by exact (And.intro rfl (And.intro rfl (And.intro rfl (And.intro rfl True.intro))))) ?_
  refine x_aload_n rfl d_X7_panel_0 ?_
  refine x_getf co_all (v := .int (nI (V 1 0))) d_X7_panel_1 fk_7_61 (o7_o C.1.1) rfl ?_
  refine x_bipush (v := nI 12) (by decide) d_X7_panel_4 ?_
  refine x_icmp_geN (tgt := 19) d_X7_panel_6 (by decide) (by omega) (by omega) (fun c_1 => ?_) (fun c_1 => by exfalso; omega)
  refine x_iconst (v := -1) (by decide) d_X7_panel_19 ?_
  exact x_ireturn d_X7_panel_20 rfl rfl rfl rfl (Nat.zero_le _) (Nat.zero_le _) (⟨rfl, rfl⟩)
theorem cl_panelW {h : nPH} {a b : Nat} {V : Nat → Nat → Nat} {P : Nat → Nat → Nat → Nat} {R : Nat → Nat → Nat → Nat → Nat} {E Y T S : Nat → Nat → Nat} (C : cW h a b V P R E Y T S) (hn : V 1 0 < 12) {w g s : Int32} (hw : ¬ (nI 1 ≤ w ∧ w ≤ nI 24)) : nRd YX7_panel [.ref (a), .int (w), .int (g), .int (s)] h (.int (-1)) := by
  refine nSp_of (by decide +kernel) rfl (Nat.le_of_ble_eq_true rfl) (ls := [some (.ref (a)), some (.int (w)), some (.int (g)), some (.int (s)), none]) (by exact (And.intro rfl (And.intro rfl (And.intro rfl (And.intro rfl True.intro))))) ?_
  refine x_aload_n rfl d_X7_panel_0 ?_
  refine x_getf co_all (v := .int (nI (V 1 0))) d_X7_panel_1 fk_7_61 (o7_o C.1.1) rfl ?_
  refine x_bipush (v := nI 12) (by decide) d_X7_panel_4 ?_
  refine x_icmp_geN (tgt := 19) d_X7_panel_6 (by decide) (by omega) (by omega) (fun c_1 => by exfalso; omega) (fun c_1 => ?_)
  refine x_iload_n rfl d_X7_panel_9 ?_
  refine x_iconst (v := nI 1) (by decide) d_X7_panel_10 ?_
  refine x_bipush (v := nI 24) (by decide) d_X7_panel_11 ?_
  refine x_rdS d_X7_panel_13 lk_7_64 mo_X7_within sc_X7_within (sp_within (w) (nI (1)) (nI (24))) rfl ⟨Nat.le_of_ble_eq_true rfl, Nat.le_of_ble_eq_true rfl⟩ rfl rfl (Nat.zero_le _) (Nat.zero_le _) (Nat.le_of_ble_eq_true rfl) rfl ?_
  rw [nB_F hw]
  refine x_if_neN (tgt := 21) d_X7_panel_16 (by decide) (by omega) (fun c_2 => by exfalso; exact c_2 rfl) (fun c_2 => ?_)
  refine x_iconst (v := -1) (by decide) d_X7_panel_19 ?_
  exact x_ireturn d_X7_panel_20 rfl rfl rfl rfl (Nat.zero_le _) (Nat.zero_le _) (⟨rfl, rfl⟩)
theorem cl_panelB {h : nPH} {a b : Nat} {V : Nat → Nat → Nat} {P : Nat → Nat → Nat → Nat} {R : Nat → Nat → Nat → Nat → Nat} {E Y T S : Nat → Nat → Nat} (C : cW h a b V P R E Y T S) (hn : V 1 0 < 12) {w : Nat} (hw1 : 1 ≤ w) (hw2 : w ≤ 24) {g s : Int32} (hg : ¬ (nI 1 ≤ g ∧ g ≤ nI 1000)) : nRd YX7_panel [.ref (a), .int (nI (w)), .int (g), .int (s)] h (.int (-1)) := by
  refine nSp_of (by decide +kernel) rfl (Nat.le_of_ble_eq_true rfl) (ls := [some (.ref (a)), some (.int (nI (w))), some (.int (g)), some (.int (s)), none]) (by exact (And.intro rfl (And.intro rfl (And.intro rfl (And.intro rfl True.intro))))) ?_
  refine x_aload_n rfl d_X7_panel_0 ?_
  refine x_getf co_all (v := .int (nI (V 1 0))) d_X7_panel_1 fk_7_61 (o7_o C.1.1) rfl ?_
  refine x_bipush (v := nI 12) (by decide) d_X7_panel_4 ?_
  refine x_icmp_geN (tgt := 19) d_X7_panel_6 (by decide) (by omega) (by omega) (fun c_1 => by exfalso; omega) (fun c_1 => ?_)
  refine x_iload_n rfl d_X7_panel_9 ?_
  refine x_iconst (v := nI 1) (by decide) d_X7_panel_10 ?_
  refine x_bipush (v := nI 24) (by decide) d_X7_panel_11 ?_
  refine x_rdS d_X7_panel_13 lk_7_64 mo_X7_within sc_X7_within (sp_within (nI (w)) (nI (1)) (nI (24))) rfl ⟨Nat.le_of_ble_eq_true rfl, Nat.le_of_ble_eq_true rfl⟩ rfl rfl (Nat.zero_le _) (Nat.zero_le _) (Nat.le_of_ble_eq_true rfl) rfl ?_
  rw [nB_ge (a := 1) (b := w) (c := 24) rfl rfl rfl (by decide) (by omega) (by decide) ⟨hw1, hw2⟩]
  refine x_if_neN (tgt := 21) d_X7_panel_16 (by decide) (by omega) (fun c_2 => ?_) (fun c_2 => by exfalso; exact absurd c_2 (by decide))
  refine x_iload_n rfl d_X7_panel_21 ?_
  refine x_iconst (v := nI 1) (by decide) d_X7_panel_22 ?_
  refine x_sipush (v := nI 1000) (by decide) d_X7_panel_23 ?_
  refine x_rdS d_X7_panel_26 lk_7_64 mo_X7_within sc_X7_within (sp_within (g) (nI (1)) (nI (1000))) rfl ⟨Nat.le_of_ble_eq_true rfl, Nat.le_of_ble_eq_true rfl⟩ rfl rfl (Nat.zero_le _) (Nat.zero_le _) (Nat.le_of_ble_eq_true rfl) rfl ?_
  rw [nB_F hg]
  refine x_if_eqN (tgt := 42) d_X7_panel_29 (by decide) (by omega) (fun c_3 => ?_) (fun c_3 => by exfalso; exact c_3 rfl)
  refine x_iconst (v := -1) (by decide) d_X7_panel_42 ?_
  exact x_ireturn d_X7_panel_43 rfl rfl rfl rfl (Nat.zero_le _) (Nat.zero_le _) (⟨rfl, rfl⟩)
theorem cl_panelS {h : nPH} {a b : Nat} {V : Nat → Nat → Nat} {P : Nat → Nat → Nat → Nat} {R : Nat → Nat → Nat → Nat → Nat} {E Y T S : Nat → Nat → Nat} (C : cW h a b V P R E Y T S) (hn : V 1 0 < 12) {w : Nat} (hw1 : 1 ≤ w) (hw2 : w ≤ 24) {g : Nat} (hg1 : 1 ≤ g) (hg2 : g ≤ 1000) {s : Int32} (hs : ¬ (nI 1 ≤ s ∧ s ≤ nI 1000000)) : nRd YX7_panel [.ref (a), .int (nI (w)), .int (nI (g)), .int (s)] h (.int (-1)) := by
  refine nSp_of (by decide +kernel) rfl (Nat.le_of_ble_eq_true rfl) (ls := [some (.ref (a)), some (.int (nI (w))), some (.int (nI (g))), some (.int (s)), none]) (by exact (And.intro rfl (And.intro rfl (And.intro rfl (And.intro rfl True.intro))))) ?_
  refine x_aload_n rfl d_X7_panel_0 ?_
  refine x_getf co_all (v := .int (nI (V 1 0))) d_X7_panel_1 fk_7_61 (o7_o C.1.1) rfl ?_
  refine x_bipush (v := nI 12) (by decide) d_X7_panel_4 ?_
  refine x_icmp_geN (tgt := 19) d_X7_panel_6 (by decide) (by omega) (by omega) (fun c_1 => by exfalso; omega) (fun c_1 => ?_)
  refine x_iload_n rfl d_X7_panel_9 ?_
  refine x_iconst (v := nI 1) (by decide) d_X7_panel_10 ?_
  refine x_bipush (v := nI 24) (by decide) d_X7_panel_11 ?_
  refine x_rdS d_X7_panel_13 lk_7_64 mo_X7_within sc_X7_within (sp_within (nI (w)) (nI (1)) (nI (24))) rfl ⟨Nat.le_of_ble_eq_true rfl, Nat.le_of_ble_eq_true rfl⟩ rfl rfl (Nat.zero_le _) (Nat.zero_le _) (Nat.le_of_ble_eq_true rfl) rfl ?_
  rw [nB_ge (a := 1) (b := w) (c := 24) rfl rfl rfl (by decide) (by omega) (by decide) ⟨hw1, hw2⟩]
  refine x_if_neN (tgt := 21) d_X7_panel_16 (by decide) (by omega) (fun c_2 => ?_) (fun c_2 => by exfalso; exact absurd c_2 (by decide))
  refine x_iload_n rfl d_X7_panel_21 ?_
  refine x_iconst (v := nI 1) (by decide) d_X7_panel_22 ?_
  refine x_sipush (v := nI 1000) (by decide) d_X7_panel_23 ?_
  refine x_rdS d_X7_panel_26 lk_7_64 mo_X7_within sc_X7_within (sp_within (nI (g)) (nI (1)) (nI (1000))) rfl ⟨Nat.le_of_ble_eq_true rfl, Nat.le_of_ble_eq_true rfl⟩ rfl rfl (Nat.zero_le _) (Nat.zero_le _) (Nat.le_of_ble_eq_true rfl) rfl ?_
  rw [nB_ge (a := 1) (b := g) (c := 1000) rfl rfl rfl (by decide) (by omega) (by decide) ⟨hg1, hg2⟩]
  refine x_if_eqN (tgt := 42) d_X7_panel_29 (by decide) (by omega) (fun c_3 => by exfalso; exact absurd c_3 (by decide)) (fun c_3 => ?_)
  refine x_iload_n rfl d_X7_panel_32 ?_
  refine x_iconst (v := nI 1) (by decide) d_X7_panel_33 ?_
  refine x_ldc (v := nI 1000000) d_X7_panel_34 ct_7_68 ?_
  refine x_rdS d_X7_panel_36 lk_7_64 mo_X7_within sc_X7_within (sp_within (s) (nI (1)) (nI (1000000))) rfl ⟨Nat.le_of_ble_eq_true rfl, Nat.le_of_ble_eq_true rfl⟩ rfl rfl (Nat.zero_le _) (Nat.zero_le _) (Nat.le_of_ble_eq_true rfl) rfl ?_
  rw [nB_F hs]
  refine x_if_neN (tgt := 44) d_X7_panel_39 (by decide) (by omega) (fun c_4 => by exfalso; exact c_4 rfl) (fun c_4 => ?_)
  refine x_iconst (v := -1) (by decide) d_X7_panel_42 ?_
  exact x_ireturn d_X7_panel_43 rfl rfl rfl rfl (Nat.zero_le _) (Nat.zero_le _) (⟨rfl, rfl⟩)
theorem cl_panel {h : nPH} {a b : Nat} {V : Nat → Nat → Nat} {P : Nat → Nat → Nat → Nat} {R : Nat → Nat → Nat → Nat → Nat} {E Y T S : Nat → Nat → Nat} (C : cW h a b V P R E Y T S) (hn : V 1 0 < 12) {w : Nat} (hw1 : 1 ≤ w) (hw2 : w ≤ 24) {g : Nat} (hg1 : 1 ≤ g) (hg2 : g ≤ 1000) {s : Nat} (hs1 : 1 ≤ s) (hs2 : s ≤ 1000000) : nWv YX7_panel [.ref (a), .int (nI (w)), .int (nI (g)), .int (nI (s))] h (some (.int (nI (V 1 0)))) (fun h2 => kB b h h2 ∧ cW h2 a b (vAp V h.2.2.1) (uP P (V 1 0) (pAp (pNew g s) (h.2.2.1 + 3))) (uP R (V 1 0) (uR (fun _ _ _ => 0) 0 (rNew w))) E Y T S) := by
  have hw := cW_wf C
  have hl1 := cF_lt C.1 hw
  generalize hzz : h.2.2.1 = z
  refine nSp_of (by decide +kernel) rfl (Nat.le_of_ble_eq_true rfl) (ls := [some (.ref (a)), some (.int (nI (w))), some (.int (nI (g))), some (.int (nI (s))), none]) (by exact (And.intro rfl (And.intro rfl (And.intro rfl (And.intro rfl True.intro))))) ?_
  refine x_aload_n rfl d_X7_panel_0 ?_
  refine x_getf co_all (v := .int (nI (V 1 0))) d_X7_panel_1 fk_7_61 (o7_o C.1.1) rfl ?_
  refine x_bipush (v := nI 12) (by decide) d_X7_panel_4 ?_
  refine x_icmp_geN (tgt := 19) d_X7_panel_6 (by decide) (by omega) (by omega) (fun c_1 => by exfalso; omega) (fun c_1 => ?_)
  refine x_iload_n rfl d_X7_panel_9 ?_
  refine x_iconst (v := nI 1) (by decide) d_X7_panel_10 ?_
  refine x_bipush (v := nI 24) (by decide) d_X7_panel_11 ?_
  refine x_rdS d_X7_panel_13 lk_7_64 mo_X7_within sc_X7_within (sp_within (nI (w)) (nI (1)) (nI (24))) rfl ⟨Nat.le_of_ble_eq_true rfl, Nat.le_of_ble_eq_true rfl⟩ rfl rfl (Nat.zero_le _) (Nat.zero_le _) (Nat.le_of_ble_eq_true rfl) rfl ?_
  rw [nB_ge (a := 1) (b := w) (c := 24) rfl rfl rfl (by decide) (by omega) (by decide) ⟨hw1, hw2⟩]
  refine x_if_neN (tgt := 21) d_X7_panel_16 (by decide) (by omega) (fun c_2 => ?_) (fun c_2 => by exfalso; exact absurd c_2 (by decide))
  refine x_iload_n rfl d_X7_panel_21 ?_
  refine x_iconst (v := nI 1) (by decide) d_X7_panel_22 ?_
  refine x_sipush (v := nI 1000) (by decide) d_X7_panel_23 ?_
  refine x_rdS d_X7_panel_26 lk_7_64 mo_X7_within sc_X7_within (sp_within (nI (g)) (nI (1)) (nI (1000))) rfl ⟨Nat.le_of_ble_eq_true rfl, Nat.le_of_ble_eq_true rfl⟩ rfl rfl (Nat.zero_le _) (Nat.zero_le _) (Nat.le_of_ble_eq_true rfl) rfl ?_
  rw [nB_ge (a := 1) (b := g) (c := 1000) rfl rfl rfl (by decide) (by omega) (by decide) ⟨hg1, hg2⟩]
  refine x_if_eqN (tgt := 42) d_X7_panel_29 (by decide) (by omega) (fun c_3 => by exfalso; exact absurd c_3 (by decide)) (fun c_3 => ?_)
  refine x_iload_n rfl d_X7_panel_32 ?_
  refine x_iconst (v := nI 1) (by decide) d_X7_panel_33 ?_
  refine x_ldc (v := nI 1000000) d_X7_panel_34 ct_7_68 ?_
  refine x_rdS d_X7_panel_36 lk_7_64 mo_X7_within sc_X7_within (sp_within (nI (s)) (nI (1)) (nI (1000000))) rfl ⟨Nat.le_of_ble_eq_true rfl, Nat.le_of_ble_eq_true rfl⟩ rfl rfl (Nat.zero_le _) (Nat.zero_le _) (Nat.le_of_ble_eq_true rfl) rfl ?_
  rw [nB_ge (a := 1) (b := s) (c := 1000000) rfl rfl rfl (by decide) (by omega) (by decide) ⟨hs1, hs2⟩]
  refine x_if_neN (tgt := 44) d_X7_panel_39 (by decide) (by omega) (fun c_4 => ?_) (fun c_4 => by exfalso; exact absurd c_4 (by decide))
  refine x_new co_all d_X7_panel_44 nn_7_9 df_2 (Nat.le_of_ble_eq_true rfl) (Nat.le_of_ble_eq_true rfl) ?_
  have B0 := nBld_new hw 2 [.int 0, .int 0, .int 0, .int 0, .null, .int 0, .null]
  rw [hzz] at B0 ⊢
  refine x_dup rfl d_X7_panel_47 ?_
  refine x_iload_n rfl d_X7_panel_48 ?_
  refine x_iload_n rfl d_X7_panel_49 ?_
  refine x_wvI d_X7_panel_50 lk_7_69 mo_X2_init ii_X2_init rfl (sp_panInit B0) rfl ⟨Nat.le_of_ble_eq_true rfl, Nat.le_of_ble_eq_true rfl⟩ (Nat.le_of_ble_eq_true rfl) (Nat.le_of_ble_eq_true rfl) (Nat.le_of_ble_eq_true rfl) rfl (fun h2 hp e1 e2 => ?_)
  obtain ⟨M, HP⟩ := hp
  rw [← hzz] at M
  have M := nMk_new M
  have hw2 := M.2.2.2.2
  have hz2 : h2.2.2.1 = z + 3 := by rw [M.2.2.1, hzz]
  refine x_astore d_X7_panel_53 (Nat.le_of_ble_eq_true rfl) ?_
  refine x_aload rfl d_X7_panel_55 ?_
  refine x_new co_all d_X7_panel_57 nn_7_72 df_3 (Nat.le_of_ble_eq_true rfl) (Nat.le_of_ble_eq_true rfl) ?_
  have B1 := nBld_new hw2 3 [.int 0, .null, .null, .null, .null, .null, .null]
  rw [hz2] at B1 ⊢
  refine x_dup rfl d_X7_panel_60 ?_
  refine x_iload_n rfl d_X7_panel_61 ?_
  refine x_wvI d_X7_panel_62 lk_7_74 mo_X3_init ii_X3_init rfl (sp_rowInit B1 (by omega)) rfl ⟨Nat.le_of_ble_eq_true rfl, Nat.le_of_ble_eq_true rfl⟩ (Nat.le_of_ble_eq_true rfl) (Nat.le_of_ble_eq_true rfl) (Nat.le_of_ble_eq_true rfl) rfl (fun h3 hp e3 e4 => ?_)
  obtain ⟨M3, HR⟩ := hp
  rw [← hz2] at M3
  have M3 := nMk_new M3
  have hw3 := M3.2.2.2.2
  have W2 : pW h2 z (pNew g s) (fun _ _ _ => 0) := ⟨HP, by show 0 ≤ 20; omega, fun r hr => absurd hr (Nat.not_lt_zero r), fun r r2 hr => absurd hr (Nat.not_lt_zero r)⟩
  have HP3 : o2 h3 z (pNew g s) := o2_kept HP M3.2.1 (fun q q1 q2 => M3.2.2.2.1 q (by omega))
  refine x_wvV d_X7_panel_65 lk_7_77 mo_X2_append vi_X2_append (sp_append HP3 (by show 0 < 20; omega) HR) (o2_o HP3) ⟨_, rfl, rfl⟩ rfl ⟨Nat.le_of_ble_eq_true rfl, Nat.le_of_ble_eq_true rfl⟩ (Nat.le_of_ble_eq_true rfl) (Nat.le_of_ble_eq_true rfl) (Nat.le_of_ble_eq_true rfl) rfl (fun h4 hp e5 e6 => ?_)
  obtain ⟨F4, H4⟩ := hp
  have HR4 : o3 h4 (z + 3) (rNew w) := o3_fr HR F4 (fun q g1 g2 g3 => by have := g3.2; omega)
  have W4 : pW h4 z (pAp (pNew g s) (z + 3)) (uR (fun _ _ _ => 0) 0 (rNew w)) := pW_app W2 hw2 (by omega) (by show 0 < 20; omega) (fun q q1 q2 => (F4.2.2.2.2 q q2).trans (M3.2.2.2.1 q q1)) (F4.2.1.trans M3.2.1) H4 HR4 (rOK_new (by omega))
  have K4 : ∀ q, q < z → nAt h4 q = nAt h q := fun q hq => (F4.2.2.2.2 q (fun z => by have := z.1; omega)).trans ((M3.2.2.2.1 q (by omega)).trans (M.2.2.2.1 q (by omega)))
  have eB4 : h4.2.1 = h.2.1 := F4.2.1.trans (M3.2.1.trans M.2.1)
  have CF4 : cF h4 a V E Y T S := cF_kept C.1 eB4 (fun q q1 q2 => K4 q (by omega))
  refine x_aload_n rfl d_X7_panel_68 ?_
  refine x_aload rfl d_X7_panel_69 ?_
  refine x_wvV d_X7_panel_71 lk_7_81 mo_X7_keep vi_X7_keep (sp_keep CF4.1 hn W4.1) (o7_o CF4.1) ⟨_, rfl, rfl⟩ rfl ⟨Nat.le_of_ble_eq_true rfl, Nat.le_of_ble_eq_true rfl⟩ (Nat.le_of_ble_eq_true rfl) (Nat.le_of_ble_eq_true rfl) (Nat.le_of_ble_eq_true rfl) rfl (fun h5 hp e7 e8 => ?_)
  obtain ⟨F5, H5⟩ := hp
  have hz5 : h5.2.2.1 = z + 10 := by rw [F5.2.2.1, F4.2.2.1, M3.2.2.1, hz2]
  refine x_ireturn d_X7_panel_74 rfl rfl (by rw [F5.1, F4.1, M3.1, M.1]) (by rw [F5.2.1, eB4]) (Nat.le_of_ble_eq_true rfl) (Nat.le_of_ble_eq_true rfl) ⟨rfl, ?_⟩
  have hpz : ∀ q, nIv a 3 q → nIv a 82 q := nFr_up (Nat.le_refl _) (by omega)
  refine cW_n2 C hn (F5.2.2.2.1 (F4.2.2.2.1 hw3)) (by rw [F5.1, F4.1, M3.1, M.1]) (by rw [F5.2.1, eB4]) (by omega) (fun q q1 q2 => (F5.2.2.2.2 q (fun z => q2 (hpz q z))).trans (K4 q (by omega))) (cF_V CF4 F5 H5) (pW_fr W4 F5 (fun q g1 g2 g3 => by have := g3.2; omega) (fun r hr q g1 g2 g3 => ?_)) (by rw [pAp_5]; omega) (by omega) (fun r hr => ?_)
  · have e0 : r = 0 := by rw [pAp_5] at hr; have : r < 0 + 1 := hr; omega
    subst e0
    rw [pAp_4, if_pos (show 0 = pNew g s 5 0 from rfl)] at g1
    have := g3.2
    omega
  · have e0 : r = 0 := by rw [pAp_5] at hr; have : r < 0 + 1 := hr; omega
    subst e0
    rw [pAp_4, if_pos (show 0 = pNew g s 5 0 from rfl)]
    omega
