/-! class and model, side by side: each call -/
theorem ct_panel {h : nPH} {a b : Nat} (G0 : wB h a b) {w g s : Int32} : bI YX7_panel YX8_panel a b [.int w, .int g, .int s] h := by
  have G := G0
  obtain ⟨M, V, P, R, E, Y, T, S, C, H, W, O, K⟩ := G
  have n12 := O.1
  by_cases hn : V 1 0 < 12
  rotate_left
  · exact ⟨_, bV_rd G0 (cl_panelF C (by omega)) (md_panelF H W O (by omega))⟩
  by_cases h_w : nI 1 ≤ w ∧ w ≤ nI 24
  rotate_left
  · exact ⟨_, bV_rd G0 (cl_panelW C hn h_w) (md_panelW H W O hn h_w)⟩
  obtain ⟨w, rfl, w1, w2⟩ := nI_rg (by omega) (by omega) h_w
  by_cases h_g : nI 1 ≤ g ∧ g ≤ nI 1000
  rotate_left
  · exact ⟨_, bV_rd G0 (cl_panelB C hn w1 w2 h_g) (md_panelB H W O hn w1 w2 h_g)⟩
  obtain ⟨g, rfl, g1, g2⟩ := nI_rg (by omega) (by omega) h_g
  by_cases h_s : nI 1 ≤ s ∧ s ≤ nI 1000000
  rotate_left
  · exact ⟨_, bV_rd G0 (cl_panelS C hn w1 w2 g1 g2 h_s) (md_panelS H W O hn w1 w2 g1 g2 h_s)⟩
  obtain ⟨s, rfl, s1, s2⟩ := nI_rg (by omega) (by omega) h_s
  exact ⟨_, bV_ch H (cl_panel C hn w1 w2 g1 g2 s1 s2) (kO_new O h.2.2.1 hn (kP_one w1 w2 g1 g2 s1 s2)) (K) (fun h2 H2 => md_panel H2 W O h.2.2.1 (h.2.2.1 + 3) hn w1 w2 g1 g2 s1 s2)⟩
theorem ct_row {h : nPH} {a b : Nat} (G0 : wB h a b) {p : Int32} : bI YX7_row YX8_row a b [.int p] h := by
  have G := G0
  obtain ⟨M, V, P, R, E, Y, T, S, C, H, W, O, K⟩ := G
  have n12 := O.1
  by_cases hp0 : nIn p (V 1 0)
  rotate_left
  · exact ⟨_, bV_rd G0 (cl_rowP C hp0) (md_rowP H W O hp0)⟩
  obtain ⟨p, hp, rfl⟩ := nIn_of hp0 (by omega)
  have Kp := O.2.2.2 p hp
  by_cases hno : 20 ≤ P p 5 0 ∨ ¬ (1 ≤ off (R p (P p 5 0 - 1)) (R p (P p 5 0 - 1) 0 0) ∧ off (R p (P p 5 0 - 1)) (R p (P p 5 0 - 1) 0 0) ≤ 24)
  · exact ⟨_, bV_rd G0 (cl_rowN C hp hno) (md_rowN H W O hp hno)⟩
  have h20 : P p 5 0 < 20 := by omega
  have hof : 1 ≤ off (R p (P p 5 0 - 1)) (R p (P p 5 0 - 1) 0 0) ∧ off (R p (P p 5 0 - 1)) (R p (P p 5 0 - 1) 0 0) ≤ 24 := by omega
  have k1 := Kp.1
  have O2 := kO_rw O (r := P p 5 0 - 1) h.2.2.1 hp (by omega) (by omega) rfl hof.1 hof.2
  rw [show P p 5 0 - 1 + 1 = P p 5 0 by omega] at O2
  exact ⟨_, bV_ch H (cl_row C hp h20 hof.1 hof.2) (O2) (K) (fun h2 H2 => md_row H2 W O h.2.2.1 hp h20 hof.1 hof.2)⟩
theorem ct_kind {h : nPH} {a b : Nat} (G0 : wB h a b) {p k z : Int32} : bI YX7_kind YX8_kind a b [.int p, .int k, .int z] h := by
  have G := G0
  obtain ⟨M, V, P, R, E, Y, T, S, C, H, W, O, K⟩ := G
  have n12 := O.1
  by_cases hp0 : nIn p (V 1 0)
  rotate_left
  · exact ⟨_, bV_rd G0 (cl_kindP C hp0) (md_kindP H W O hp0)⟩
  obtain ⟨p, hp, rfl⟩ := nIn_of hp0 (by omega)
  have Kp := O.2.2.2 p hp
  have k1 := Kp.1
  have k20 := Kp.2.1
  have hpl := (Kp.2.2.1 (P p 5 0 - 1) (by omega)).1
  by_cases hk0 : nIn k (R p (P p 5 0 - 1) 0 0)
  rotate_left
  · exact ⟨_, bV_rd G0 (cl_kindK C hp hk0) (md_kindK H W O hp hk0)⟩
  obtain ⟨k, hk, rfl⟩ := nIn_of hk0 (by omega)
  by_cases h_z : nI 0 ≤ z ∧ z ≤ nI 2
  rotate_left
  · exact ⟨_, bV_rd G0 (cl_kindZ C hp hk h_z) (md_kindZ H W O hp hk h_z)⟩
  obtain ⟨z, rfl, z1, z2⟩ := nI_rg (by omega) (by omega) h_z
  by_cases h0 : z = 2 ∧ k = 0
  · obtain ⟨rfl, rfl⟩ := h0
    exact ⟨_, bV_rd G0 (cl_kind0 C hp hk) (md_kind0 H W O hp hk)⟩
  exact ⟨_, bV_ch H (cl_kind C hp hk z2 h0) (kO_kind O z2) (K) (fun h2 H2 => md_kind H2 W O hp hk z2 h0)⟩
theorem ct_shape {h : nPH} {a b : Nat} (G0 : wB h a b) {p n e z : Int32} : bI YX7_shape YX8_shape a b [.int p, .int n, .int e, .int z] h := by
  have G := G0
  obtain ⟨M, V, P, R, E, Y, T, S, C, H, W, O, K⟩ := G
  have n12 := O.1
  by_cases hp0 : nIn p (V 1 0)
  rotate_left
  · exact ⟨_, bV_rd G0 (cl_shapeP C hp0) (md_shapeP H W O hp0)⟩
  obtain ⟨p, hp, rfl⟩ := nIn_of hp0 (by omega)
  have Kp := O.2.2.2 p hp
  by_cases h_n : nI 1 ≤ n ∧ n ≤ nI 19
  rotate_left
  · exact ⟨_, bV_rd G0 (cl_shapeN C hp h_n) (md_shapeN H W O hp h_n)⟩
  obtain ⟨n, rfl, n1, n2⟩ := nI_rg (by omega) (by omega) h_n
  by_cases hr : rul e z
  rotate_left
  · exact ⟨_, bV_rd G0 (cl_shapeR C hp n1 n2 hr) (md_shapeR H W O hp n1 n2 hr)⟩
  obtain ⟨he, hz⟩ := hr
  obtain ⟨e, rfl, e1, e2⟩ := nI_rg (by omega) (by omega) he
  obtain ⟨z, rfl, z1, z2⟩ : ∃ z2 : Nat, z = nI z2 ∧ 1 ≤ z2 ∧ z2 ≤ 2 := by
    rcases hz with y | y
    · exact ⟨1, y, by omega, by omega⟩
    · exact ⟨2, y, by omega, by omega⟩
  have k1 := Kp.1
  have k20 := Kp.2.1
  by_cases hb : (R p (P p 5 0 - 1) 0 0) = 0 ∨ 20 - P p 5 0 < n
  · exact ⟨_, bV_rd G0 (cl_shape0 C hp n1 n2 e1 e2 z1 z2 hb) (md_shape0 H W O hp n1 n2 e1 e2 z1 z2 hb)⟩
  by_cases hs : shB (R p (P p 5 0 - 1) 0 0) e z n
  · exact ⟨_, bV_ch H (cl_shape C hp n1 n2 e1 e2 z1 z2 (by omega) (by omega) hs) (kO_sh O hp e1 z1 z2 (by omega) rfl (by omega) hs n (Nat.le_refl n)) (K) (fun h2 H2 => md_shape H2 W O h.2.2.1 hp n1 n2 e1 e2 z1 z2 (by omega) (by omega) hs)⟩
  · obtain ⟨i0, a1, a2, a3⟩ := fst_ex hs
    exact ⟨_, bV_rd G0 (cl_shapeF C hp n1 n2 e1 e2 z1 z2 (fun y => hb (Or.inl y)) (by omega) a1 a2 a3) (md_shapeF H W O hp n1 n2 e1 e2 z1 z2 (fun y => hb (Or.inl y)) (by omega) a1 a2 a3)⟩
theorem ct_ahead {h : nPH} {a b : Nat} (G0 : wB h a b) {w n e z : Int32} : bL YX7_ahead YX8_ahead a b [.int w, .int n, .int e, .int z] h := by
  have G := G0
  obtain ⟨M, V, P, R, E, Y, T, S, C, H, W, O, K⟩ := G
  have n12 := O.1
  by_cases h_w : nI 1 ≤ w ∧ w ≤ nI 1000
  rotate_left
  · exact ⟨_, bV_rd G0 (cl_aheadW C h_w) (md_aheadW H W O h_w)⟩
  obtain ⟨w, rfl, w1, w2⟩ := nI_rg (by omega) (by omega) h_w
  by_cases h_n : nI 1 ≤ n ∧ n ≤ nI 1000
  rotate_left
  · exact ⟨_, bV_rd G0 (cl_aheadN C w1 w2 h_n) (md_aheadN H W O w1 w2 h_n)⟩
  obtain ⟨n, rfl, n1, n2⟩ := nI_rg (by omega) (by omega) h_n
  by_cases hr : rul e z
  rotate_left
  · exact ⟨_, bV_rd G0 (cl_aheadR C w1 w2 n1 n2 hr) (md_aheadR H W O w1 w2 n1 n2 hr)⟩
  obtain ⟨he, hz⟩ := hr
  obtain ⟨e, rfl, e1, e2⟩ := nI_rg (by omega) (by omega) he
  obtain ⟨z, rfl, z1, z2⟩ : ∃ z2 : Nat, z = nI z2 ∧ 1 ≤ z2 ∧ z2 ≤ 2 := by
    rcases hz with y | y
    · exact ⟨1, y, by omega, by omega⟩
    · exact ⟨2, y, by omega, by omega⟩
  by_cases hs : ∀ i, i < n → shI w e z (i + 1) ≤ 1000000000000
  · exact ⟨_, bV_rd G0 (cl_aheadS C w1 w2 n1 n2 e1 e2 z1 z2 hs) (md_aheadS H W O w1 w2 n1 n2 e1 e2 z1 z2 hs)⟩
  · obtain ⟨i0, a1, a2, a3⟩ := fst_ex hs
    exact ⟨_, bV_rd G0 (cl_aheadX C w1 w2 n1 n2 e1 e2 z1 z2 a1 a2 (by omega)) (md_aheadX H W O w1 w2 n1 n2 e1 e2 z1 z2 a1 a2 (by omega))⟩
theorem ct_meshes {h : nPH} {a b : Nat} (G0 : wB h a b) {p r : Int32} : bI YX7_meshes YX8_meshes a b [.int p, .int r] h := by
  have G := G0
  obtain ⟨M, V, P, R, E, Y, T, S, C, H, W, O, K⟩ := G
  have n12 := O.1
  by_cases hp0 : nIn p (V 1 0)
  rotate_left
  · exact ⟨_, bV_rd G0 (cl_meshesP C hp0) (md_meshesP H W O hp0)⟩
  obtain ⟨p, hp, rfl⟩ := nIn_of hp0 (by omega)
  have Kp := O.2.2.2 p hp
  have k20 := Kp.2.1
  by_cases hr0 : nIn r (P p 5 0)
  · obtain ⟨r, hr, rfl⟩ := nIn_of hr0 (by omega)
    exact ⟨_, bV_rd G0 (cl_meshes C hp hr) (md_meshes H W O hp hr)⟩
  · exact ⟨_, bV_rd G0 (cl_meshesR C hp hr0) (md_meshesR H W O hp hr0)⟩
theorem ct_of {h : nPH} {a b : Nat} (G0 : wB h a b) {p r k c : Int32} : bI YX7_of YX8_of a b [.int p, .int r, .int k, .int c] h := by
  have G := G0
  obtain ⟨M, V, P, R, E, Y, T, S, C, H, W, O, K⟩ := G
  have n12 := O.1
  by_cases hp0 : nIn p (V 1 0)
  rotate_left
  · exact ⟨_, bV_rd G0 (cl_ofP C hp0) (md_ofP H W O hp0)⟩
  obtain ⟨p, hp, rfl⟩ := nIn_of hp0 (by omega)
  have Kp := O.2.2.2 p hp
  rcases rOff_or (P p 5 0) (R p) r k with hO | ⟨r, k, rfl, hr, rfl, hk⟩
  · exact ⟨_, bV_rd G0 (cl_ofO C hp hO) (md_ofO H W O hp hO)⟩
  have hpl := (Kp.2.2.1 r hr).1
  rcases nI_sm c (n := 6) (by decide) with hq | ⟨j, hj, rfl⟩
  · by_cases h10 : nI 10 ≤ c
    · have h10i := h10
      rw [Int32.le_iff_toInt_le, nI_toInt (by decide)] at h10i
      obtain ⟨c, c2, rfl⟩ := nI_nn (c := c) (by omega)
      have c1 := (nI_leI (by decide) c2).mp h10
      by_cases hs : c - 10 < R p r 5 k
      · exact ⟨_, bV_rd G0 (cl_of_s C hp hr hk c1 c2 hs) (md_of_s H W O hp hr hk c1 c2 hs)⟩
      · exact ⟨_, bV_rd G0 (cl_of_sN C hp hr hk c1 c2 (by omega)) (md_of_sN H W O hp hr hk c1 c2 (by omega))⟩
    · exact ⟨_, bV_rd G0 (cl_of_n C hp hr hk hq h10) (md_of_n H W O hp hr hk hq h10)⟩
  · match j, hj with
    | 0, _ => exact ⟨_, bV_rd G0 (cl_of_0 C hp hr hk) (md_of_0 H W O hp hr hk)⟩
    | 1, _ => exact ⟨_, bV_rd G0 (cl_of_1 C hp hr hk) (md_of_1 H W O hp hr hk)⟩
    | 2, _ => exact ⟨_, bV_rd G0 (cl_of_2 C hp hr hk) (md_of_2 H W O hp hr hk)⟩
    | 3, _ => exact ⟨_, bV_rd G0 (cl_of_3 C hp hr hk) (md_of_3 H W O hp hr hk)⟩
    | 4, _ =>
      by_cases hs : 0 < R p r 5 k
      · exact ⟨_, bV_rd G0 (cl_of_4 C hp hr hk hs) (md_of_4 H W O hp hr hk hs)⟩
      · exact ⟨_, bV_rd G0 (cl_of_4N C hp hr hk (by omega)) (md_of_4N H W O hp hr hk (by omega))⟩
    | 5, _ => exact ⟨_, bV_rd G0 (cl_of_5 C hp hr hk) (md_of_5 H W O hp hr hk)⟩
    | 6, _ => exact ⟨_, bV_rd G0 (cl_of_6 C hp hr hk) (md_of_6 H W O hp hr hk)⟩
    | j + 7, hj => exact absurd hj (by omega)
theorem ct_side {h : nPH} {a b : Nat} (G0 : wB h a b) {p r k s : Int32} {o : Nat} (ho : o ≤ 1) : bI YX7_side YX8_side a b [.int p, .int r, .int k, .int s, .int (nI o)] h := by
  have G := G0
  obtain ⟨M, V, P, R, E, Y, T, S, C, H, W, O, K⟩ := G
  have n12 := O.1
  by_cases hp0 : nIn p (V 1 0)
  rotate_left
  · exact ⟨_, bV_rd G0 (cl_sideP C hp0) (md_sideP H W O hp0)⟩
  obtain ⟨p, hp, rfl⟩ := nIn_of hp0 (by omega)
  have Kp := O.2.2.2 p hp
  rcases rOff_or (P p 5 0) (R p) r k with hO | ⟨r, k, rfl, hr, rfl, hk⟩
  · exact ⟨_, bV_rd G0 (cl_sideO C hp hO) (md_sideO H W O hp hO)⟩
  have hpl := (Kp.2.2.1 r hr).1
  have h5 := ((Kp.2.2.1 r hr).2 k (by omega)).2.2.2.2.1
  by_cases hs0 : nIn s (R p r 5 k)
  rotate_left
  · exact ⟨_, bV_rd G0 (cl_sideS C hp hr hk hs0) (md_sideS H W O hp hr hk hs0)⟩
  obtain ⟨s, hs, rfl⟩ := nIn_of hs0 (by omega)
  exact ⟨_, bV_ch H (cl_side C hp hr hk hs ho) (kO_side O (by omega) hs) (K) (fun h2 H2 => md_side H2 W O hp hr hk hs ho)⟩
theorem ct_cut {h : nPH} {a b : Nat} (G0 : wB h a b) {p r k : Int32} : bI YX7_cut YX8_cut a b [.int p, .int r, .int k] h := by
  have G := G0
  obtain ⟨M, V, P, R, E, Y, T, S, C, H, W, O, K⟩ := G
  have n12 := O.1
  by_cases hp0 : nIn p (V 1 0)
  rotate_left
  · exact ⟨_, bV_rd G0 (cl_cutP C hp0) (md_cutP H W O hp0)⟩
  obtain ⟨p, hp, rfl⟩ := nIn_of hp0 (by omega)
  have Kp := O.2.2.2 p hp
  rcases rOff_or (P p 5 0) (R p) r k with hO | ⟨r, k, rfl, hr, rfl, hk⟩
  · exact ⟨_, bV_rd G0 (cl_cutO C hp hO) (md_cutO H W O hp hO)⟩
  have hpl := (Kp.2.2.1 r hr).1
  exact ⟨_, bV_ch H (cl_cut C hp hr hk) (kO_cut O (by omega)) (K) (fun h2 H2 => md_cut H2 W O hp hr hk)⟩
theorem ct_tear {h : nPH} {a b : Nat} (G0 : wB h a b) {p r : Int32} : bI YX7_tear YX8_tear a b [.int p, .int r] h := by
  have G := G0
  obtain ⟨M, V, P, R, E, Y, T, S, C, H, W, O, K⟩ := G
  have n12 := O.1
  by_cases hp0 : nIn p (V 1 0)
  rotate_left
  · exact ⟨_, bV_rd G0 (cl_tearP C hp0) (md_tearP H W O hp0)⟩
  obtain ⟨p, hp, rfl⟩ := nIn_of hp0 (by omega)
  have Kp := O.2.2.2 p hp
  have k20 := Kp.2.1
  by_cases hr0 : nIn r (P p 5 0)
  rotate_left
  · exact ⟨_, bV_rd G0 (cl_tearR C hp hr0) (md_tearR H W O hp hr0)⟩
  obtain ⟨r, hr, rfl⟩ := nIn_of hr0 (by omega)
  by_cases h0 : R p r 0 0 = 0
  · exact ⟨_, bV_rd G0 (cl_tear0 C hp hr h0) (md_tear0 H W O hp hr h0)⟩
  by_cases hr1 : r + 1 < P p 5 0
  · exact ⟨_, bV_ch H (cl_tear C hp hr h0 hr1) (kO_tear O hp hr (fun s s1 s2 => by rw [uR_ne s2, uR_ne s1]) (by rw [uR_ne (by omega), uR_eq]) (fun _ => by rw [uR_eq])) (K) (fun h2 H2 => md_tear H2 W O hp hr h0 hr1)⟩
  · exact ⟨_, bV_ch H (cl_tearL C hp hr h0 hr1) (kO_tear O hp hr (fun s s1 s2 => by rw [uR_ne s1]) (by rw [uR_eq]) (fun z => absurd z hr1)) (K) (fun h2 H2 => md_tearL H2 W O hp hr h0 hr1)⟩
theorem ct_needle {h : nPH} {a b : Nat} (G0 : wB h a b) {p r k : Int32} {o : Nat} (ho : o ≤ 1) : bI YX7_needle YX8_needle a b [.int p, .int r, .int k, .int (nI o)] h := by
  have G := G0
  obtain ⟨M, V, P, R, E, Y, T, S, C, H, W, O, K⟩ := G
  have n12 := O.1
  by_cases hp0 : nIn p (V 1 0)
  rotate_left
  · exact ⟨_, bV_rd G0 (cl_needleP C hp0) (md_needleP H W O hp0)⟩
  obtain ⟨p, hp, rfl⟩ := nIn_of hp0 (by omega)
  have Kp := O.2.2.2 p hp
  rcases rOff_or (P p 5 0) (R p) r k with hO | ⟨r, k, rfl, hr, rfl, hk⟩
  · exact ⟨_, bV_rd G0 (cl_needleO C hp hO) (md_needleO H W O hp hO)⟩
  have hpl := (Kp.2.2.1 r hr).1
  match o, ho with
  | 0, _ => exact ⟨_, bV_ch H (cl_needle0 C hp hr hk) (kO_needle O (by omega)) (K) (fun h2 H2 => md_needle0 H2 W O hp hr hk)⟩
  | 1, _ => exact ⟨_, bV_ch H (cl_needle1 C hp hr hk) (kO_needle O (by omega)) (K) (fun h2 H2 => md_needle1 H2 W O hp hr hk)⟩
  | o + 2, ho => exact absurd ho (by omega)
theorem ct_hole {h : nPH} {a b : Nat} (G0 : wB h a b) {p r k : Int32} : bI YX7_hole YX8_hole a b [.int p, .int r, .int k] h := by
  have G := G0
  obtain ⟨M, V, P, R, E, Y, T, S, C, H, W, O, K⟩ := G
  have n12 := O.1
  by_cases hp0 : nIn p (V 1 0)
  rotate_left
  · exact ⟨_, bV_rd G0 (cl_holeP C hp0) (md_holeP H W O hp0)⟩
  obtain ⟨p, hp, rfl⟩ := nIn_of hp0 (by omega)
  have Kp := O.2.2.2 p hp
  rcases rOff_or (P p 5 0) (R p) r k with hO | ⟨r, k, rfl, hr, rfl, hk⟩
  · exact ⟨_, bV_rd G0 (cl_holeO C hp hO) (md_holeO H W O hp hO)⟩
  have hpl := (Kp.2.2.1 r hr).1
  obtain ⟨T0, hT⟩ := hTr_ex (P p) (R p) (24 * r + k)
  exact ⟨_, bV_wv H (cl_hole C hp hr hk Kp.2.2.2.1 hT) (fun h2 q => by
    obtain ⟨E2, hI, kb, cw⟩ := q
    refine ⟨V, P, R, E2, Y, T, S, kb, cw, O, ⟨⟨?_, ?_, ?_, fun j hj => ?_⟩, K.2⟩, fun H2 => md_hole H2 W O hp hr hk hT hI⟩
    · rw [hI.1.1]; omega
    · rw [hI.1.2.1]; exact fb_ct_le T0 480
    · rw [hI.1.2.2.1]; exact hod_le2 _ _ _ _
    · obtain ⟨x, -, -, -, -, e⟩ := hIs_k hI hj
      rw [e]
      omega)⟩
theorem ct_edge {h : nPH} {a b : Nat} (G0 : wB h a b) {i c : Int32} : bI YX7_edge YX8_edge a b [.int i, .int c] h := by
  have G := G0
  obtain ⟨M, V, P, R, E, Y, T, S, C, H, W, O, K⟩ := G
  have n12 := O.1
  by_cases hy : E 0 0 = 0
  · exact ⟨_, bV_rd G0 (cl_edge C (sp_hTellN C.1.2.1 K.1.1 K.1.2.1 K.1.2.2.1 hy)) (md_edge0 H W O ⟨K.1.1, K.1.2.1, K.1.2.2.1⟩ hy)⟩
  have e480 := K.1.2.1
  rcases nI_sm c (n := 4) (by decide) with hq | ⟨j, hj, rfl⟩
  · exact ⟨_, bV_rd G0 (cl_edge C (sp_hTell_o C.1.2.1 K.1.1 K.1.2.1 K.1.2.2.1 hy hq)) (md_edge_n H W O ⟨K.1.1, K.1.2.1, K.1.2.2.1⟩ hq hy)⟩
  · match j, hj with
    | 0, _ =>
      by_cases hi0 : nIn i (E 1 0)
      · obtain ⟨i, hi, rfl⟩ := nIn_of hi0 (by omega)
        exact ⟨_, bV_rd G0 (cl_edge C (sp_hTell_0 C.1.2.1 K.1.1 K.1.2.1 K.1.2.2.1 hy hi)) (md_edge_k H W O ⟨K.1.1, K.1.2.1, K.1.2.2.1⟩ hi hy)⟩
      · exact ⟨_, bV_rd G0 (cl_edge C (sp_hTell_0N C.1.2.1 K.1.1 K.1.2.1 K.1.2.2.1 hy hi0)) (md_edge_kN H W O ⟨K.1.1, K.1.2.1, K.1.2.2.1⟩ hi0 hy)⟩
    | 1, _ =>
      by_cases hi0 : nIn i (E 1 0)
      · obtain ⟨i, hi, rfl⟩ := nIn_of hi0 (by omega)
        exact ⟨_, bV_rd G0 (cl_edge C (sp_hTell_1 C.1.2.1 K.1.1 K.1.2.1 K.1.2.2.1 hy hi)) (md_edge_o H W O ⟨K.1.1, K.1.2.1, K.1.2.2.1⟩ hi (K.1.2.2.2 i hi) hy)⟩
      · exact ⟨_, bV_rd G0 (cl_edge C (sp_hTell_1N C.1.2.1 K.1.1 K.1.2.1 K.1.2.2.1 hy hi0)) (md_edge_oN H W O ⟨K.1.1, K.1.2.1, K.1.2.2.1⟩ hi0 hy)⟩
    | 2, _ => exact ⟨_, bV_rd G0 (cl_edge C (sp_hTell_2 C.1.2.1 K.1.1 K.1.2.1 K.1.2.2.1 hy)) (md_edge_2 H W O ⟨K.1.1, K.1.2.1, K.1.2.2.1⟩ hy)⟩
    | 3, _ => exact ⟨_, bV_rd G0 (cl_edge C (sp_hTell_3 C.1.2.1 K.1.1 K.1.2.1 K.1.2.2.1 hy)) (md_edge_3 H W O ⟨K.1.1, K.1.2.1, K.1.2.2.1⟩ hy)⟩
    | 4, _ => exact ⟨_, bV_rd G0 (cl_edge C (sp_hTell_4 C.1.2.1 K.1.1 K.1.2.1 K.1.2.2.1 hy)) (md_edge_4 H W O ⟨K.1.1, K.1.2.1, K.1.2.2.1⟩ hy)⟩
    | j + 5, hj => exact absurd hj (by omega)
theorem ct_mend {h : nPH} {a b : Nat} (G0 : wB h a b) {p r k : Int32} : bI YX7_mend YX8_mend a b [.int p, .int r, .int k] h := by
  have G := G0
  obtain ⟨M, V, P, R, E, Y, T, S, C, H, W, O, K⟩ := G
  have n12 := O.1
  by_cases hp0 : nIn p (V 1 0)
  rotate_left
  · exact ⟨_, bV_rd G0 (cl_mendP C hp0) (md_mendP H W O hp0)⟩
  obtain ⟨p, hp, rfl⟩ := nIn_of hp0 (by omega)
  have Kp := O.2.2.2 p hp
  rcases rOff_or (P p 5 0) (R p) r k with hO | ⟨r, k, rfl, hr, rfl, hk⟩
  · exact ⟨_, bV_rd G0 (cl_mendO C hp hO) (md_mendO H W O hp hO)⟩
  have hpl := (Kp.2.2.1 r hr).1
  obtain ⟨T0, hT⟩ := hTr_ex (P p) (R p) (24 * r + k)
  have hin : gIn (P p 5 0) (R p) (24 * r + k) := by
    unfold gIn
    rw [show (24 * r + k) / 24 = r by omega, show (24 * r + k) % 24 = k by omega]
    exact ⟨hr, hk⟩
  by_cases h1 : twn (fb_ct T0 480) (hod (P p) (R p) T0 480) = 1
  rotate_left
  · exact ⟨_, bV_ch H (cl_mendT C hp hr hk Kp.2.2.2.1 hT h1) (O) (K) (fun h2 H2 => md_mendT H2 W O hp hr hk hT h1)⟩
  by_cases hnd : ∃ x, x < 480 ∧ T0 x = true ∧ R p (x / 24) 3 (x % 24) = 1
  · exact ⟨_, bV_ch H (cl_mendN C hp hr hk Kp.2.2.2.1 hT h1 hnd) (O) (K) (fun h2 H2 => md_mendN H2 W O hp hr hk hT h1 hnd)⟩
  have hne : ¬ fb_ct T0 480 = 0 := fun z => by rw [show twn (fb_ct T0 480) (hod (P p) (R p) T0 480) = 0 from if_pos z] at h1; omega
  obtain ⟨x0, B⟩ := hBg_ex (P := P p) (R := R p) hne
  obtain ⟨m, Rs, Ws, hm, hst, hend, hR0, hW0, Q⟩ := mend_ex Kp hin hT h1 B Y
  obtain ⟨-, Mm, -, l, -, q0, -, -, ql⟩ := wk_way Kp hin hT B.2.1 Q
  exact ⟨_, bV_ch H (cl_mend C hp hr hk Kp.2.2.2.1 hT h1 hnd B hm hst hend hR0 hW0) (kO_row O (fun _ => kP_md Kp Mm)) ⟨K.1, by rw [q0]; omega, K.2.2⟩ (fun h2 H2 => md_mend H2 W O hp hr hk hT h1 hnd B Q)⟩
theorem ct_way {h : nPH} {a b : Nat} (G0 : wB h a b) {i : Int32} : bI YX7_way YX8_way a b [.int i] h := by
  have G := G0
  obtain ⟨M, V, P, R, E, Y, T, S, C, H, W, O, K⟩ := G
  have n12 := O.1
  have y12 := K.2.1
  by_cases hi0 : nIn i (Y 0 0)
  · obtain ⟨i, hi, rfl⟩ := nIn_of hi0 (by omega)
    exact ⟨_, bV_rd G0 (cl_way C (by omega) hi) (md_way H W O K.2.1 hi)⟩
  · exact ⟨_, bV_rd G0 (cl_wayN C (by omega) hi0) (md_wayN H W O K.2.1 hi0)⟩
theorem ct_taper {h : nPH} {a b : Nat} (G0 : wB h a b) {w v d : Int32} : bI YX7_taper YX8_taper a b [.int w, .int v, .int d] h := by
  have G := G0
  obtain ⟨M, V, P, R, E, Y, T, S, C, H, W, O, K⟩ := G
  have n12 := O.1
  by_cases h_w : nI 1 ≤ w ∧ w ≤ nI 1000
  rotate_left
  · exact ⟨_, bV_rd G0 (cl_taperW C h_w) (md_taperW H W O h_w)⟩
  obtain ⟨w, rfl, w1, w2⟩ := nI_rg (by omega) (by omega) h_w
  by_cases h_v : nI 1 ≤ v ∧ v ≤ nI w
  rotate_left
  · exact ⟨_, bV_rd G0 (cl_taperV C w1 w2 h_v) (md_taperV H W O w1 w2 h_v)⟩
  obtain ⟨v, rfl, v1, v2⟩ := nI_rg (by omega) (by omega) h_v
  by_cases h_d : nI 1 ≤ d ∧ d ≤ nI 400
  rotate_left
  · exact ⟨_, bV_rd G0 (cl_taperD C w1 w2 v1 v2 h_d) (md_taperD H W O w1 w2 v1 v2 h_d)⟩
  obtain ⟨d, rfl, d1, d2⟩ := nI_rg (by omega) (by omega) h_d
  obtain ⟨l0, l1, l2, l3, l4⟩ := tp_ex (u := w - v) d1
  have ht := tpT_le (u := w - v) l2 d1
  exact ⟨_, bV_ch H (cl_taper C w1 w2 v1 v2 d1 d2 l1 l2 l3 l4) (O) (⟨K.1, K.2.1, fun _ => by rw [u2_ne (show ¬ (0 = 2 ∧ 0 = 0) by omega), u2_ne (show ¬ (0 = 1 ∧ 0 = 0) by omega), u2_eq, u2_ne (show ¬ (1 = 2 ∧ 0 = 0) by omega), u2_eq, u2_eq]; exact ⟨d1, l2, d2, by omega⟩, K.2.2.2⟩) (fun h2 H2 => md_taper H2 W O w1 w2 v1 v2 d1 d2 l1 l2 l3 l4)⟩
theorem ct_cycle {h : nPH} {a b : Nat} (G0 : wB h a b) {c : Int32} : bI YX7_cycle YX8_cycle a b [.int c] h := by
  have G := G0
  obtain ⟨M, V, P, R, E, Y, T, S, C, H, W, O, K⟩ := G
  have n12 := O.1
  by_cases hn : T 1 0 = 0
  · exact ⟨_, bV_rd G0 (cl_cycle C (sp_tell0 C.1.2.2.2.2.1 hn)) (md_cycle0 H W O K.2.2.1 hn)⟩
  obtain ⟨t1, t2, t3, t4⟩ := K.2.2.1 hn
  rcases nI_sm c (n := 3) (by decide) with hq | ⟨j, hj, rfl⟩
  · exact ⟨_, bV_rd G0 (cl_cycle C (sp_tellN C.1.2.2.2.2.1 (by omega) t3 (by omega) hq)) (md_cycle_n H W O K.2.2.1 hn hq)⟩
  · match j, hj with
    | 0, _ => exact ⟨_, bV_rd G0 (cl_cycle C (sp_tell_0 C.1.2.2.2.2.1 (by omega) t3 (by omega))) (md_cycle_0 H W O K.2.2.1 hn)⟩
    | 1, _ => exact ⟨_, bV_rd G0 (cl_cycle C (sp_tell_1 C.1.2.2.2.2.1 (by omega) t3 (by omega))) (md_cycle_1 H W O K.2.2.1 hn)⟩
    | 2, _ => exact ⟨_, bV_rd G0 (cl_cycle C (sp_tell_2 C.1.2.2.2.2.1 (by omega) t3 (by omega))) (md_cycle_2 H W O K.2.2.1 hn)⟩
    | 3, _ => exact ⟨_, bV_rd G0 (cl_cycle C (sp_tell_3 C.1.2.2.2.2.1 (by omega) t3 (by omega))) (md_cycle_3 H W O K.2.2.1 hn)⟩
    | j + 4, hj => exact absurd hj (by omega)
theorem ct_sew {h : nPH} {a b : Nat} (G0 : wB h a b) {p q : Int32} : bI YX7_sew YX8_sew a b [.int p, .int q] h := by
  have G := G0
  obtain ⟨M, V, P, R, E, Y, T, S, C, H, W, O, K⟩ := G
  have n12 := O.1
  by_cases hp0 : nIn p (V 1 0)
  rotate_left
  · exact ⟨_, bV_rd G0 (cl_sewP C hp0) (md_sewP H W O hp0)⟩
  obtain ⟨p, hp, rfl⟩ := nIn_of hp0 (by omega)
  have Kp := O.2.2.2 p hp
  by_cases hq0 : nIn q (V 1 0)
  rotate_left
  · exact ⟨_, bV_rd G0 (cl_sewQ C hp hq0) (md_sewQ H W O hp hq0)⟩
  obtain ⟨q, hq, rfl⟩ := nIn_of hq0 (by omega)
  have Kq := O.2.2.2 q hq
  by_cases he : p = q ∨ 12 ≤ V 1 0
  · exact ⟨_, bV_rd G0 (cl_sewE C hp hq he) (md_sewE H W O hp hq he)⟩
  have hne : p ≠ q := fun z => he (Or.inl z)
  have hn : V 1 0 < 12 := by omega
  by_cases h20 : 20 < P p 5 0 + P q 5 0
  · exact ⟨_, bV_rd G0 (cl_sewR C hp hq hne hn h20) (md_sewR H W O hp hq hne hn h20)⟩
  have h20b : P p 5 0 + P q 5 0 ≤ 20 := by omega
  by_cases hu : fit (R p (P p 5 0 - 1) 0 0) (R q 0 0 0)
  rotate_left
  · exact ⟨_, bV_rd G0 (cl_sewU C hp hq hne hn h20b hu) (md_sewU H W O hp hq hne hn h20b hu)⟩
  have hu2 := hu
  obtain ⟨u1, u2_, u3, u4⟩ := hu2
  have k1 := Kp.1
  have q1 := Kq.1
  have l1 := (Kp.2.2.1 (P p 5 0 - 1) (by omega)).1
  have l2 := (Kq.2.2.1 0 (by omega)).1
  exact ⟨_, bV_ch H (cl_sew C hp hq hne hn h20b hu) (kO_new O h.2.2.1 hn (kP_sw O hp hq (a := P p 5 0 - 1) (by omega) rfl (by omega) rfl rfl (by omega) (by omega) u4 h.2.2.1)) (⟨K.1, K.2.1, K.2.2.1, by unfold sJn; split; { show (if (0 : Nat) = 0 ∧ (0 : Nat) = 0 then _ else _) ≤ 24; rw [if_pos ⟨rfl, rfl⟩]; exact l1 }; { show (if (0 : Nat) = 0 ∧ (0 : Nat) = 0 then _ else _) ≤ 24; rw [if_pos ⟨rfl, rfl⟩]; exact l2 }⟩) (fun h2 H2 => md_sew H2 W O h.2.2.1 h.2.2.1 hp hq hne hn h20b hu)⟩
theorem ct_match {h : nPH} {a b : Nat} (G0 : wB h a b) {i : Int32} : bI YX7_match YX8_match a b [.int i] h := by
  have G := G0
  obtain ⟨M, V, P, R, E, Y, T, S, C, H, W, O, K⟩ := G
  have n12 := O.1
  have s24 := K.2.2.2
  by_cases hi0 : nIn i (S 0 0)
  · obtain ⟨i, hi, rfl⟩ := nIn_of hi0 (by omega)
    exact ⟨_, bV_rd G0 (cl_match C K.2.2.2 hi) (md_match H W O K.2.2.2 hi)⟩
  · exact ⟨_, bV_rd G0 (cl_matchN C K.2.2.2 hi0) (md_matchN H W O K.2.2.2 hi0)⟩
theorem ct_hang {h : nPH} {a b : Nat} (G0 : wB h a b) {p x y : Int32} : bI YX7_hang YX8_hang a b [.int p, .int x, .int y] h := by
  have G := G0
  obtain ⟨M, V, P, R, E, Y, T, S, C, H, W, O, K⟩ := G
  have n12 := O.1
  by_cases hp0 : nIn p (V 1 0)
  rotate_left
  · exact ⟨_, bV_rd G0 (cl_hangP C hp0) (md_hangP H W O hp0)⟩
  obtain ⟨p, hp, rfl⟩ := nIn_of hp0 (by omega)
  have Kp := O.2.2.2 p hp
  by_cases h_y : nI 1 ≤ y ∧ y ≤ nI 1000
  rotate_left
  · exact ⟨_, bV_rd G0 (cl_hangY C hp h_y) (md_hangY H W O hp h_y)⟩
  obtain ⟨y, rfl, y1, y2⟩ := nI_rg (by omega) (by omega) h_y
  by_cases h_x : nI 1 ≤ x ∧ x ≤ nI y
  rotate_left
  · exact ⟨_, bV_rd G0 (cl_hangX C hp y1 y2 h_x) (md_hangX H W O hp y1 y2 h_x)⟩
  obtain ⟨x, rfl, x1, x2⟩ := nI_rg (by omega) (by omega) h_x
  exact ⟨_, bV_ch H (cl_hang C hp y1 y2 x1 x2) (kO_hang O hp x1 x2 y2) (K) (fun h2 H2 => md_hang H2 W O hp y1 y2 x1 x2)⟩
theorem ct_parts {h : nPH} {a b : Nat} (G0 : wB h a b) {n : Int32} : bI YX7_parts YX8_parts a b [.int n] h := by
  have G := G0
  obtain ⟨M, V, P, R, E, Y, T, S, C, H, W, O, K⟩ := G
  have n12 := O.1
  by_cases hn : -1 ≤ n ∧ n ≤ nI 101
  rotate_left
  · exact ⟨_, bV_rd G0 (cl_partsN C hn) (md_partsN H W O hn)⟩
  obtain ⟨m, rfl, hm⟩ : ∃ m : Nat, n = nV m ∧ m ≤ 102 := by
    obtain ⟨a1, a2⟩ := hn
    rw [Int32.le_iff_toInt_le, show (-1 : Int32).toInt = -1 by decide] at a1
    rw [Int32.le_iff_toInt_le, nI_toInt (by decide)] at a2
    refine ⟨(n.toInt + 1).toNat, Int32.toInt_inj.mp ?_, by omega⟩
    rw [nV_i (by omega)]
    omega
  exact ⟨_, bV_ch H (cl_parts C hm) (kO_parts O hm) (K) (fun h2 H2 => md_parts H2 W O hm)⟩
theorem ct_part {h : nPH} {a b : Nat} (G0 : wB h a b) {i v : Int32} : bI YX7_part YX8_part a b [.int i, .int v] h := by
  have G := G0
  obtain ⟨M, V, P, R, E, Y, T, S, C, H, W, O, K⟩ := G
  have n12 := O.1
  have hv := O.2.1
  by_cases hi : ∃ j : Nat, i = nI j ∧ j + 1 < V 3 0
  rotate_left
  · exact ⟨_, bV_rd G0 (cl_partI C hv hi) (md_partI H W O hi)⟩
  obtain ⟨j, rfl, hj⟩ := hi
  by_cases h_v : nI 0 ≤ v ∧ v ≤ nI 100
  rotate_left
  · exact ⟨_, bV_rd G0 (cl_partV C hv hj h_v) (md_partV H W O hj h_v)⟩
  obtain ⟨v, rfl, v1, v2⟩ := nI_rg (by omega) (by omega) h_v
  exact ⟨_, bV_ch H (cl_part C hv hj v2) (kO_part O v2) (K) (fun h2 H2 => md_part H2 W O hj v2)⟩
theorem ct_open {h : nPH} {a b : Nat} (G0 : wB h a b) {p : Int32} : bI YX7_open YX8_open a b [.int p] h := by
  have G := G0
  obtain ⟨M, V, P, R, E, Y, T, S, C, H, W, O, K⟩ := G
  have n12 := O.1
  by_cases hp0 : nIn p (V 1 0)
  rotate_left
  · exact ⟨_, bV_rd G0 (cl_openP C hp0) (md_openP H W O hp0)⟩
  obtain ⟨p, hp, rfl⟩ := nIn_of hp0 (by omega)
  have Kp := O.2.2.2 p hp
  obtain ⟨⟨b0, b0b⟩, -, b5, b4, b3⟩ := Kp.2.2.2.2.2.1
  have b1 : P p 2 0 ≤ 1000 := by omega
  have b2 : 1 ≤ P p 3 0 := by omega
  exact ⟨_, bV_rd G0 (cl_open C hp b1 b2 b3 b4 O.2.1) (md_open H W O hp)⟩
theorem ct_slips {h : nPH} {a b : Nat} (G0 : wB h a b) {p g : Int32} : bI YX7_slips YX8_slips a b [.int p, .int g] h := by
  have G := G0
  obtain ⟨M, V, P, R, E, Y, T, S, C, H, W, O, K⟩ := G
  have n12 := O.1
  by_cases hp0 : nIn p (V 1 0)
  rotate_left
  · exact ⟨_, bV_rd G0 (cl_slipsP C hp0) (md_slipsP H W O hp0)⟩
  obtain ⟨p, hp, rfl⟩ := nIn_of hp0 (by omega)
  have Kp := O.2.2.2 p hp
  obtain ⟨⟨b0, b0b⟩, -, b5, b4, b3⟩ := Kp.2.2.2.2.2.1
  have b1 : P p 2 0 ≤ 1000 := by omega
  have b2 : 1 ≤ P p 3 0 := by omega
  by_cases h_g : nI 0 ≤ g ∧ g ≤ nI 1000000
  rotate_left
  · exact ⟨_, bV_rd G0 (cl_slipsG C hp h_g) (md_slipsG H W O hp h_g)⟩
  obtain ⟨g, rfl, g1, g2⟩ := nI_rg (by omega) (by omega) h_g
  by_cases ho : 100 * P p 2 0 / P p 3 0 + 1 < V 3 0
  · have h100 : 100 * P p 2 0 / P p 3 0 ≤ 100 := Nat.div_le_of_le_mul (by rw [Nat.mul_comm]; exact Nat.mul_le_mul_right _ b4)
    exact ⟨_, bV_rd G0 (cl_slips C hp b1 b2 b3 b4 O.2.1 b0b g2 ho (O.2.2.1 _ (by omega))) (md_slips H W O hp g2 ho)⟩
  · exact ⟨_, bV_rd G0 (cl_slips0 C hp b1 b2 b3 b4 O.2.1 g2 ho) (md_slips0 H W O hp g2 ho)⟩
theorem ct_pull {h : nPH} {a b : Nat} (G0 : wB h a b) {p k v : Int32} : bI YX7_pull YX8_pull a b [.int p, .int k, .int v] h := by
  have G := G0
  obtain ⟨M, V, P, R, E, Y, T, S, C, H, W, O, K⟩ := G
  have n12 := O.1
  by_cases hp0 : nIn p (V 1 0)
  rotate_left
  · exact ⟨_, bV_rd G0 (cl_pullP C hp0) (md_pullP H W O hp0)⟩
  obtain ⟨p, hp, rfl⟩ := nIn_of hp0 (by omega)
  have Kp := O.2.2.2 p hp
  rcases rOff_or (P p 5 0) (R p) (nI 0) k with hO | ⟨r, k, e0, hr, rfl, hk⟩
  · exact ⟨_, bV_rd G0 (cl_pullO C hp hO) (md_pullO H W O hp hO)⟩
  have k20 := Kp.2.1
  have er : r = 0 := by
    have := congrArg Int32.toInt e0
    rw [nI_toInt (by decide), nI_toInt (by omega)] at this
    omega
  subst er
  have hpl := (Kp.2.2.1 0 hr).1
  by_cases h_v : nI 0 ≤ v ∧ v ≤ nI 100
  rotate_left
  · exact ⟨_, bV_rd G0 (cl_pullV C hp hk h_v) (md_pullV H W O hp hk h_v)⟩
  obtain ⟨v, rfl, v1, v2⟩ := nI_rg (by omega) (by omega) h_v
  exact ⟨_, bV_ch H (cl_pull C hp hk v2) (kO_pull O hp v2) (K) (fun h2 H2 => md_pull H2 W O hp hk v2)⟩
theorem ct_load {h : nPH} {a b : Nat} (G0 : wB h a b) {p r k c : Int32} : bL YX7_load YX8_load a b [.int p, .int r, .int k, .int c] h := by
  have G := G0
  obtain ⟨M, V, P, R, E, Y, T, S, C, H, W, O, K⟩ := G
  have n12 := O.1
  by_cases hp0 : nIn p (V 1 0)
  rotate_left
  · exact ⟨_, bV_rd G0 (cl_loadP C hp0) (md_loadP H W O hp0)⟩
  obtain ⟨p, hp, rfl⟩ := nIn_of hp0 (by omega)
  have Kp := O.2.2.2 p hp
  rcases rOff_or (P p 5 0) (R p) r k with hO | ⟨r, k, rfl, hr, rfl, hk⟩
  · exact ⟨_, bV_rd G0 (cl_loadO C hp hO) (md_loadO H W O hp hO)⟩
  have hpl := (Kp.2.2.1 r hr).1
  exact ⟨_, bV_ch H (cl_load C hp hr hk Kp.2.2.2.1 Kp.2.2.2.2.1) (O) (K) (fun h2 H2 => md_load H2 W O hp hr hk)⟩
theorem ct_sum {h : nPH} {a b : Nat} (G0 : wB h a b) {p q c : Int32} : bL YX7_sum YX8_sum a b [.int p, .int q, .int c] h := by
  have G := G0
  obtain ⟨M, V, P, R, E, Y, T, S, C, H, W, O, K⟩ := G
  have n12 := O.1
  by_cases hp0 : nIn p (V 1 0)
  rotate_left
  · exact ⟨_, bV_rd G0 (cl_sumP C hp0) (md_sumP H W O hp0)⟩
  obtain ⟨p, hp, rfl⟩ := nIn_of hp0 (by omega)
  have Kp := O.2.2.2 p hp
  by_cases hq : nI 0 ≤ q ∧ q ≤ nI 1
  rotate_left
  · exact ⟨_, bV_rd G0 (cl_sumQ C hp hq) (md_sumQ H W O hp hq)⟩
  obtain ⟨q, rfl, q1, q2⟩ := nI_rg (by omega) (by omega) hq
  match q, q2 with
  | 0, _ => exact ⟨_, bV_ch H (cl_sum0 C hp Kp.2.2.2.1 Kp.2.2.2.2.1) (O) (K) (fun h2 H2 => md_sum0 H2 W O hp)⟩
  | 1, _ => exact ⟨_, bV_ch H (cl_sum1 C hp Kp.2.2.2.1 Kp.2.2.2.2.1) (O) (K) (fun h2 H2 => md_sum1 H2 W O hp)⟩
  | q + 2, q2 => exact absurd q2 (by omega)
theorem ct_weak {h : nPH} {a b : Nat} (G0 : wB h a b) {p : Int32} : bI YX7_weak YX8_weak a b [.int p] h := by
  have G := G0
  obtain ⟨M, V, P, R, E, Y, T, S, C, H, W, O, K⟩ := G
  have n12 := O.1
  by_cases hp0 : nIn p (V 1 0)
  rotate_left
  · exact ⟨_, bV_rd G0 (cl_weakP C hp0) (md_weakP H W O hp0)⟩
  obtain ⟨p, hp, rfl⟩ := nIn_of hp0 (by omega)
  have Kp := O.2.2.2 p hp
  have s1 := Kp.2.2.2.2.2.1.2.1.2
  by_cases hw : ∀ r, r < P p 5 0 → ∀ k, k < R p r 0 0 → ¬ P p 1 0 * 609359740010496 < uLd (P p 6) (R p) r k
  · exact ⟨_, bV_ch H (cl_weakN C hp Kp.2.2.2.1 Kp.2.2.2.2.1 (by omega) (fun r k hr hk => hw r hr k hk)) (O) (K) (fun h2 H2 => md_weakN H2 W O hp (fun r k hr hk => hw r hr k hk))⟩
  · obtain ⟨r0, a1, a2, a3⟩ := fst_ex hw
    obtain ⟨m, c1, c2, c3⟩ := fst_ex a3
    have c4 := Decidable.not_not.mp c3
    exact ⟨_, bV_ch H (cl_weakY C hp Kp.2.2.2.1 Kp.2.2.2.2.1 (by omega) a1 c1 (fun r k hr hk => a2 r hr k hk) c2 c4) (O) (K) (fun h2 H2 => md_weakY H2 W O hp a1 c1 (fun r k hr hk => a2 r hr k hk) c2 c4)⟩
theorem ct_count {h : nPH} {a b : Nat} (G0 : wB h a b) {c : Int32} : bI YX7_count YX8_count a b [.int c] h := by
  have G := G0
  obtain ⟨M, V, P, R, E, Y, T, S, C, H, W, O, K⟩ := G
  have n12 := O.1
  rcases nI_sm c (n := 2) (by decide) with hq | ⟨j, hj, rfl⟩
  · exact ⟨_, bV_rd G0 (cl_count_n C hq) (md_count_n H W O hq)⟩
  · match j, hj with
    | 0, _ => exact ⟨_, bV_rd G0 (cl_count_0 C ) (md_count_0 H W O )⟩
    | 1, _ => exact ⟨_, bV_rd G0 (cl_count_1 C ) (md_count_1 H W O )⟩
    | 2, _ => exact ⟨_, bV_rd G0 (cl_count_2 C ) (md_count_2 H W O )⟩
    | j + 3, hj => exact absurd hj (by omega)
theorem ct_panelOf {h : nPH} {a b : Nat} (G0 : wB h a b) {p c : Int32} : bI YX7_panelOf YX8_panelOf a b [.int p, .int c] h := by
  have G := G0
  obtain ⟨M, V, P, R, E, Y, T, S, C, H, W, O, K⟩ := G
  have n12 := O.1
  by_cases hp0 : nIn p (V 1 0)
  rotate_left
  · exact ⟨_, bV_rd G0 (cl_pOfP C hp0) (md_pOfP H W O hp0)⟩
  obtain ⟨p, hp, rfl⟩ := nIn_of hp0 (by omega)
  have Kp := O.2.2.2 p hp
  rcases nI_sm c (n := 4) (by decide) with hq | ⟨j, hj, rfl⟩
  · by_cases hc : nI 5 ≤ c ∧ c ≤ nI 8
    · obtain ⟨c, rfl, c1, c2⟩ := nI_rg (by omega) (by omega) hc
      exact ⟨_, bV_rd G0 (cl_pOf_t C hp c1 c2) (md_pOf_t H W O hp c1 c2)⟩
    · exact ⟨_, bV_rd G0 (cl_pOf_n C hp hq hc) (md_pOf_n H W O hp hq hc)⟩
  · match j, hj with
    | 0, _ => exact ⟨_, bV_rd G0 (cl_pOf_0 C hp) (md_pOf_0 H W O hp)⟩
    | 1, _ => exact ⟨_, bV_rd G0 (cl_pOf_1 C hp) (md_pOf_1 H W O hp)⟩
    | 2, _ => exact ⟨_, bV_rd G0 (cl_pOf_2 C hp) (md_pOf_2 H W O hp)⟩
    | 3, _ => exact ⟨_, bV_rd G0 (cl_pOf_3 C hp) (md_pOf_3 H W O hp)⟩
    | 4, _ => exact ⟨_, bV_rd G0 (cl_pOf_4 C hp) (md_pOf_4 H W O hp)⟩
    | j + 5, hj => exact absurd hj (by omega)
