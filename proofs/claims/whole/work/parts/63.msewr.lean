/-! the model: the sewn panel is the class's -/
theorem rW_sw {N V : Nat → Nat → Nat} {P : Nat → Nat → Nat → Nat} {R : Nat → Nat → Nat → Nat → Nat} {E Y T S : Nat → Nat → Nat} (W : rW N V P R E Y T S) (O : kO V P R) (hn12 : V 1 0 < 12) {p q a c pl ql : Nat} (hp : p < V 1 0) (hq : q < V 1 0) (ha : P p 5 0 = a + 1) (hc : P q 5 0 = c) (hac : a + 1 + c ≤ 20) (hpl : R p a 0 0 = pl) (hql : R q 0 0 0 = ql) (h1 : 1 ≤ pl) (h2 : 1 ≤ ql) (h3 : ql ≤ 2 * pl) (z z2 : Nat) : rW (mSw N (V 1 0) p q a c (P p 0 0) (P p 1 0) (P p 2 0) (P p 3 0) pl ql (rJn ql (rCp 6 (R p a)) 2)) (vAp V z) (uP P (V 1 0) (sQ (P p) (P q) z2)) (uP R (V 1 0) (sR (R p) (R q) (P p 5 0) (P q 5 0))) E Y T S := by
  have hn := W.1.1
  obtain ⟨p1, p2, p3, p4, p5, p6, p7, p8⟩ := rW_p W O hp
  obtain ⟨q1, q2, q3, q4, q5, q6, q7, q8⟩ := rW_p W O hq
  have rk := p7.2.2.1 a (by omega)
  have rq := q7.2.2.1 0 (by omega)
  have hpl24 : pl ≤ 24 := by rw [← hpl]; exact rk.1
  have hql24 : ql ≤ 24 := by rw [← hql]; exact rq.1
  obtain ⟨v1, v2, v3, v4, v5, v6, v7⟩ := mSw_h (N := N) (n := V 1 0) (p := p) (q := q) (a := a) (c := c) (g := P p 0 0) (s := P p 1 0) (x5 := P p 2 0) (x6 := P p 3 0) (pl := pl) (ql := ql) (G := rJn ql (rCp 6 (R p a)) 2) hn
  obtain ⟨s1, s2, s3, s4⟩ := sR_v (R p) (R q) a c
  rw [hql] at s2 s3
  rw [ha, hc]
  have hE := rOK_Jn (q := ql) (rOK_cp rk) (by rw [rCp_00, hpl]; omega) (by rw [rCp_00, hpl]; exact h3)
  have hE0 : rJn ql (rCp 6 (R p a)) 0 0 = pl := by rw [rJn_0, rCp_00, hpl]
  have wp := rW_1 W hp (r := a) (by omega)
  have wq := rW_1 W hq (r := 0) (by omega)
  have key : ∀ r, r < a + 1 + c → rw1 (sR (R p) (R q) (a + 1) c r) (mSw N (V 1 0) p q a c (P p 0 0) (P p 1 0) (P p 2 0) (P p 3 0) pl ql (rJn ql (rCp 6 (R p a)) 2)) (V 1 0) r := fun r hr => by
    rcases (show r < a ∨ r = a ∨ r = a + 1 ∨ (1 ≤ r - (a + 1) ∧ r = a + 1 + (r - (a + 1))) by omega) with e | e | e | ⟨e, e2⟩
    · rw [s1 r e]
      refine rw1_cp ⟨fun f hf => ?_, fun g k g1 g2 hk => ?_⟩ (rW_1 W hp (r := r) (by omega))
      · rw [(mSw_6 (by omega)).resolve_right (by omega), mS6_o (by omega) (by omega), mS5_8p hf (by omega)]
      · rw [(mSw_6 (by omega)).resolve_right (by omega), mS6_p (by omega), mS5_gp g1 g2 (by omega) hk]
    · subst e
      rw [s2]
      have e8 : ∀ f, f = 8 ∨ f = 9 → (mSw N (V 1 0) p q r c (P p 0 0) (P p 1 0) (P p 2 0) (P p 3 0) pl ql (rJn ql (rCp 6 (R p r)) 2)) f (20 * V 1 0 + r) = N f (20 * p + r) := fun f hf => by
        rw [(mSw_6 (by omega)).resolve_right (by omega), mS6_o (by omega) (by omega), mS5_8p hf (by omega)]
      have eg : ∀ g k, 10 ≤ g → g ≤ 15 → k < 24 → (g ≠ 10 ∧ g ≠ 11) ∨ pl ≤ k → (mSw N (V 1 0) p q r c (P p 0 0) (P p 1 0) (P p 2 0) (P p 3 0) pl ql (rJn ql (rCp 6 (R p r)) 2)) g (24 * (20 * V 1 0 + r) + k) = N g (24 * (20 * p + r) + k) := fun g k g1 g2 hk h => by
        rw [(mSw_6 (by omega)).resolve_right (by omega)]
        rcases h with h | h
        · rw [mS6_o h.1 h.2, mS5_gp g1 g2 (by omega) hk]
        · rw [mS6_p (by omega), mS5_gp g1 g2 (by omega) hk]
      have e10 : ∀ k, k < pl → (mSw N (V 1 0) p q r c (P p 0 0) (P p 1 0) (P p 2 0) (P p 3 0) pl ql (rJn ql (rCp 6 (R p r)) 2)) 10 (24 * (20 * V 1 0 + r) + k) = 3 := fun k hk => by
        rw [(mSw_6 (by omega)).resolve_right (by omega), mS6_10 hk]
      have e11 : ∀ k, k < pl → (mSw N (V 1 0) p q r c (P p 0 0) (P p 1 0) (P p 2 0) (P p 3 0) pl ql (rJn ql (rCp 6 (R p r)) 2)) 11 (24 * (20 * V 1 0 + r) + k) = rJn ql (rCp 6 (R p r)) 2 k := fun k hk => by
        rw [(mSw_6 (by omega)).resolve_right (by omega), mS6_11 hk]
      obtain ⟨⟨w1, w2, w3, w4⟩, w5, w6⟩ := wp
      refine ⟨⟨⟨?_, fun k hk => ?_⟩, ?_, fun k hk zz => ?_, fun k hk => ?_⟩, by rw [e8 8 (Or.inl rfl)]; exact w5, fun j hj => ?_⟩
      · rw [hE0, mR_0, e8 8 (Or.inl rfl), ← hpl]
        exact w1.1
      · rw [hE0] at hk
        have hk2 : k < 24 := by omega
        obtain ⟨y1, y2, y3, y5, y6, y4⟩ := w1.2 k (by omega)
        rw [mR_3] at y3
        rw [mR_5] at y5
        rw [mR_6] at y6
        rw [mR_1, mR_2, mR_3, mR_4, mR_5, mR_6, e10 k hk, e11 k hk, eg 15 k (by decide) (by decide) hk2 (Or.inl (by decide)), eg 13 k (by decide) (by decide) hk2 (Or.inl (by decide)), eg 14 k (by decide) (by decide) hk2 (Or.inl (by decide)), eg 12 k (by decide) (by decide) hk2 (Or.inl (by decide)), rJn_1 (by rw [rCp_00, hpl]; exact hk), rJn_f (f := 3) (by decide) (by decide), rJn_f (f := 4) (by decide) (by decide), rJn_f (f := 5) (by decide) (by decide), rJn_f (f := 6) (by decide) (by decide), rCp_f (by decide) (by decide) hk2, rCp_f (by decide) (by decide) hk2, rCp_f (by decide) (by decide) hk2, rCp_f (by decide) (by decide) hk2]
        exact ⟨rfl, rfl, y3, y5, y6, y4⟩
      · rw [hE0, e8 9 (Or.inr rfl), w2, hpl]
      · rw [hE0] at hk
        rw [eg 13 k (by decide) (by decide) (by omega) (Or.inl (by decide))] at zz
        rw [eg 12 k (by decide) (by decide) (by omega) (Or.inl (by decide))]
        exact w3 k (by omega) zz
      · by_cases ek : k < pl
        · rw [e11 k ek]
          exact (hE.2 k hk).2.1
        · rw [eg 11 k (by decide) (by decide) hk (Or.inr (by omega))]
          exact w4 k hk
      · have := w6 j hj
        show mK (mSw N (V 1 0) p q r c (P p 0 0) (P p 1 0) (P p 2 0) (P p 3 0) pl ql (rJn ql (rCp 6 (R p r)) 2)) _
        unfold mK at this ⊢
        rw [eg 12 j (by decide) (by decide) hj (Or.inl (by decide)), eg 13 j (by decide) (by decide) hj (Or.inl (by decide)), eg 14 j (by decide) (by decide) hj (Or.inl (by decide)), eg 15 j (by decide) (by decide) hj (Or.inl (by decide))]
        exact this
    · subst e
      rw [s3]
      have e8 : ∀ f, f = 8 ∨ f = 9 → (mSw N (V 1 0) p q a c (P p 0 0) (P p 1 0) (P p 2 0) (P p 3 0) pl ql (rJn ql (rCp 6 (R p a)) 2)) f (20 * V 1 0 + (a + 1)) = N f (20 * q + 0) := fun f hf => by
        rw [(mSw_6 (by omega)).resolve_right (by omega), mS6_o (by omega) (by omega)]
        exact mS5_8q (r := 0) hq hf (by omega) hac
      have eg : ∀ g k, 10 ≤ g → g ≤ 15 → k < 24 → g < 12 ∨ g = 15 ∨ ql ≤ k → (mSw N (V 1 0) p q a c (P p 0 0) (P p 1 0) (P p 2 0) (P p 3 0) pl ql (rJn ql (rCp 6 (R p a)) 2)) g (24 * (20 * V 1 0 + (a + 1)) + k) = N g (24 * (20 * q + 0) + k) := fun g k g1 g2 hk h => by
        rw [(mSw_6 (by omega)).resolve_right (by omega), mS6_p (by omega)]
        exact mS5_gq (r := 0) hq g1 g2 (by omega) hac hk
      have c0 : rJn ql (rCp 6 (R p a)) 0 0 = mR (mS6 N (V 1 0) p q a c (P p 0 0) (P p 1 0) (P p 2 0) (P p 3 0) pl (rJn ql (rCp 6 (R p a)) 2)) (V 1 0) a 0 0 := by
        rw [hE0, mR_0, mS6_o (by decide) (by decide), mS5_8p (Or.inl rfl) (by omega), ← hpl]
        exact wp.1.1.1
      have c2 : ∀ k, k < rJn ql (rCp 6 (R p a)) 0 0 → rJn ql (rCp 6 (R p a)) 2 k = mR (mS6 N (V 1 0) p q a c (P p 0 0) (P p 1 0) (P p 2 0) (P p 3 0) pl (rJn ql (rCp 6 (R p a)) 2)) (V 1 0) a 2 k := fun k hk => by
        rw [hE0] at hk
        rw [mR_2, mS6_11 hk]
      have cp : 0 < rJn ql (rCp 6 (R p a)) 0 0 := by rw [hE0]; omega
      have n12 : ∀ k, k < ql → (mSw N (V 1 0) p q a c (P p 0 0) (P p 1 0) (P p 2 0) (P p 3 0) pl ql (rJn ql (rCp 6 (R p a)) 2)) 12 (24 * (20 * V 1 0 + (a + 1)) + k) = fsO (rJn ql (rCp 6 (R p a))) k + 1 := fun k hk => by
        rw [mSw_v (by decide) (by decide) hk, if_pos rfl, fsO_cg c0 c2]
      have n13 : ∀ k, k < ql → (mSw N (V 1 0) p q a c (P p 0 0) (P p 1 0) (P p 2 0) (P p 3 0) pl ql (rJn ql (rCp 6 (R p a)) 2)) 13 (24 * (20 * V 1 0 + (a + 1)) + k) = sdO (rJn ql (rCp 6 (R p a))) k := fun k hk => by
        rw [mSw_v (by decide) (by decide) hk, if_neg (by decide), if_pos rfl, sdO_cg cp c0 c2]
      have n14 : ∀ k, k < ql → (mSw N (V 1 0) p q a c (P p 0 0) (P p 1 0) (P p 2 0) (P p 3 0) pl ql (rJn ql (rCp 6 (R p a)) 2)) 14 (24 * (20 * V 1 0 + (a + 1)) + k) = 0 := fun k hk => by
        rw [mSw_v (by decide) (by decide) hk, if_neg (by decide), if_neg (by decide)]
      have eX : rHG (rJn ql (rCp 6 (R p a))) ql (rCp 6 (R q 0)) 0 0 = ql := by rw [rHG_f (by decide), rCp_00, hql]
      obtain ⟨⟨w1, w2, w3, w4⟩, w5, w6⟩ := wq
      refine ⟨⟨⟨?_, fun k hk => ?_⟩, ?_, fun k hk zz => ?_, fun k hk => ?_⟩, by rw [e8 8 (Or.inl rfl)]; exact w5, fun j hj => ?_⟩
      · rw [eX, mR_0, e8 8 (Or.inl rfl), ← hql]
        exact w1.1
      · rw [eX] at hk
        have hk2 : k < 24 := by omega
        obtain ⟨y1, y2, y3, -⟩ := w1.2 k (by omega)
        rw [mR_1] at y1
        rw [mR_2] at y2
        rw [mR_3] at y3
        rw [mR_1, mR_2, mR_3, mR_4, mR_5, mR_6, n12 k hk, n13 k hk, n14 k hk, eg 10 k (by decide) (by decide) hk2 (Or.inl (by decide)), eg 11 k (by decide) (by decide) hk2 (Or.inl (by decide)), eg 15 k (by decide) (by decide) hk2 (Or.inr (Or.inl rfl)), rHG_f (f := 1) (by decide), rHG_f (f := 2) (by decide), rHG_f (f := 3) (by decide), rHG_4 hk, rHG_5 hk, rHG_6 hk, rCp_f (by decide) (by decide) hk2, rCp_f (by decide) (by decide) hk2, rCp_f (by decide) (by decide) hk2]
        exact ⟨y1, y2, y3, rfl, rfl, fun _ => rfl⟩
      · rw [eX, e8 9 (Or.inr rfl), w2, hql]
      · rw [eX] at hk
        rw [n13 k hk] at zz
        have := (sdO_rg cp k).1
        omega
      · rw [eg 11 k (by decide) (by decide) hk (Or.inl (by decide))]
        exact w4 k hk
      · have := w6 j hj
        show mK (mSw N (V 1 0) p q a c (P p 0 0) (P p 1 0) (P p 2 0) (P p 3 0) pl ql (rJn ql (rCp 6 (R p a)) 2)) _
        unfold mK at this ⊢
        rw [eg 15 j (by decide) (by decide) hj (Or.inr (Or.inl rfl))]
        by_cases ej : j < ql
        · rw [n12 j ej, n13 j ej, n14 j ej]
          have x1 := fsO_lt cp j
          have x2 := (sdO_rg cp j).2
          exact ⟨by omega, by omega, by decide, fun zz => by omega, this.2.2.2.2⟩
        · rw [eg 12 j (by decide) (by decide) hj (Or.inr (Or.inr (by omega))), eg 13 j (by decide) (by decide) hj (Or.inr (Or.inr (by omega))), eg 14 j (by decide) (by decide) hj (Or.inr (Or.inr (by omega)))]
          exact this
    · generalize hs : r - (a + 1) = s at e e2
      subst e2
      rw [s4 s e (by omega)]
      refine rw1_cp ⟨fun f hf => ?_, fun g k g1 g2 hk => ?_⟩ (rW_1 W hq (r := s) (by omega))
      · rw [(mSw_6 (by omega)).resolve_right (by omega), mS6_o (by omega) (by omega), mS5_8q hq hf (by omega) hac]
      · rw [(mSw_6 (by omega)).resolve_right (by omega), mS6_p (by omega), mS5_gq hq g1 g2 (by omega) hac hk]
  obtain ⟨u0, u1, u2_, u3, u6⟩ := sQ0_v (P p)
  have h5 : sQ (P p) (P q) z2 5 0 = a + 1 + c := by rw [sQ_5, ha, hc]
  have hr0 : sR (R p) (R q) (a + 1) c 0 0 0 ≤ 24 := by
    have := key 0 (by omega)
    have t1 := this.1.1.1
    rw [mR_0] at t1
    have := this.2.1
    omega
  refine rW_pan W (fun f i g1 g2 g7 g8 gg => mSw_o hn hac (by omega) hpl24 hql24 g1 g2 g7 g8 gg) (by rw [v1, vAp_1]) (fun x hx hne => by rw [vAp_1] at hx; omega) (fun f i hf => vAp_o hf) (rW_z W O) (fun _ => ⟨⟨by rw [v2, h5], by rw [v3, sQ_f (by decide) (by decide), u0], by rw [v4, sQ_f (by decide) (by decide), u1], by rw [v5, sQ_f (by decide) (by decide), u2_], by rw [v6, sQ_f (by decide) (by decide), u3], fun k hk => by rw [v7 k (by omega), sQ_f (by decide) (by decide), u6], fun r hr => (key r (by omega)).1⟩, by rw [v2]; exact hac, fun r hr => (key r (by omega)).2⟩)
theorem kP_sw {V : Nat → Nat → Nat} {P : Nat → Nat → Nat → Nat} {R : Nat → Nat → Nat → Nat → Nat} (O : kO V P R) {p q a c pl ql : Nat} (hp : p < V 1 0) (hq : q < V 1 0) (ha : P p 5 0 = a + 1) (hc : P q 5 0 = c) (hac : a + 1 + c ≤ 20) (hpl : R p a 0 0 = pl) (hql : R q 0 0 0 = ql) (h1 : 1 ≤ pl) (h2 : 1 ≤ ql) (h3 : ql ≤ 2 * pl) (z2 : Nat) : kP (sQ (P p) (P q) z2) (sR (R p) (R q) (P p 5 0) (P q 5 0)) := by
  obtain ⟨a1, a2, a3, a4, a5, a6, a7⟩ := O.2.2.2 p hp
  obtain ⟨b1, b2, b3, b4, b5, b6, b7⟩ := O.2.2.2 q hq
  obtain ⟨s1, s2, s3, s4⟩ := sR_v (R p) (R q) a c
  rw [hql] at s2 s3
  rw [ha, hc]
  have rk := a3 a (by omega)
  have rq := b3 0 (by omega)
  have hpl24 : pl ≤ 24 := by rw [← hpl]; exact rk.1
  have hql24 : ql ≤ 24 := by rw [← hql]; exact rq.1
  have hE := rOK_Jn (q := ql) (rOK_cp rk) (by rw [rCp_00, hpl]; omega) (by rw [rCp_00, hpl]; exact h3)
  have hE0 : rJn ql (rCp 6 (R p a)) 0 0 = pl := by rw [rJn_0, rCp_00, hpl]
  have cp : 0 < rJn ql (rCp 6 (R p a)) 0 0 := by rw [hE0]; omega
  have hoff : off (rJn ql (rCp 6 (R p a))) (rJn ql (rCp 6 (R p a)) 0 0) = ql := by
    rw [rJn_0]
    exact off_Jn (by rw [rCp_00, hpl]; omega) (by omega)
  obtain ⟨g1, g2, g3, g4⟩ := hang_ok (D := rCp 6 (R q 0)) cp (by omega) (fun k hk => (hE.2 k (by omega)).2.1) hoff hql24 (by rw [rCp_00, hql])
  obtain ⟨u0, u1, u2_, u3, u6⟩ := sQ0_v (P p)
  have h5 : sQ (P p) (P q) z2 5 0 = a + 1 + c := by rw [sQ_5, ha, hc]
  -- sizes, and the sides of the rows that are copies
  have z0 : ∀ r, r < a + 1 → sR (R p) (R q) (a + 1) c r 0 0 = R p r 0 0 := fun r hr => by
    by_cases e : r = a
    · rw [e, s2, hE0, hpl]
    · rw [s1 r (by omega), rCp_00]
  have zq : ∀ r, r < c → sR (R p) (R q) (a + 1) c (a + 1 + r) 0 0 = R q r 0 0 := fun r hr => by
    by_cases e : r = 0
    · rw [e]
      show sR (R p) (R q) (a + 1) c (a + 1) 0 0 = _
      rw [s3, g1, hql]
    · rw [s4 r (by omega) hr, rCp_00]
  have f45 : ∀ r f, r < a + 1 → (f = 4 ∨ f = 5) → ∀ k, k < 24 → sR (R p) (R q) (a + 1) c r f k = R p r f k := fun r f hr hf k hk => by
    by_cases e : r = a
    · rw [e, s2, rJn_f (by omega) (by omega), rCp_f (by omega) (by omega) hk]
    · rw [s1 r (by omega), rCp_f (by omega) (by omega) hk]
  have g45 : ∀ r f, 1 ≤ r → r < c → (f = 4 ∨ f = 5) → ∀ k, k < 24 → sR (R p) (R q) (a + 1) c (a + 1 + r) f k = R q r f k := fun r f h1 hr hf k hk => by
    rw [s4 r h1 hr, rCp_f (by omega) (by omega) hk]
  have sm : ∀ (X D : Nat → Nat → Nat), X 0 0 = D 0 0 → D 0 0 ≤ 24 → (∀ f, f = 4 ∨ f = 5 → ∀ k, k < 24 → X f k = D f k) → ((∀ q, fb_sm (fun j => nb (hgb D j q)) (D 0 0) ≤ 3) ∧ fb_sm (fun j => D 5 j) (D 0 0) ≤ 60) → (∀ q, fb_sm (fun j => nb (hgb X j q)) (X 0 0) ≤ 3) ∧ fb_sm (fun j => X 5 j) (X 0 0) ≤ 60 := fun X D e0 e24 ef h => by
    refine ⟨fun q => ?_, ?_⟩
    · rw [e0, show fb_sm (fun j => nb (hgb X j q)) (D 0 0) = fb_sm (fun j => nb (hgb D j q)) (D 0 0) from fb_sm_cong (fun j hj => by unfold hgb; rw [ef 4 (Or.inl rfl) j (by omega), ef 5 (Or.inr rfl) j (by omega)])]
      exact h.1 q
    · rw [e0, show fb_sm (fun j => X 5 j) (D 0 0) = fb_sm (fun j => D 5 j) (D 0 0) from fb_sm_cong (fun j hj => ef 5 (Or.inr rfl) j (by omega))]
      exact h.2
  refine ⟨by rw [h5]; omega, by rw [h5]; omega, fun r hr => ?_, ⟨fun k hk => ?_, fun r hr k hk => ?_⟩, fun k hk => by rw [sQ_f (by decide) (by decide), u6]; omega, by rw [sQ_f (by decide) (by decide), sQ_f (by decide) (by decide), sQ_f (by decide) (by decide), sQ_f (by decide) (by decide), u0, u1, u2_, u3]; exact a6, fun r hr => ?_⟩
  · rw [h5] at hr
    rcases (show r < a ∨ r = a ∨ r = a + 1 ∨ (1 ≤ r - (a + 1) ∧ r = a + 1 + (r - (a + 1))) by omega) with e | e | e | ⟨e, e2⟩
    · rw [s1 r e]; exact rOK_cp (a3 r (by omega))
    · rw [e, s2]; exact hE
    · rw [e, s3]; exact rOK_HG hE (rOK_cp rq) cp
    · rw [e2, s4 _ e (by omega)]; exact rOK_cp (b3 _ (by omega))
  · rw [z0 0 (by omega)] at hk
    have := (a3 0 (by omega)).1
    rw [f45 0 5 (by omega) (Or.inr rfl) k (by omega)]
    exact a4.1 k hk
  · rw [h5] at hr
    rcases (show r + 1 < a + 1 ∨ r = a ∨ (1 ≤ r - a ∧ r + 1 = a + 1 + (r - a)) by omega) with e | e | ⟨e, e2⟩
    · rw [z0 (r + 1) e] at hk
      have := (a3 (r + 1) (by omega)).1
      rw [f45 (r + 1) 5 e (Or.inr rfl) k (by omega), f45 (r + 1) 4 e (Or.inl rfl) k (by omega), z0 r (by omega)]
      exact a4.2 r (by omega) k hk
    · subst e
      rw [s3, g1] at hk
      rw [s3, z0 r (by omega), hpl]
      have := g2 k hk
      rw [hE0] at this
      exact Or.inr this
    · generalize hs : r - a = s at e e2
      have e3 : r = a + 1 + (s - 1) := by omega
      rw [e2, zq s (by omega)] at hk
      have hb := b4.2 (s - 1) (by omega) k
      rw [show s - 1 + 1 = s by omega] at hb
      have := (b3 s (by omega)).1
      rw [e2, g45 s 5 e (by omega) (Or.inr rfl) k (by omega), g45 s 4 e (by omega) (Or.inl rfl) k (by omega), e3, zq (s - 1) (by omega)]
      exact hb hk
  · rw [h5] at hr
    rcases (show r + 1 < a + 1 ∨ r = a ∨ (1 ≤ r - a ∧ r + 1 = a + 1 + (r - a)) by omega) with e | e | ⟨e, e2⟩
    · exact sm _ (R p (r + 1)) (z0 (r + 1) e) (a3 (r + 1) (by omega)).1 (fun f hf k hk => f45 (r + 1) f e hf k hk) (a7 r (by omega))
    · subst e
      rw [s3]
      exact ⟨g3, g4⟩
    · generalize hs : r - a = s at e e2
      rw [e2]
      have hb := b7 (s - 1) (by omega)
      rw [show s - 1 + 1 = s by omega] at hb
      exact sm _ (R q s) (zq s (by omega)) (b3 s (by omega)).1 (fun f hf k hk => g45 s f e (by omega) hf k hk) hb
