/-! the model: a panel is another one -/
theorem rW_pan {M V : Nat → Nat → Nat} {P : Nat → Nat → Nat → Nat} {R : Nat → Nat → Nat → Nat → Nat} {E Y T S : Nat → Nat → Nat} (W : rW M V P R E Y T S) {p : Nat} {M2 V2 P2 : Nat → Nat → Nat} {R2 : Nat → Nat → Nat → Nat} (hM : ∀ f i, f ≠ 1 → (2 ≤ f → f ≤ 6 → i ≠ p) → (f = 7 → i < 24 * p ∨ 24 * p + 24 ≤ i) → (f = 8 ∨ f = 9 → i < 20 * p ∨ 20 * p + 20 ≤ i) → (10 ≤ f → f ≤ 15 → i < 24 * (20 * p) ∨ 24 * (20 * p) + 480 ≤ i) → M2 f i = M f i) (h1 : M2 1 0 = V2 1 0) (hV : ∀ q, q < V2 1 0 → q ≠ p → q < V 1 0) (hV2 : ∀ f i, 2 ≤ f → V2 f i = V f i) (hz : ∀ q, q < V 1 0 → R q 0 0 0 ≤ 24) (hP : p < V2 1 0 → rPn P2 R2 M2 p ∧ mP M2 p) : rW M2 V2 (uP P p P2) (uP R p R2) E Y T S := by
  obtain ⟨⟨w1, w2, w3⟩, w4, w5, w6, w7, w8⟩ := W
  have e0 : ∀ f i, 15 < f → M2 f i = M f i := fun f i h => hM f i (by omega) (by omega) (by omega) (by omega) (by omega)
  refine ⟨⟨h1, by rw [e0 16 0 (by decide), hV2 3 0 (by decide)]; exact w2, fun i hi => by rw [e0 17 i (by decide), hV2 2 i (by decide)]; exact w3 i hi⟩, fun q hq => ?_, ?_, ?_, ?_, ?_⟩
  · by_cases e : q = p
    · subst e
      rw [uP_eq, uP_eq]
      exact hP hq
    · rw [uP_ne e, uP_ne e]
      have hq1 := hV q hq e
      obtain ⟨⟨b1, b2, b3, b4, b5, b6, b7⟩, m1⟩ := w4 q hq1
      have eh : ∀ f, 2 ≤ f → f ≤ 6 → M2 f q = M f q := fun f g1 g2 => hM f q (by omega) (fun _ _ => e) (by omega) (by omega) (by omega)
      have e8 : ∀ f s, s < 20 → (f = 8 ∨ f = 9) → M2 f (20 * q + s) = M f (20 * q + s) := fun f s hs hf => hM f _ (by omega) (by omega) (by omega) (fun _ => by omega) (by omega)
      have eg : ∀ s k, s < 20 → k < 24 → ∀ g, 10 ≤ g → g ≤ 15 → M2 g (24 * (20 * q + s) + k) = M g (24 * (20 * q + s) + k) := fun s k hs hk g h1 h2 => hM g _ (by omega) (by omega) (by omega) (by omega) (fun _ _ => by omega)
      have h20 := m1.1
      refine ⟨⟨(eh 2 (by decide) (by decide)).trans b1, (eh 3 (by decide) (by decide)).trans b2, (eh 4 (by decide) (by decide)).trans b3, (eh 5 (by decide) (by decide)).trans b4, (eh 6 (by decide) (by decide)).trans b5, fun k hk => (hM 7 _ (by decide) (by omega) (fun _ => by have := hz q hq1; omega) (by omega) (by omega)).trans (b6 k hk), fun s hs => ?_⟩, by rw [eh 2 (by decide) (by decide)]; exact h20, fun s hs => ?_⟩
      · have hs20 : s < 20 := by omega
        obtain ⟨a1, a2, a3, a4⟩ := b7 s hs
        have h24 : R q s 0 0 ≤ 24 := by rw [a1.1]; exact (m1.2 s (by omega)).1
        refine ⟨rRw_cg a1 h24 (fun f k hk => mR_cg (e8 8 s hs20 (Or.inl rfl)) (eg s k hs20 hk) f), (e8 9 s hs20 (Or.inr rfl)).trans a2, fun k hk z => ?_, fun k hk => ?_⟩
        · rw [eg s k hs20 (by omega) 13 (by decide) (by decide)] at z
          rw [eg s k hs20 (by omega) 12 (by decide) (by decide)]
          exact a3 k hk z
        · rw [eg s k hs20 hk 11 (by decide) (by decide)]
          exact a4 k hk
      · rw [eh 2 (by decide) (by decide)] at hs
        have hs20 : s < 20 := by omega
        refine ⟨?_, fun j hj => mK_cg (eg s j hs20 hj) ((m1.2 s hs).2 j hj)⟩
        rw [e8 8 s hs20 (Or.inl rfl)]
        exact (m1.2 s hs).1
  · rw [e0 22 0 (by decide), e0 23 0 (by decide), e0 24 0 (by decide), e0 25 0 (by decide)]
    exact ⟨w5.1, fun z => ⟨(w5.2 z).1, (w5.2 z).2.1, (w5.2 z).2.2.1, fun i hi => by rw [e0 26 i (by decide), e0 27 i (by decide)]; exact (w5.2 z).2.2.2 i hi⟩⟩
  · exact ⟨by rw [e0 28 0 (by decide)]; exact w6.1, fun i hi => by rw [e0 29 i (by decide)]; exact w6.2 i hi⟩
  · rw [e0 31 0 (by decide), e0 32 0 (by decide), e0 33 0 (by decide)]
    exact w7
  · exact ⟨by rw [e0 34 0 (by decide)]; exact w8.1, fun i hi => by rw [e0 35 i (by decide)]; exact w8.2 i hi⟩
/-- a row joins a panel -/
theorem rPn_app {Q : Nat → Nat → Nat} {R : Nat → Nat → Nat → Nat} {M M2 : Nat → Nat → Nat} {p n z : Nat} (h : rPn Q R M p) (m : mP M p) (hn : Q 5 0 = n) (hn1 : 1 ≤ n) (hn2 : n < 20) (hh : ∀ f i, 3 ≤ f → f ≤ 7 → M2 f i = M f i) (h8 : ∀ f s, (f = 8 ∨ f = 9) → s < n → M2 f (20 * p + s) = M f (20 * p + s)) (hg : ∀ g s k, 10 ≤ g → g ≤ 15 → s < n → k < 24 → M2 g (24 * (20 * p + s) + k) = M g (24 * (20 * p + s) + k)) (h2 : M2 2 p = n + 1) {X : Nat → Nat → Nat} (hX : rRw X (mR M2 p n)) (h9 : M2 9 (20 * p + n) = nB (X 0 0 = 0)) (h12 : ∀ k, k < X 0 0 → M2 13 (24 * (20 * p + n) + k) = 0 → M2 12 (24 * (20 * p + n) + k) = 0) (h11 : ∀ k, k < 24 → M2 11 (24 * (20 * p + n) + k) ≤ 2) (hx : X 0 0 ≤ 24) (hK : ∀ k, k < 24 → mK M2 (24 * (20 * p + n) + k)) : rPn (pAp Q z) (uR R n X) M2 p ∧ mP M2 p := by
  obtain ⟨b1, b2, b3, b4, b5, b6, b7⟩ := h
  have m20 := m.1
  refine ⟨⟨by rw [pAp_5, hn]; exact h2, by rw [hh 3 _ (by decide) (by decide), pAp_f (by decide) (by decide)]; exact b2, by rw [hh 4 _ (by decide) (by decide), pAp_f (by decide) (by decide)]; exact b3, by rw [hh 5 _ (by decide) (by decide), pAp_f (by decide) (by decide)]; exact b4, by rw [hh 6 _ (by decide) (by decide), pAp_f (by decide) (by decide)]; exact b5, fun k hk => ?_, fun s hs => ?_⟩, by rw [h2]; omega, fun s hs => ?_⟩
  · rw [uR_ne (by omega)] at hk
    rw [hh 7 _ (by decide) (by decide), pAp_f (by decide) (by decide)]
    exact b6 k hk
  · rw [pAp_5, hn] at hs
    by_cases e : s = n
    · subst e
      rw [uR_eq]
      exact ⟨hX, h9, h12, h11⟩
    · rw [uR_ne e]
      have hs2 : s < n := by omega
      obtain ⟨a1, a2, a3, a4⟩ := b7 s (by omega)
      have h24 : R s 0 0 ≤ 24 := by rw [a1.1]; exact (m.2 s (by omega)).1
      refine ⟨rRw_cg a1 h24 (fun f k hk => mR_cg (h8 8 s (Or.inl rfl) hs2) (fun g g1 g2 => hg g s k g1 g2 hs2 hk) f), (h8 9 s (Or.inr rfl) hs2).trans a2, fun k hk z => ?_, fun k hk => ?_⟩
      · rw [hg 13 s k (by decide) (by decide) hs2 (by omega)] at z
        rw [hg 12 s k (by decide) (by decide) hs2 (by omega)]
        exact a3 k hk z
      · rw [hg 11 s k (by decide) (by decide) hs2 hk]
        exact a4 k hk
  · rw [h2] at hs
    by_cases e : s = n
    · subst e
      exact ⟨by have := hX.1; rw [mR_0] at this; omega, hK⟩
    · have hs2 : s < n := by omega
      refine ⟨?_, fun j hj => mK_cg (fun g g1 g2 => hg g s j g1 g2 hs2 hj) ((m.2 s (by omega)).2 j hj)⟩
      rw [h8 8 s (Or.inl rfl) hs2]
      exact (m.2 s (by omega)).1
theorem mRw_o {M : Nat → Nat → Nat} {p r t f i : Nat} (ht : t ≤ 24) (h : 10 ≤ f → f ≤ 15 → i < 24 * (20 * p + (r + 1)) ∨ 24 * (20 * p + (r + 1)) + 24 ≤ i) (h2 : f = 8 ∨ f = 9 → i ≠ 20 * p + (r + 1)) (h3 : f = 2 → i ≠ p) : mRw M p r t f i = M f i := by
  unfold mRw mHg
  rw [if_neg (by omega)]
  unfold mR1
  rw [u2_ne (by omega), u2_ne (by omega)]
  unfold mCk
  rw [if_neg (by omega), if_neg (by omega)]
theorem mRw_8 {M : Nat → Nat → Nat} {p r t : Nat} : mRw M p r t 8 (20 * p + (r + 1)) = t := by
  unfold mRw mHg
  rw [if_neg (by omega)]
  unfold mR1
  rw [u2_ne (by omega), u2_eq]
theorem mRw_9 {M : Nat → Nat → Nat} {p r t : Nat} : mRw M p r t 9 (20 * p + (r + 1)) = 0 := by
  unfold mRw mHg
  rw [if_neg (by omega)]
  unfold mR1
  rw [u2_ne (by omega), u2_ne (by omega)]
  unfold mCk
  rw [if_pos (by omega)]
theorem mRw_2 {M : Nat → Nat → Nat} {p r t : Nat} : mRw M p r t 2 p = r + 1 + 1 := by
  unfold mRw mHg
  rw [if_neg (by omega)]
  unfold mR1
  rw [u2_eq]
theorem mRw_n {M : Nat → Nat → Nat} {p r t f k : Nat} (hf : 10 ≤ f) (hf2 : f ≤ 15) (hk : k < 24) : mRw M p r t f (24 * (20 * p + (r + 1)) + k) = if (12 ≤ f ∧ f ≤ 14) ∧ k < t then (if f = 12 then fsO (mR (mR1 M p r t) p r) k + 1 else if f = 13 then sdO (mR (mR1 M p r t) p r) k else 0) else if f = 11 then 1 else 0 := by
  unfold mRw mHg
  rw [Nat.add_sub_cancel_left]
  by_cases e : (12 ≤ f ∧ f ≤ 14) ∧ k < t
  · rw [if_pos e, if_pos (by omega)]
  · rw [if_neg e, if_neg (by omega)]
    unfold mR1
    rw [u2_ne (by omega), u2_ne (by omega)]
    unfold mCk
    rw [if_neg (by omega), if_pos (by omega)]
theorem rW_z {M V : Nat → Nat → Nat} {P : Nat → Nat → Nat → Nat} {R : Nat → Nat → Nat → Nat → Nat} {E Y T S : Nat → Nat → Nat} (W : rW M V P R E Y T S) (O : kO V P R) : ∀ q, q < V 1 0 → R q 0 0 0 ≤ 24 := fun q hq => (rW_r W O hq (rW_p W O hq).2.2.2.2.2.1).2.2.2.1
/-- the next row -/
theorem rW_rw {M V : Nat → Nat → Nat} {P : Nat → Nat → Nat → Nat} {R : Nat → Nat → Nat → Nat → Nat} {E Y T S : Nat → Nat → Nat} (W : rW M V P R E Y T S) (O : kO V P R) {p r t : Nat} (z : Nat) (hp : p < V 1 0) (hre : P p 5 0 = r + 1) (h20 : r + 1 < 20) (ht : off (R p r) (R p r 0 0) = t) (h1t : 1 ≤ t) (h24t : t ≤ 24) : rW (mRw M p r t) V (uP P p (pAp (P p) z)) (uP R p (uR (R p) (r + 1) (rHG (R p r) t (rNew t)))) E Y T S := by
  obtain ⟨p1, p2, p3, p4, p5, p6, p7, p8⟩ := rW_p W O hp
  obtain ⟨r1, r2, r3, r4, r5, r6⟩ := rW_r W O hp (r := r) (by omega)
  have h0 : 0 < R p r 0 0 := by
    rcases Nat.eq_zero_or_pos (R p r 0 0) with z | z
    · rw [z] at ht
      have : off (R p r) 0 = 0 := rfl
      omega
    · exact z
  have g0 : R p r 0 0 = mR (mR1 M p r t) p r 0 0 := by rw [mR1_r 0 0 (by decide)]; exact r6.1
  have g2 : ∀ k, k < R p r 0 0 → R p r 2 k = mR (mR1 M p r t) p r 2 k := fun k hk => by rw [mR1_r 2 k (by omega)]; exact (r6.2 k hk).2.1
  have eX : rHG (R p r) t (rNew t) 0 0 = t := by rw [rHG_f (by decide)]; rfl
  have eN : ∀ f, f < 4 → f ≠ 0 → f ≠ 2 → ∀ k, rNew t f k = 0 := fun f h h2 h3 k => by unfold rNew; rw [if_neg h2, if_neg (fun z => h3 z.1)]
  have n12 : ∀ k, k < t → mRw M p r t 12 (24 * (20 * p + (r + 1)) + k) = fsO (R p r) k + 1 := fun k hk => by
    rw [mRw_n (by decide) (by decide) (by omega), if_pos ⟨by decide, hk⟩, if_pos rfl, fsO_cg g0 g2]
  have n13 : ∀ k, k < t → mRw M p r t 13 (24 * (20 * p + (r + 1)) + k) = sdO (R p r) k := fun k hk => by
    rw [mRw_n (by decide) (by decide) (by omega), if_pos ⟨by decide, hk⟩, if_neg (by decide), if_pos rfl, sdO_cg h0 g0 g2]
  have n14 : ∀ k, k < 24 → mRw M p r t 14 (24 * (20 * p + (r + 1)) + k) = 0 := fun k hk => by
    rw [mRw_n (by decide) (by decide) (by omega)]
    split
    · rfl
    · rfl
  have n10 : ∀ k, k < 24 → mRw M p r t 10 (24 * (20 * p + (r + 1)) + k) = 0 := fun k hk => by
    rw [mRw_n (by decide) (by decide) hk, if_neg (by omega), if_neg (by decide)]
  have n11 : ∀ k, k < 24 → mRw M p r t 11 (24 * (20 * p + (r + 1)) + k) = 1 := fun k hk => by
    rw [mRw_n (by decide) (by decide) hk, if_neg (by omega), if_pos rfl]
  have n15 : ∀ k, k < 24 → mRw M p r t 15 (24 * (20 * p + (r + 1)) + k) = 0 := fun k hk => by
    rw [mRw_n (by decide) (by decide) hk, if_neg (by omega), if_neg (by decide)]
  refine rW_pan W (fun f i g1 g2 g3 g4 g5 => mRw_o h24t (fun a1 a2 => by have := g5 a1 a2; omega) (fun a => by have := g4 a; omega) (fun a => g2 (by omega) (by omega))) ((mRw_o h24t (by omega) (by omega) (by omega)).trans W.1.1) (fun q hq _ => hq) (fun _ _ _ => rfl) (rW_z W O) (fun _ => rPn_app (W.2.1 p hp).1 p8 hre (by omega) h20 (fun f i g1 g2 => mRw_o h24t (by omega) (by omega) (by omega)) (fun f s g1 g2 => mRw_o h24t (by omega) (fun _ => by omega) (by omega)) (fun g s k g1 g2 g3 g4 => mRw_o h24t (fun _ _ => by omega) (by omega) (by omega)) mRw_2 ⟨?_, fun k hk => ?_⟩ ?_ (fun k hk => ?_) (fun k hk => ?_) ?_ (fun k hk => ?_))
  · rw [eX, mR_0, mRw_8]
  · rw [eX] at hk
    have hk2 : k < 24 := by omega
    rw [mR_1, mR_2, mR_3, mR_4, mR_5, mR_6, n12 k hk, n13 k hk, n14 k hk2, n10 k hk2, n11 k hk2, n15 k hk2, rHG_f (f := 1) (by decide), rHG_f (f := 2) (by decide), rHG_f (f := 3) (by decide), rHG_4 hk, rHG_5 hk, rHG_6 hk, eN 1 (by decide) (by decide) (by decide), eN 3 (by decide) (by decide) (by decide)]
    refine ⟨rfl, ?_, rfl, rfl, rfl, fun _ => rfl⟩
    unfold rNew
    rw [if_neg (by decide), if_pos ⟨rfl, hk2⟩]
  · rw [eX, mRw_9, nB_F (by omega)]
  · intro z
    rw [eX] at hk
    rw [n13 k hk] at z
    have := (sdO_rg h0 k).1
    omega
  · rw [mRw_n (by decide) (by decide) hk, if_neg (by omega), if_pos rfl]
    decide
  · rw [eX]
    exact h24t
  · show mK (mRw M p r t) _
    unfold mK
    rw [n14 k hk]
    by_cases e : k < t
    · rw [n12 k e, n13 k e]
      have h1 := fsO_lt h0 k
      have h2 := (sdO_rg h0 k).2
      exact ⟨by omega, by omega, by decide, fun z => by omega, by rw [n15 k hk]; decide⟩
    · rw [mRw_n (by decide) (by decide) hk, mRw_n (by decide) (by decide) hk, if_neg (fun z => e z.2), if_neg (by decide), if_neg (fun z => e z.2), if_neg (by decide), n15 k hk]
      decide
theorem kP_app {Q : Nat → Nat → Nat} {R : Nat → Nat → Nat → Nat} (h : kP Q R) {n : Nat} (z : Nat) (hn : Q 5 0 = n + 1) (h20 : n + 1 < 20) {X : Nat → Nat → Nat} (hX : rOK X) (hg : ∀ k, k < X 0 0 → X 4 k + X 5 k ≤ R n 0 0) (h3 : ∀ q, fb_sm (fun j => nb (hgb X j q)) (X 0 0) ≤ 3) (h60 : fb_sm (fun j => X 5 j) (X 0 0) ≤ 60) : kP (pAp Q z) (uR R (n + 1) X) := by
  obtain ⟨a1, a2, a3, a4, a5, a6, a7⟩ := h
  have e5 := pAp_5 Q z
  have ef : ∀ f i, f ≠ 4 → f ≠ 5 → pAp Q z f i = Q f i := fun f i h1 h2 => pAp_f h1 h2
  refine ⟨by rw [e5]; omega, by rw [e5]; omega, fun s hs => ?_, ⟨fun k hk => ?_, fun s hs k hk => ?_⟩, ?_, ?_, fun s hs => ?_⟩
  · by_cases e : s = n + 1
    · subst e; rw [uR_eq]; exact hX
    · rw [uR_ne e]; exact a3 s (by omega)
  · rw [uR_ne (by omega)] at hk ⊢
    exact a4.1 k hk
  · by_cases e : s = n
    · subst e
      rw [uR_eq] at hk
      rw [uR_eq, uR_ne (by omega)]
      exact Or.inr (hg k hk)
    · rw [uR_ne (by omega)] at hk
      rw [uR_ne (by omega), uR_ne (by omega)]
      exact a4.2 s (by omega) k hk
  · rw [show pAp Q z 6 = Q 6 from funext fun i => ef 6 i (by decide) (by decide)]
    exact a5
  · rw [ef 0 0 (by decide) (by decide), ef 1 0 (by decide) (by decide), ef 2 0 (by decide) (by decide), ef 3 0 (by decide) (by decide)]
    exact a6
  · by_cases e : s = n
    · subst e
      rw [uR_eq]
      exact ⟨h3, h60⟩
    · rw [uR_ne (by omega)]
      exact a7 s (by omega)
theorem kO_rw {V : Nat → Nat → Nat} {P : Nat → Nat → Nat → Nat} {R : Nat → Nat → Nat → Nat → Nat} (O : kO V P R) {p r t : Nat} (z : Nat) (hp : p < V 1 0) (hre : P p 5 0 = r + 1) (h20 : r + 1 < 20) (ht : off (R p r) (R p r 0 0) = t) (h1t : 1 ≤ t) (h24t : t ≤ 24) : kO V (uP P p (pAp (P p) z)) (uP R p (uR (R p) (r + 1) (rHG (R p r) t (rNew t)))) := by
  have K := O.2.2.2 p hp
  have rk := K.2.2.1 r (by omega)
  have h0 : 0 < R p r 0 0 := by
    rcases Nat.eq_zero_or_pos (R p r 0 0) with z | z
    · rw [z] at ht
      have : off (R p r) 0 = 0 := rfl
      omega
    · exact z
  obtain ⟨q1, q2, q3, q4⟩ := hang_ok (D := rNew t) h0 rk.1 (fun k hk => (rk.2 k (by have := rk.1; omega)).2.1) ht h24t rfl
  exact kO_pan O (kP_app K z hre h20 (rOK_HG rk (rOK_new h24t) h0) (fun k hk => q2 k (by rwa [q1] at hk)) q3 q4)
theorem md_row {h : nPH} {b : Nat} {M V : Nat → Nat → Nat} {P : Nat → Nat → Nat → Nat} {R : Nat → Nat → Nat → Nat → Nat} {E Y T S : Nat → Nat → Nat} (H : o8 h b M) (W : rW M V P R E Y T S) (O : kO V P R) {p : Nat} (z : Nat) (hp : p < V 1 0) (h20 : P p 5 0 < 20) (h1t : 1 ≤ off (R p (P p 5 0 - 1)) (R p (P p 5 0 - 1) 0 0)) (h24 : off (R p (P p 5 0 - 1)) (R p (P p 5 0 - 1) 0 0) ≤ 24) : nWv YX8_row [.ref b, .int (nI p)] h (some (.int (nI (off (R p (P p 5 0 - 1)) (R p (P p 5 0 - 1) 0 0))))) (fun h2 => nFr (nIv b 24) h h2 ∧ ∃ M2, o8 h2 b M2 ∧ rW M2 V (uP P p (pAp (P p) z)) (uP R p (uR (R p) (P p 5 0) (rHG (R p (P p 5 0 - 1)) (off (R p (P p 5 0 - 1)) (R p (P p 5 0 - 1) 0 0)) (rNew (off (R p (P p 5 0 - 1)) (R p (P p 5 0 - 1) 0 0)))))) E Y T S) := by
  obtain ⟨p1, p2, p3, p4, p5, p6, p7, p8⟩ := rW_p W O hp
  obtain ⟨r, hre⟩ : ∃ r, P p 5 0 = r + 1 := ⟨P p 5 0 - 1, by omega⟩
  have e1 : P p 5 0 - 1 = r := by omega
  rw [e1] at h1t h24 ⊢
  rw [hre] at h20 ⊢
  obtain ⟨r1, r2, r3, r4, r5, r6⟩ := rW_r W O hp (r := r) (by omega)
  obtain ⟨t, ht⟩ : ∃ t, off (R p r) (R p r 0 0) = t := ⟨_, rfl⟩
  have ht2 : off (mR M p r) (M 8 (20 * p + r)) = t := by rw [r3, ← ht]; exact (off_cg (fun k hk => (r6.2 k hk).2.1)).symm
  rw [ht] at h1t h24 ⊢
  refine nSp.mono (sp_mrow H p2 p1 (p4.trans hre) (by omega) ht2 h20 h1t h24 (fun k hk => ((W.2.1 p hp).1.2.2.2.2.2.2 r (by omega)).2.2.2 k hk)) (fun v h2 y => ⟨y.1, y.2.1, _, y.2.2, rW_rw W O z hp hre h20 ht h1t h24⟩)
theorem md_rowN {h : nPH} {b : Nat} {M V : Nat → Nat → Nat} {P : Nat → Nat → Nat → Nat} {R : Nat → Nat → Nat → Nat → Nat} {E Y T S : Nat → Nat → Nat} (H : o8 h b M) (W : rW M V P R E Y T S) (O : kO V P R) {p : Nat} (hp : p < V 1 0) (hno : 20 ≤ P p 5 0 ∨ ¬ (1 ≤ off (R p (P p 5 0 - 1)) (R p (P p 5 0 - 1) 0 0) ∧ off (R p (P p 5 0 - 1)) (R p (P p 5 0 - 1) 0 0) ≤ 24)) : nRd YX8_row [.ref b, .int (nI p)] h (.int (-1)) := by
  obtain ⟨p1, p2, p3, p4, p5, p6, p7, p8⟩ := rW_p W O hp
  obtain ⟨r, hre⟩ : ∃ r, P p 5 0 = r + 1 := ⟨P p 5 0 - 1, by omega⟩
  have e1 : P p 5 0 - 1 = r := by omega
  rw [e1] at hno
  rw [hre] at hno
  obtain ⟨r1, r2, r3, r4, r5, r6⟩ := rW_r W O hp (r := r) (by omega)
  have ht2 : off (mR M p r) (M 8 (20 * p + r)) = off (R p r) (R p r 0 0) := by rw [r3]; exact (off_cg (fun k hk => (r6.2 k hk).2.1)).symm
  have hb : off (R p r) (R p r 0 0) ≤ R p r 0 0 * 2 := fb_sm_bound (fun k hk => (r5.2 k (by omega)).2.1)
  by_cases e : r + 1 = 20
  · exact sp_mrow20 H p2 p1 (p4.trans hre) (by omega) rfl e
  · exact sp_mrowN H p2 p1 (p4.trans hre) (by omega) ht2 (by omega) (by omega) (by omega)
theorem md_rowP {h : nPH} {b : Nat} {M V : Nat → Nat → Nat} {P : Nat → Nat → Nat → Nat} {R : Nat → Nat → Nat → Nat → Nat} {E Y T S : Nat → Nat → Nat} (H : o8 h b M) (W : rW M V P R E Y T S) (O : kO V P R) {p : Int32} (hp : ¬ nIn p (V 1 0)) : nRd YX8_row [.ref b, .int p] h (.int (-1)) := sp_mrowP H (rW_n W O) (rW_x W hp)
