/-! the model: what changes -/
theorem mR_cg {M M2 : Nat → Nat → Nat} {p r k : Nat} (h8 : M2 8 (20 * p + r) = M 8 (20 * p + r)) (h : ∀ g, 10 ≤ g → g ≤ 15 → M2 g (24 * (20 * p + r) + k) = M g (24 * (20 * p + r) + k)) (f : Nat) : mR M2 p r f k = mR M p r f k := by
  by_cases h0 : f = 0
  · subst h0; exact h8
  · by_cases h4 : f = 4
    · subst h4; rw [mR_4, mR_4, h 12 (by decide) (by decide)]
    · have e : ∀ N : Nat → Nat → Nat, mR N p r f k = N (mF f) (24 * (20 * p + r) + k) := fun N => by
        unfold mR
        rw [if_neg h0, if_neg h4]
      have hF : mF f = 10 ∨ mF f = 11 ∨ mF f = 15 ∨ mF f = 13 ∨ mF f = 14 := by
        unfold mF
        split
        · omega
        · split
          · omega
          · split
            · omega
            · split <;> omega
      rw [e, e]
      rcases hF with z | z | z | z | z <;> rw [z] <;> exact h _ (by decide) (by decide)
theorem mK_cg {M M2 : Nat → Nat → Nat} {x : Nat} (h : ∀ g, 10 ≤ g → g ≤ 15 → M2 g x = M g x) (K : mK M x) : mK M2 x := by
  unfold mK
  rw [h 12 (by decide) (by decide), h 13 (by decide) (by decide), h 14 (by decide) (by decide), h 15 (by decide) (by decide)]
  exact K
theorem rRw_cg {D N N2 : Nat → Nat → Nat} (h : rRw D N) (h24 : D 0 0 ≤ 24) (e : ∀ f k, k < 24 → N2 f k = N f k) : rRw D N2 := by
  refine ⟨h.1.trans (e 0 0 (by decide)).symm, fun k hk => ?_⟩
  obtain ⟨q1, q2, q3, q5, q6, q4⟩ := h.2 k hk
  have hk2 : k < 24 := by omega
  exact ⟨q1.trans (e 1 k hk2).symm, q2.trans (e 2 k hk2).symm, q3.trans (e 3 k hk2).symm, q5.trans (e 5 k hk2).symm, q6.trans (e 6 k hk2).symm, fun z => (q4 z).trans (e 4 k hk2).symm⟩
/-- what is outside row r of panel p is kept -/
def mRo (M M2 : Nat → Nat → Nat) (p r : Nat) : Prop := ∀ f i, (f = 8 ∨ f = 9 → i ≠ 20 * p + r) → (10 ≤ f → f ≤ 15 → i < 24 * (20 * p + r) ∨ 24 * (20 * p + r) + 24 ≤ i) → M2 f i = M f i
/-- one row is another one now -/
theorem rW_row {M V : Nat → Nat → Nat} {P : Nat → Nat → Nat → Nat} {R : Nat → Nat → Nat → Nat → Nat} {E Y T S : Nat → Nat → Nat} (W : rW M V P R E Y T S) {p r : Nat} (hp : p < V 1 0) (hr : r < P p 5 0) {M2 X : Nat → Nat → Nat} (hM : mRo M M2 p r) (hX : rRw X (mR M2 p r)) (h9 : M2 9 (20 * p + r) = nB (X 0 0 = 0)) (h12 : ∀ k, k < X 0 0 → M2 13 (24 * (20 * p + r) + k) = 0 → M2 12 (24 * (20 * p + r) + k) = 0) (h11 : ∀ k, k < 24 → M2 11 (24 * (20 * p + r) + k) ≤ 2) (h8 : X 0 0 ≤ 24) (hK : ∀ k, k < 24 → mK M2 (24 * (20 * p + r) + k)) (hz : X 0 0 ≤ R p r 0 0) : rW M2 V P (uP R p (uR (R p) r X)) E Y T S := by
  obtain ⟨⟨w1, w2, w3⟩, w4, w5, w6, w7, w8⟩ := W
  have e0 : ∀ f i, (f < 8 ∨ 15 < f) → M2 f i = M f i := fun f i h => hM f i (by omega) (by omega)
  have hp20 := (w4 p hp).2.1
  have hpr := (w4 p hp).1.1
  have e8 : ∀ q s f, s < 20 → ¬ (q = p ∧ s = r) → (f = 8 ∨ f = 9) → M2 f (20 * q + s) = M f (20 * q + s) := fun q s f hs hne hf => hM f _ (fun _ => by omega) (by omega)
  have eg : ∀ q s k, s < 20 → k < 24 → ¬ (q = p ∧ s = r) → ∀ g, 10 ≤ g → g ≤ 15 → M2 g (24 * (20 * q + s) + k) = M g (24 * (20 * q + s) + k) := fun q s k hs hk hne g h1 h2 => hM g _ (by omega) (fun _ _ => by omega)
  have eM : ∀ q s, s < 20 → ¬ (q = p ∧ s = r) → ∀ f k, k < 24 → mR M2 q s f k = mR M q s f k := fun q s hs hne f k hk => mR_cg (e8 q s 8 hs hne (Or.inl rfl)) (eg q s k hs hk hne) f
  have oldR : ∀ q, q < V 1 0 → ∀ s, s < P q 5 0 → ¬ (q = p ∧ s = r) → rRw (R q s) (mR M2 q s) ∧ M2 9 (20 * q + s) = nB (R q s 0 0 = 0) ∧ (∀ k, k < R q s 0 0 → M2 13 (24 * (20 * q + s) + k) = 0 → M2 12 (24 * (20 * q + s) + k) = 0) ∧ ∀ k, k < 24 → M2 11 (24 * (20 * q + s) + k) ≤ 2 := fun q hq s hs hne => by
    have m1 := (w4 q hq).2
    have m2 := (w4 q hq).1.1
    have hs20 : s < 20 := by have := m1.1; omega
    obtain ⟨a1, a2, a3, a4⟩ := (w4 q hq).1.2.2.2.2.2.2 s hs
    have h24 : R q s 0 0 ≤ 24 := by rw [a1.1]; exact (m1.2 s (by omega)).1
    refine ⟨rRw_cg a1 h24 (eM q s hs20 hne), (e8 q s 9 hs20 hne (Or.inr rfl)).trans a2, fun k hk z => ?_, fun k hk => ?_⟩
    · rw [eg q s k hs20 (by omega) hne 13 (by decide) (by decide)] at z
      rw [eg q s k hs20 (by omega) hne 12 (by decide) (by decide)]
      exact a3 k hk z
    · rw [eg q s k hs20 hk hne 11 (by decide) (by decide)]
      exact a4 k hk
  have oldK : ∀ q, q < V 1 0 → ∀ s, s < M 2 q → ¬ (q = p ∧ s = r) → M2 8 (20 * q + s) ≤ 24 ∧ ∀ j, j < 24 → mK M2 (24 * (20 * q + s) + j) := fun q hq s hs hne => by
    have m1 := (w4 q hq).2
    have hs20 : s < 20 := by have := m1.1; omega
    refine ⟨?_, fun j hj => mK_cg (eg q s j hs20 hj hne) ((m1.2 s hs).2 j hj)⟩
    rw [e8 q s 8 hs20 hne (Or.inl rfl)]
    exact (m1.2 s hs).1
  refine ⟨⟨by rw [e0 1 0 (by decide)]; exact w1, by rw [e0 16 0 (by decide)]; exact w2, fun i hi => by rw [e0 17 i (by decide)]; exact w3 i hi⟩, fun q hq => ?_, ?_, ?_, ?_, ?_⟩
  · obtain ⟨⟨b1, b2, b3, b4, b5, b6, b7⟩, m1⟩ := w4 q hq
    refine ⟨⟨(e0 2 q (by decide)).trans b1, (e0 3 q (by decide)).trans b2, (e0 4 q (by decide)).trans b3, (e0 5 q (by decide)).trans b4, (e0 6 q (by decide)).trans b5, fun k hk => (e0 7 _ (by decide)).trans (b6 k ?_), fun s hs => ?_⟩, ?_⟩
    · by_cases e : q = p
      · subst e
        rw [uP_eq] at hk
        by_cases er : r = 0
        · subst er
          rw [uR_eq] at hk
          omega
        · rwa [uR_ne (by omega)] at hk
      · rwa [uP_ne e] at hk
    · by_cases e : q = p ∧ s = r
      · obtain ⟨rfl, rfl⟩ := e
        rw [uP_eq, uR_eq]
        exact ⟨hX, h9, h12, h11⟩
      · have e2 : uP R p (uR (R p) r X) q s = R q s := by
          by_cases ep : q = p
          · subst ep
            rw [uP_eq, uR_ne (fun z => e ⟨rfl, z⟩)]
          · rw [uP_ne ep]
        rw [e2]
        exact oldR q hq s hs e
    · refine ⟨by rw [e0 2 q (by decide)]; exact m1.1, fun s hs => ?_⟩
      rw [e0 2 q (by decide)] at hs
      by_cases e : q = p ∧ s = r
      · obtain ⟨rfl, rfl⟩ := e
        exact ⟨by have := hX.1; rw [mR_0] at this; omega, hK⟩
      · exact oldK q hq s hs e
  · rw [e0 22 0 (by decide), e0 23 0 (by decide), e0 24 0 (by decide), e0 25 0 (by decide)]
    exact ⟨w5.1, fun z => ⟨(w5.2 z).1, (w5.2 z).2.1, (w5.2 z).2.2.1, fun i hi => by rw [e0 26 i (by decide), e0 27 i (by decide)]; exact (w5.2 z).2.2.2 i hi⟩⟩
  · exact ⟨by rw [e0 28 0 (by decide)]; exact w6.1, fun i hi => by rw [e0 29 i (by decide)]; exact w6.2 i hi⟩
  · rw [e0 31 0 (by decide), e0 32 0 (by decide), e0 33 0 (by decide)]
    exact w7
  · exact ⟨by rw [e0 34 0 (by decide)]; exact w8.1, fun i hi => by rw [e0 35 i (by decide)]; exact w8.2 i hi⟩
/-- the invariant of a row that still hangs where it hung -/
theorem kP_row {Q : Nat → Nat → Nat} {R : Nat → Nat → Nat → Nat} (h : kP Q R) {r : Nat} {X : Nat → Nat → Nat} (hX : r < Q 5 0 → rOK X) (h0 : X 0 0 = R r 0 0) (h4 : ∀ k, X 4 k = R r 4 k) (h5 : ∀ k, X 5 k = R r 5 k) : kP Q (uR R r X) := by
  obtain ⟨a1, a2, a3, a4, a5, a6, a7⟩ := h
  have e0 : ∀ s, uR R r X s 0 0 = R s 0 0 := fun s => by
    by_cases e : s = r
    · subst e; rw [uR_eq]; exact h0
    · rw [uR_ne e]
  have e4 : ∀ s k, uR R r X s 4 k = R s 4 k := fun s k => by
    by_cases e : s = r
    · subst e; rw [uR_eq]; exact h4 k
    · rw [uR_ne e]
  have e5 : ∀ s k, uR R r X s 5 k = R s 5 k := fun s k => by
    by_cases e : s = r
    · subst e; rw [uR_eq]; exact h5 k
    · rw [uR_ne e]
  refine ⟨a1, a2, fun s hs => ?_, ⟨fun k hk => ?_, fun s hs k hk => ?_⟩, a5, a6, fun s hs => ⟨fun q => ?_, ?_⟩⟩
  · by_cases e : s = r
    · subst e; rw [uR_eq]; exact hX hs
    · rw [uR_ne e]; exact a3 s hs
  · rw [e0] at hk
    rw [e5]
    exact a4.1 k hk
  · rw [e0] at hk
    rw [e5, e4, e0]
    exact a4.2 s hs k hk
  · rw [e0]
    have := (a7 s hs).1 q
    rw [show fb_sm (fun j => nb (hgb (uR R r X (s + 1)) j q)) (R (s + 1) 0 0) = fb_sm (fun j => nb (hgb (R (s + 1)) j q)) (R (s + 1) 0 0) from fb_sm_cong (fun j _ => by unfold hgb; rw [e4, e5])]
    exact this
  · rw [e0]
    have := (a7 s hs).2
    rw [show fb_sm (fun j => uR R r X (s + 1) 5 j) (R (s + 1) 0 0) = fb_sm (fun j => R (s + 1) 5 j) (R (s + 1) 0 0) from fb_sm_cong (fun j _ => e5 _ _)]
    exact this
theorem kO_pan {V : Nat → Nat → Nat} {P : Nat → Nat → Nat → Nat} {R : Nat → Nat → Nat → Nat → Nat} (O : kO V P R) {p : Nat} {P2 : Nat → Nat → Nat} {R2 : Nat → Nat → Nat → Nat} (h : kP P2 R2) : kO V (uP P p P2) (uP R p R2) :=
  ⟨O.1, O.2.1, O.2.2.1, fun q hq => by
    by_cases e : q = p
    · subst e; rw [uP_eq, uP_eq]; exact h
    · rw [uP_ne e, uP_ne e]; exact O.2.2.2 q hq⟩
theorem kO_row {V : Nat → Nat → Nat} {P : Nat → Nat → Nat → Nat} {R : Nat → Nat → Nat → Nat → Nat} (O : kO V P R) {p : Nat} {R2 : Nat → Nat → Nat → Nat} (h : p < V 1 0 → kP (P p) R2) : kO V P (uP R p R2) :=
  ⟨O.1, O.2.1, O.2.2.1, fun q hq => by
    by_cases e : q = p
    · subst e; rw [uP_eq]; exact h hq
    · rw [uP_ne e]; exact O.2.2.2 q hq⟩
def mQ (h h2 : nPH) (b : Nat) (V : Nat → Nat → Nat) (P : Nat → Nat → Nat → Nat) (R : Nat → Nat → Nat → Nat → Nat) (E Y T S : Nat → Nat → Nat) : Prop := nFr (nIv b 24) h h2 ∧ ∃ M2, o8 h2 b M2 ∧ rW M2 V P R E Y T S
