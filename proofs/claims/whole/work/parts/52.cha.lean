/-! the model: kind, side, needle, pull, hang, parts, part -/
theorem uuP {α : Type} (P : Nat → α) (p : Nat) (X Z : α) : uP (uP P p X) p Z = uP P p Z := funext fun q => by
  by_cases e : q = p
  · subst e; rw [uP_eq, uP_eq]
  · rw [uP_ne e, uP_ne e, uP_ne e]
theorem uPs {α : Type} (P : Nat → α) (p : Nat) : uP P p (P p) = P := funext fun q => by
  by_cases e : q = p
  · subst e; rw [uP_eq]
  · rw [uP_ne e]
theorem uuR (R : Nat → Nat → Nat → Nat) (r : Nat) (X Z : Nat → Nat → Nat) : uR (uR R r X) r Z = uR R r Z := funext fun q => by
  by_cases e : q = r
  · subst e; rw [uR_eq, uR_eq]
  · rw [uR_ne e, uR_ne e, uR_ne e]
theorem u2_cg {D N : Nat → Nat → Nat} {f k v g j : Nat} (h : D g j = N g j) : u2 D f k v g j = u2 N f k v g j := by
  unfold u2
  rw [h]
theorem rRw_u2 {D N : Nat → Nat → Nat} (h : rRw D N) {f k v : Nat} (hf : f = 1 ∨ f = 2 ∨ f = 3 ∨ f = 6) : rRw (u2 D f k v) (u2 N f k v) := by
  refine ⟨u2_cg h.1, fun j hj => ?_⟩
  rw [u2_ne (by omega)] at hj
  obtain ⟨q1, q2, q3, q5, q6, q4⟩ := h.2 j hj
  refine ⟨u2_cg q1, u2_cg q2, u2_cg q3, u2_cg q5, u2_cg q6, fun z => u2_cg (q4 ?_)⟩
  rwa [u2_ne (by omega)] at z
theorem rRw_cg6 {D N N2 : Nat → Nat → Nat} (h : rRw D N) (e : ∀ f k, f ≤ 6 → N2 f k = N f k) : rRw D N2 := by
  refine ⟨h.1.trans (e 0 0 (by decide)).symm, fun k hk => ?_⟩
  obtain ⟨q1, q2, q3, q5, q6, q4⟩ := h.2 k hk
  exact ⟨q1.trans (e 1 k (by decide)).symm, q2.trans (e 2 k (by decide)).symm, q3.trans (e 3 k (by decide)).symm, q5.trans (e 5 k (by decide)).symm, q6.trans (e 6 k (by decide)).symm, fun z => (q4 z).trans (e 4 k (by decide)).symm⟩
theorem mR_u (M : Nat → Nat → Nat) (p r f k v : Nat) (hf : f = 1 ∨ f = 2 ∨ f = 3 ∨ f = 6) : ∀ g j, g ≤ 6 → mR (u2 M (mF f) (24 * (20 * p + r) + k) v) p r g j = u2 (mR M p r) f k v g j := fun g j hg => by
  have hF : mF f = 10 ∧ f = 1 ∨ mF f = 11 ∧ f = 2 ∨ mF f = 15 ∧ f = 3 ∨ mF f = 14 ∧ f = 6 := by
    rcases hf with rfl | rfl | rfl | rfl
    · exact Or.inl ⟨rfl, rfl⟩
    · exact Or.inr (Or.inl ⟨rfl, rfl⟩)
    · exact Or.inr (Or.inr (Or.inl ⟨rfl, rfl⟩))
    · exact Or.inr (Or.inr (Or.inr ⟨rfl, rfl⟩))
  generalize mF f = F at hF
  rcases (show g = 0 ∨ g = 1 ∨ g = 2 ∨ g = 3 ∨ g = 4 ∨ g = 5 ∨ g = 6 by omega) with rfl | rfl | rfl | rfl | rfl | rfl | rfl
  · rw [mR_0, u2_ne (by omega), u2_ne (by omega), mR_0]
  · rw [mR_1]
    by_cases e : f = 1 ∧ j = k
    · obtain ⟨rfl, rfl⟩ := e
      rw [show F = 10 by omega, u2_eq, u2_eq]
    · rw [u2_ne (by omega), u2_ne (by omega), mR_1]
  · rw [mR_2]
    by_cases e : f = 2 ∧ j = k
    · obtain ⟨rfl, rfl⟩ := e
      rw [show F = 11 by omega, u2_eq, u2_eq]
    · rw [u2_ne (by omega), u2_ne (by omega), mR_2]
  · rw [mR_3]
    by_cases e : f = 3 ∧ j = k
    · obtain ⟨rfl, rfl⟩ := e
      rw [show F = 15 by omega, u2_eq, u2_eq]
    · rw [u2_ne (by omega), u2_ne (by omega), mR_3]
  · rw [mR_4, u2_ne (by omega), u2_ne (by omega), mR_4]
  · rw [mR_5, u2_ne (by omega), u2_ne (by omega), mR_5]
  · rw [mR_6]
    by_cases e : f = 6 ∧ j = k
    · obtain ⟨rfl, rfl⟩ := e
      rw [show F = 14 by omega, u2_eq, u2_eq]
    · rw [u2_ne (by omega), u2_ne (by omega), mR_6]
/-- one field of one knot is another one now -/
theorem rW_f {M V : Nat → Nat → Nat} {P : Nat → Nat → Nat → Nat} {R : Nat → Nat → Nat → Nat → Nat} {E Y T S : Nat → Nat → Nat} (W : rW M V P R E Y T S) {p r k : Nat} (hp : p < V 1 0) (hr : r < P p 5 0) (hk : k < R p r 0 0) {f v : Nat} (hf : f = 1 ∨ f = 2 ∨ f = 3 ∨ f = 6) (h2 : f = 2 → v ≤ 2) (h6 : f = 6 → v < 2 ^ 24) (h3 : f = 3 → v ≤ 1 := by first | decide | exact fun e => absurd e (by decide)) : rW (u2 M (mF f) (24 * (20 * p + r) + k) v) V P (uP R p (uR (R p) r (u2 (R p r) f k v))) E Y T S := by
  have m1 := (W.2.1 p hp).2
  have w1 := (W.2.1 p hp).1.1
  obtain ⟨a1, a2, a3, a4⟩ := (W.2.1 p hp).1.2.2.2.2.2.2 r hr
  have m2 := m1.2 r (by omega)
  have h24 : R p r 0 0 ≤ 24 := by rw [a1.1]; exact m2.1
  have hF : mF f = 10 ∨ mF f = 11 ∧ f = 2 ∨ mF f = 15 ∧ f = 3 ∨ mF f = 14 ∧ f = 6 := by
    rcases hf with rfl | rfl | rfl | rfl
    · exact Or.inl rfl
    · exact Or.inr (Or.inl ⟨rfl, rfl⟩)
    · exact Or.inr (Or.inr (Or.inl ⟨rfl, rfl⟩))
    · exact Or.inr (Or.inr (Or.inr ⟨rfl, rfl⟩))
  have hmu := mR_u M p r f k v hf
  generalize mF f = F at hF hmu
  have hX0 : u2 (R p r) f k v 0 0 = R p r 0 0 := u2_ne (by omega)
  refine rW_row W hp hr (fun g i g1 g2 => u2_ne (by omega)) (rRw_cg6 (rRw_u2 a1 hf) hmu) ?_ (fun j hj => ?_) (fun j hj => ?_) (by rw [hX0]; exact h24) (fun j hj => ?_) (by rw [hX0]; exact Nat.le_refl _)
  · rw [u2_ne (by omega), hX0]
    exact a2
  · rw [hX0] at hj
    rw [u2_ne (by omega), u2_ne (by omega)]
    exact a3 j hj
  · by_cases e : F = 11 ∧ j = k
    · obtain ⟨rfl, rfl⟩ := e
      rw [u2_eq]
      exact h2 (by omega)
    · rw [u2_ne (by omega)]
      exact a4 j hj
  · obtain ⟨b1, b2, b3, b4, b5⟩ := m2.2 j hj
    refine ⟨?_, ?_, ?_, ?_, ?_⟩
    · rw [u2_ne (by omega)]; exact b1
    · rw [u2_ne (by omega)]; exact b2
    · by_cases e : F = 14 ∧ j = k
      · obtain ⟨rfl, rfl⟩ := e
        rw [u2_eq]
        exact h6 (by omega)
      · rw [u2_ne (by omega)]; exact b3
    · rw [u2_ne (by omega), u2_ne (by omega)]; exact b4
    · by_cases e : F = 15 ∧ j = k
      · obtain ⟨rfl, rfl⟩ := e
        rw [u2_eq]
        exact h3 (by omega)
      · rw [u2_ne (by omega)]; exact b5
/-- a panel's own words are other ones now -/
theorem rW_head {M V : Nat → Nat → Nat} {P : Nat → Nat → Nat → Nat} {R : Nat → Nat → Nat → Nat → Nat} {E Y T S : Nat → Nat → Nat} (W : rW M V P R E Y T S) {p : Nat} (hp : p < V 1 0) {M2 P2 : Nat → Nat → Nat} (hM : ∀ f i, (3 ≤ f → f ≤ 6 → i ≠ p) → (f = 7 → i < 24 * p ∨ 24 * p + 24 ≤ i) → M2 f i = M f i) (h5 : P2 5 0 = P p 5 0) (h3 : M2 3 p = P2 0 0) (h4 : M2 4 p = P2 1 0) (h51 : M2 5 p = P2 2 0) (h6 : M2 6 p = P2 3 0) (h7 : ∀ k, k < R p 0 0 0 → M2 7 (24 * p + k) = P2 6 k) (hz : ∀ q, q < V 1 0 → R q 0 0 0 ≤ 24) : rW M2 V (uP P p P2) (uP R p (R p)) E Y T S := by
  obtain ⟨⟨w1, w2, w3⟩, w4, w5, w6, w7, w8⟩ := W
  have e0 : ∀ f i, (f < 3 ∨ 7 < f) → M2 f i = M f i := fun f i h => hM f i (by omega) (by omega)
  have eM : ∀ q s f k, mR M2 q s f k = mR M q s f k := fun q s f k => mR_cg (e0 8 _ (by decide)) (fun g g1 g2 => e0 g _ (by omega)) f
  rw [uPs]
  refine ⟨⟨by rw [e0 1 0 (by decide)]; exact w1, by rw [e0 16 0 (by decide)]; exact w2, fun i hi => by rw [e0 17 i (by decide)]; exact w3 i hi⟩, fun q hq => ?_, ?_, ?_, ?_, ?_⟩
  · obtain ⟨⟨b1, b2, b3, b4, b5, b6, b7⟩, m1⟩ := w4 q hq
    refine ⟨?_, by rw [e0 2 q (by decide)]; exact m1.1, fun s hs => ⟨?_, fun j hj => mK_cg (fun g g1 g2 => e0 g _ (by omega)) ((m1.2 s (by rwa [e0 2 q (by decide)] at hs)).2 j hj)⟩⟩
    · have old : ∀ s, s < P q 5 0 → rRw (R q s) (mR M2 q s) ∧ M2 9 (20 * q + s) = nB (R q s 0 0 = 0) ∧ (∀ k, k < R q s 0 0 → M2 13 (24 * (20 * q + s) + k) = 0 → M2 12 (24 * (20 * q + s) + k) = 0) ∧ ∀ k, k < 24 → M2 11 (24 * (20 * q + s) + k) ≤ 2 := fun s hs => by
        obtain ⟨a1, a2, a3, a4⟩ := b7 s hs
        refine ⟨rRw_cg6 a1 (fun f k _ => eM q s f k), (e0 9 _ (by decide)).trans a2, fun k hk z => ?_, fun k hk => ?_⟩
        · rw [e0 13 _ (by decide)] at z
          rw [e0 12 _ (by decide)]
          exact a3 k hk z
        · rw [e0 11 _ (by decide)]
          exact a4 k hk
      by_cases e : q = p
      · subst e
        rw [uP_eq]
        exact ⟨by rw [e0 2 q (by decide), h5]; exact b1, h3, h4, h51, h6, h7, fun s hs => old s (by rwa [h5] at hs)⟩
      · rw [uP_ne e]
        exact ⟨(e0 2 q (by decide)).trans b1, (hM 3 q (fun _ _ => e) (fun z => absurd z (by decide))).trans b2, (hM 4 q (fun _ _ => e) (fun z => absurd z (by decide))).trans b3, (hM 5 q (fun _ _ => e) (fun z => absurd z (by decide))).trans b4, (hM 6 q (fun _ _ => e) (fun z => absurd z (by decide))).trans b5, fun k hk => (hM 7 _ (fun _ z => absurd z (by decide)) (fun _ => by have := hz q hq; omega)).trans (b6 k hk), old⟩
    · rw [e0 8 _ (by decide)]
      exact (m1.2 s (by rwa [e0 2 q (by decide)] at hs)).1
  · rw [e0 22 0 (by decide), e0 23 0 (by decide), e0 24 0 (by decide), e0 25 0 (by decide)]
    exact ⟨w5.1, fun z => ⟨(w5.2 z).1, (w5.2 z).2.1, (w5.2 z).2.2.1, fun i hi => by rw [e0 26 i (by decide), e0 27 i (by decide)]; exact (w5.2 z).2.2.2 i hi⟩⟩
  · exact ⟨by rw [e0 28 0 (by decide)]; exact w6.1, fun i hi => by rw [e0 29 i (by decide)]; exact w6.2 i hi⟩
  · rw [e0 31 0 (by decide), e0 32 0 (by decide), e0 33 0 (by decide)]
    exact w7
  · exact ⟨by rw [e0 34 0 (by decide)]; exact w8.1, fun i hi => by rw [e0 35 i (by decide)]; exact w8.2 i hi⟩
/-- words outside the panels are other ones now -/
theorem rW_out {M V : Nat → Nat → Nat} {P : Nat → Nat → Nat → Nat} {R : Nat → Nat → Nat → Nat → Nat} {E Y T S : Nat → Nat → Nat} (W : rW M V P R E Y T S) {M2 V2 E2 Y2 T2 S2 : Nat → Nat → Nat} (hM : ∀ f i, 2 ≤ f → f ≤ 15 → M2 f i = M f i) (h1 : M2 1 0 = M 1 0) (hV : V2 1 0 = V 1 0) (hc : M2 16 0 = V2 3 0 ∧ ∀ i, i < 101 → M2 17 i = V2 2 i) (hE : M2 22 0 = E2 0 0 ∧ (E2 0 0 = 1 → M2 23 0 = E2 1 0 ∧ M2 24 0 = E2 2 0 ∧ M2 25 0 = E2 3 0 ∧ ∀ i, i < E2 1 0 → M2 26 i = E2 4 i ∧ M2 27 i = E2 5 i)) (hY : M2 28 0 = Y2 0 0 ∧ ∀ i, i < Y2 0 0 → M2 29 i = Y2 1 (Y2 0 0 - 1 - i)) (hT : (T2 1 0 = 0 ↔ M2 33 0 = 0) ∧ (T2 1 0 ≠ 0 → M2 31 0 = T2 1 0 ∧ M2 32 0 = T2 2 0 ∧ M2 33 0 = T2 0 0)) (hS : M2 34 0 = S2 0 0 ∧ ∀ i, i < S2 0 0 → M2 35 i = S2 1 i) : rW M2 V2 P R E2 Y2 T2 S2 := by
  obtain ⟨⟨w1, w2, w3⟩, w4, w5, w6, w7, w8⟩ := W
  have eM : ∀ q s f k, mR M2 q s f k = mR M q s f k := fun q s f k => mR_cg (hM 8 _ (by decide) (by decide)) (fun g g1 g2 => hM g _ (by omega) (by omega)) f
  refine ⟨⟨by rw [h1, hV]; exact w1, hc⟩, fun q hq => ?_, hE, hY, hT, hS⟩
  obtain ⟨⟨b1, b2, b3, b4, b5, b6, b7⟩, m1⟩ := w4 q (by rwa [hV] at hq)
  refine ⟨⟨(hM 2 q (by decide) (by decide)).trans b1, (hM 3 q (by decide) (by decide)).trans b2, (hM 4 q (by decide) (by decide)).trans b3, (hM 5 q (by decide) (by decide)).trans b4, (hM 6 q (by decide) (by decide)).trans b5, fun k hk => (hM 7 _ (by decide) (by decide)).trans (b6 k hk), fun s hs => ?_⟩, by rw [hM 2 q (by decide) (by decide)]; exact m1.1, fun s hs => ⟨?_, fun j hj => mK_cg (fun g g1 g2 => hM g _ (by omega) (by omega)) ((m1.2 s (by rwa [hM 2 q (by decide) (by decide)] at hs)).2 j hj)⟩⟩
  · obtain ⟨a1, a2, a3, a4⟩ := b7 s hs
    refine ⟨rRw_cg6 a1 (fun f k _ => eM q s f k), (hM 9 _ (by decide) (by decide)).trans a2, fun k hk z => ?_, fun k hk => ?_⟩
    · rw [hM 13 _ (by decide) (by decide)] at z
      rw [hM 12 _ (by decide) (by decide)]
      exact a3 k hk z
    · rw [hM 11 _ (by decide) (by decide)]
      exact a4 k hk
  · rw [hM 8 _ (by decide) (by decide)]
    exact (m1.2 s (by rwa [hM 2 q (by decide) (by decide)] at hs)).1
