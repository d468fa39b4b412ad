/-! class and model: the same -/
/-- two rows tell the same -/
def rRw (D N : Nat → Nat → Nat) : Prop := D 0 0 = N 0 0 ∧ ∀ k, k < D 0 0 → D 1 k = N 1 k ∧ D 2 k = N 2 k ∧ D 3 k = N 3 k ∧ D 5 k = N 5 k ∧ D 6 k = N 6 k ∧ (D 5 k ≠ 0 → D 4 k = N 4 k)
theorem rRw_hg {D N : Nat → Nat → Nat} (h : rRw D N) {k : Nat} (hk : k < D 0 0) (q : Nat) : hgb D k q = hgb N k q := by
  obtain ⟨-, -, -, h5, -, h4⟩ := h.2 k hk
  rw [Bool.eq_iff_iff, hgb_T, hgb_T, ← h5]
  by_cases e : D 5 k = 0
  · omega
  · rw [h4 e]
theorem rRw_go {D N : Nat → Nat → Nat} (h : rRw D N) {k : Nat} (hk : k < D 0 0) (q : Nat) : igo D k q = igo N k q ∧ iwh D k q = iwh N k q := by
  have e := rRw_hg h hk q
  unfold igo iwh
  rw [← e]
  rcases z : hgb D k q with _ | _
  · exact ⟨rfl, rfl⟩
  · obtain ⟨-, -, -, h5, h6, h4⟩ := h.2 k hk
    have := hgb_T.mp z
    rw [← h6, ← h4 (by omega)]
    exact ⟨rfl, rfl⟩
def rPn (Q : Nat → Nat → Nat) (R : Nat → Nat → Nat → Nat) (M : Nat → Nat → Nat) (p : Nat) : Prop :=
  M 2 p = Q 5 0 ∧ M 3 p = Q 0 0 ∧ M 4 p = Q 1 0 ∧ M 5 p = Q 2 0 ∧ M 6 p = Q 3 0 ∧ (∀ k, k < R 0 0 0 → M 7 (24 * p + k) = Q 6 k) ∧
  ∀ r, r < Q 5 0 → rRw (R r) (mR M p r) ∧ M 9 (20 * p + r) = nB (R r 0 0 = 0) ∧ (∀ k, k < R r 0 0 → M 13 (24 * (20 * p + r) + k) = 0 → M 12 (24 * (20 * p + r) + k) = 0) ∧ ∀ k, k < 24 → M 11 (24 * (20 * p + r) + k) ≤ 2
/-- class and model hold the same -/
def rW (M V : Nat → Nat → Nat) (P : Nat → Nat → Nat → Nat) (R : Nat → Nat → Nat → Nat → Nat) (E Y T S : Nat → Nat → Nat) : Prop :=
  (M 1 0 = V 1 0 ∧ M 16 0 = V 3 0 ∧ ∀ i, i < 101 → M 17 i = V 2 i) ∧ (∀ p, p < V 1 0 → rPn (P p) (R p) M p ∧ mP M p) ∧
  (M 22 0 = E 0 0 ∧ (E 0 0 = 1 → M 23 0 = E 1 0 ∧ M 24 0 = E 2 0 ∧ M 25 0 = E 3 0 ∧ ∀ i, i < E 1 0 → M 26 i = E 4 i ∧ M 27 i = E 5 i)) ∧
  (M 28 0 = Y 0 0 ∧ ∀ i, i < Y 0 0 → M 29 i = Y 1 (Y 0 0 - 1 - i)) ∧
  ((T 1 0 = 0 ↔ M 33 0 = 0) ∧ (T 1 0 ≠ 0 → M 31 0 = T 1 0 ∧ M 32 0 = T 2 0 ∧ M 33 0 = T 0 0)) ∧
  (M 34 0 = S 0 0 ∧ ∀ i, i < S 0 0 → M 35 i = S 1 i)
