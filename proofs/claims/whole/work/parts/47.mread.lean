/-! the model: what it reads -/
def kP (Q : Nat → Nat → Nat) (R : Nat → Nat → Nat → Nat) : Prop := 1 ≤ Q 5 0 ∧ Q 5 0 ≤ 20 ∧ (∀ r, r < Q 5 0 → rOK (R r)) ∧ gOK (Q 5 0) R ∧ hPl (Q 6) ∧ ((1 ≤ Q 0 0 ∧ Q 0 0 ≤ 1000) ∧ (1 ≤ Q 1 0 ∧ Q 1 0 ≤ 1000000) ∧ 1 ≤ Q 2 0 ∧ Q 2 0 ≤ Q 3 0 ∧ Q 3 0 ≤ 1000) ∧ ∀ r, r + 1 < Q 5 0 → (∀ q, fb_sm (fun j => nb (hgb (R (r + 1)) j q)) (R (r + 1) 0 0) ≤ 3) ∧ fb_sm (fun j => R (r + 1) 5 j) (R (r + 1) 0 0) ≤ 60
def kO (V : Nat → Nat → Nat) (P : Nat → Nat → Nat → Nat) (R : Nat → Nat → Nat → Nat → Nat) : Prop := V 1 0 ≤ 12 ∧ V 3 0 ≤ 102 ∧ (∀ i, i < 101 → V 2 i ≤ 100) ∧ ∀ p, p < V 1 0 → kP (P p) (R p)
/-- what is known of panel p -/
theorem rW_p {M V : Nat → Nat → Nat} {P : Nat → Nat → Nat → Nat} {R : Nat → Nat → Nat → Nat → Nat} {E Y T S : Nat → Nat → Nat} (W : rW M V P R E Y T S) (O : kO V P R) {p : Nat} (hp : p < V 1 0) : p < M 1 0 ∧ M 1 0 ≤ 12 ∧ p < 12 ∧ M 2 p = P p 5 0 ∧ M 2 p ≤ 20 ∧ 1 ≤ P p 5 0 ∧ kP (P p) (R p) ∧ mP M p := by
  have h1 := W.1.1
  have h2 := O.1
  have h3 := O.2.2.2 p hp
  have h4 := W.2.1 p hp
  exact ⟨by omega, by omega, by omega, h4.1.1, by rw [h4.1.1]; exact h3.2.1, h3.1, h3, h4.2⟩
theorem rW_r {M V : Nat → Nat → Nat} {P : Nat → Nat → Nat → Nat} {R : Nat → Nat → Nat → Nat → Nat} {E Y T S : Nat → Nat → Nat} (W : rW M V P R E Y T S) (O : kO V P R) {p r : Nat} (hp : p < V 1 0) (hr : r < P p 5 0) : r < M 2 p ∧ r < 20 ∧ M 8 (20 * p + r) = R p r 0 0 ∧ R p r 0 0 ≤ 24 ∧ rOK (R p r) ∧ rRw (R p r) (mR M p r) := by
  have a := rW_p W O hp
  have h4 := (W.2.1 p hp).1.2.2.2.2.2.2 r hr
  have h5 := a.2.2.2.2.2.2.1.2.2.1 r hr
  exact ⟨by omega, by omega, h4.1.1.symm, h5.1, h5, h4.1⟩
theorem rW_k {M V : Nat → Nat → Nat} {P : Nat → Nat → Nat → Nat} {R : Nat → Nat → Nat → Nat → Nat} {E Y T S : Nat → Nat → Nat} (W : rW M V P R E Y T S) (O : kO V P R) {p r k : Nat} (hp : p < V 1 0) (hr : r < P p 5 0) (hk : k < R p r 0 0) : k < M 8 (20 * p + r) ∧ k < 24 ∧ R p r 1 k = M 10 (24 * (20 * p + r) + k) ∧ R p r 2 k = M 11 (24 * (20 * p + r) + k) ∧ R p r 3 k = M 15 (24 * (20 * p + r) + k) ∧ R p r 5 k = M 13 (24 * (20 * p + r) + k) ∧ R p r 6 k = M 14 (24 * (20 * p + r) + k) ∧ (R p r 5 k ≠ 0 → M 12 (24 * (20 * p + r) + k) = R p r 4 k + 1) ∧ (R p r 5 k = 0 → M 12 (24 * (20 * p + r) + k) = 0) := by
  have a := rW_p W O hp
  have c := rW_r W O hp hr
  obtain ⟨q1, q2, q3, q5, q6, q4⟩ := c.2.2.2.2.2.2 k hk
  have h24 : k < 24 := by omega
  have hK := (a.2.2.2.2.2.2.2.2 r c.1).2 k h24
  have h13 := ((W.2.1 p hp).1.2.2.2.2.2.2 r hr).2.2.1 k hk
  rw [mR_5] at q5
  refine ⟨by omega, h24, q1, q2, q3, q5, q6, fun z => ?_, fun z => h13 (by omega)⟩
  have := q4 z
  rw [mR_4] at this
  have h12 : M 12 (24 * (20 * p + r) + k) ≠ 0 := fun y => z (q5.trans (hK.2.2.2.1 y))
  omega
