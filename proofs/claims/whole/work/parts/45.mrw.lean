/-! the model: the next row -/
def mR1 (M : Nat → Nat → Nat) (p r t : Nat) : Nat → Nat → Nat := u2 (u2 (mCk M (20 * p + (r + 1)) 24) 8 (20 * p + (r + 1)) t) 2 p (r + 1 + 1)
def mRw (M : Nat → Nat → Nat) (p r t : Nat) : Nat → Nat → Nat := mHg (mR1 M p r t) p r t
theorem mR1_o {M : Nat → Nat → Nat} {p r t f i : Nat} (h : 10 ≤ f → f ≤ 15 → i < 24 * (20 * p + (r + 1))) (h2 : f = 8 ∨ f = 9 → i ≠ 20 * p + (r + 1)) (h3 : ¬ (f = 2 ∧ i = p)) : mR1 M p r t f i = M f i := by
  unfold mR1
  rw [u2_ne (by omega), u2_ne (by omega)]
  unfold mCk
  rw [if_neg (by omega), if_neg (by omega)]
theorem mR1_r {M : Nat → Nat → Nat} {p r t : Nat} : ∀ f k, k < 24 → mR (mR1 M p r t) p r f k = mR M p r f k := fun f k hk => by
  by_cases h0 : f = 0
  · subst h0
    rw [mR_0, mR_0, mR1_o (by omega) (by omega) (by omega)]
  · by_cases h4 : f = 4
    · subst h4
      rw [mR_4, mR_4, mR1_o (by omega) (by omega) (by omega)]
    · have e : ∀ N : Nat → Nat → Nat, mR N p r f k = N (mF f) (24 * (20 * p + r) + k) := fun N => by
        unfold mR
        rw [if_neg h0, if_neg h4]
      have hF : mF f = 10 ∨ mF f = 11 ∨ mF f = 15 ∨ mF f = 13 ∨ mF f = 14 := by
        unfold mF
        split
        · omega
        · split
          · omega
          · split
            · omega
            · split <;> omega
      rw [e, e, mR1_o (by omega) (by omega) (by omega)]
theorem mR1_off {M : Nat → Nat → Nat} {p r t : Nat} {n : Nat} (hn : n ≤ 24) : off (mR (mR1 M p r t) p r) n = off (mR M p r) n := fb_sm_cong (fun k hk => mR1_r 2 k (by omega))
