/-! the model: what is sewn -/
theorem rCp_00 (D : Nat → Nat → Nat) : rCp 6 D 0 0 = D 0 0 := by
  unfold rCp
  rw [if_neg (by omega)]
  rfl
theorem rCp_f {D : Nat → Nat → Nat} {f k : Nat} (h : f ≠ 0) (h2 : f ≤ 6) (hk : k < 24) : rCp 6 D f k = D f k := if_pos ⟨h, h2, hk⟩
theorem rRw_cp {D N : Nat → Nat → Nat} (h : rRw D N) (h24 : D 0 0 ≤ 24) : rRw (rCp 6 D) N := by
  refine ⟨(rCp_00 D).trans h.1, fun k hk => ?_⟩
  rw [rCp_00] at hk
  have hk2 : k < 24 := by omega
  rw [rCp_f (by decide) (by decide) hk2, rCp_f (by decide) (by decide) hk2, rCp_f (by decide) (by decide) hk2, rCp_f (by decide) (by decide) hk2, rCp_f (by decide) (by decide) hk2, rCp_f (by decide) (by decide) hk2]
  exact h.2 k hk
theorem rJn_1 {q : Nat} {D : Nat → Nat → Nat} {k : Nat} (hk : k < D 0 0) : rJn q D 1 k = 3 := by
  unfold rJn rG1
  have : rSe (D 0 0) D 1 k = 3 := if_pos ⟨rfl, hk⟩
  split
  · rw [if_neg (by omega), this]
  · rw [if_neg (by omega), this]
theorem rJn_f {q : Nat} {D : Nat → Nat → Nat} {f k : Nat} (h1 : f ≠ 1) (h2 : f ≠ 2) : rJn q D f k = D f k := by
  have : rSe (D 0 0) D f k = D f k := by
    unfold rSe
    rw [if_neg (by omega), if_neg (by omega)]
  unfold rJn rG1
  split
  · rw [if_neg (by omega), this]
  · rw [if_neg (by omega), this]
def mSm (N : Nat → Nat → Nat) (y k : Nat) (G : Nat → Nat) : Nat → Nat → Nat := fun f x => if f = 10 ∧ 24 * y ≤ x ∧ x < 24 * y + k then 3 else if f = 11 ∧ 24 * y ≤ x ∧ x < 24 * y + k then G (x - 24 * y) else N f x
theorem mSm_0 (N : Nat → Nat → Nat) (y : Nat) (G : Nat → Nat) (f x : Nat) : mSm N y 0 G f x = N f x := by
  unfold mSm
  rw [if_neg (by omega), if_neg (by omega)]
theorem mSm_s {N : Nat → Nat → Nat} {y k v : Nat} {G : Nat → Nat} (h : G k = v) (f x : Nat) : mSm N y (k + 1) G f x = u2 (u2 (mSm N y k G) 10 (24 * y + k) 3) 11 (24 * y + k) v f x := by
  subst h
  by_cases e1 : f = 11 ∧ x = 24 * y + k
  · obtain ⟨rfl, rfl⟩ := e1
    rw [u2_eq]
    unfold mSm
    rw [if_neg (by omega), if_pos (by omega), Nat.add_sub_cancel_left]
  · rw [u2_ne e1]
    by_cases e2 : f = 10 ∧ x = 24 * y + k
    · obtain ⟨rfl, rfl⟩ := e2
      rw [u2_eq]
      unfold mSm
      rw [if_pos (by omega)]
    · rw [u2_ne e2]
      unfold mSm
      by_cases h1 : f = 10 ∧ 24 * y ≤ x ∧ x < 24 * y + k
      · rw [if_pos h1, if_pos (by omega)]
      · rw [if_neg h1, if_neg (show ¬ (f = 10 ∧ 24 * y ≤ x ∧ x < 24 * y + (k + 1)) by omega)]
        by_cases h2 : f = 11 ∧ 24 * y ≤ x ∧ x < 24 * y + k
        · rw [if_pos h2, if_pos (by omega)]
        · rw [if_neg h2, if_neg (by omega)]
/-- both panels' rows, one behind the other -/
def mS5 (N : Nat → Nat → Nat) (n p q a c g s x5 x6 : Nat) : Nat → Nat → Nat := u2 (mBk (mBk (u2 (u2 (mNp N g s) 5 n x5) 6 n x6) (20 * p) (20 * n) (a + 1)) (20 * q) (20 * n + (a + 1)) c) 2 n (a + 1 + c)
def mS6 (N : Nat → Nat → Nat) (n p q a c g s x5 x6 pl : Nat) (G : Nat → Nat) : Nat → Nat → Nat := mSm (mS5 N n p q a c g s x5 x6) (20 * n + a) pl G
def mSw (N : Nat → Nat → Nat) (n p q a c g s x5 x6 pl ql : Nat) (G : Nat → Nat) : Nat → Nat → Nat := mHg (mS6 N n p q a c g s x5 x6 pl G) n a ql
section SW
variable {N : Nat → Nat → Nat} {n p q a c g s x5 x6 pl ql : Nat} {G : Nat → Nat}
theorem mS5_o (hn : N 1 0 = n) {f i : Nat} (h1 : f ≠ 1) (h2 : 2 ≤ f → f ≤ 6 → i ≠ n) (h7 : f = 7 → i < 24 * n ∨ 24 * n + 24 ≤ i) (h8 : f = 8 ∨ f = 9 → i < 20 * n ∨ 20 * n + (a + 1 + c) ≤ i) (hg : 10 ≤ f → f ≤ 15 → i < 24 * (20 * n) ∨ 24 * (20 * n) + 24 * (a + 1 + c) ≤ i) : mS5 N n p q a c g s x5 x6 f i = N f i := by
  unfold mS5
  rw [u2_ne (by omega), mBk_o (by omega) (by omega), mBk_o (by omega) (by omega), u2_ne (by omega), u2_ne (by omega), mNp_o h1 (by rw [hn]; exact h2) (by rw [hn]; exact h7)]
theorem mSw_o (hn : N 1 0 = n) (hac : a + 1 + c ≤ 20) (hc : 1 ≤ c) (hpl : pl ≤ 24) (hql : ql ≤ 24) {f i : Nat} (h1 : f ≠ 1) (h2 : 2 ≤ f → f ≤ 6 → i ≠ n) (h7 : f = 7 → i < 24 * n ∨ 24 * n + 24 ≤ i) (h8 : f = 8 ∨ f = 9 → i < 20 * n ∨ 20 * n + 20 ≤ i) (hg : 10 ≤ f → f ≤ 15 → i < 24 * (20 * n) ∨ 24 * (20 * n) + 480 ≤ i) : mSw N n p q a c g s x5 x6 pl ql G f i = N f i := by
  unfold mSw mHg
  rw [if_neg (by omega)]
  unfold mS6 mSm
  rw [if_neg (by omega), if_neg (by omega), mS5_o hn h1 h2 h7 (by omega) (by omega)]
theorem mSw_h (hn : N 1 0 = n) : mSw N n p q a c g s x5 x6 pl ql G 1 0 = n + 1 ∧ mSw N n p q a c g s x5 x6 pl ql G 2 n = a + 1 + c ∧ mSw N n p q a c g s x5 x6 pl ql G 3 n = g ∧ mSw N n p q a c g s x5 x6 pl ql G 4 n = s ∧ mSw N n p q a c g s x5 x6 pl ql G 5 n = x5 ∧ mSw N n p q a c g s x5 x6 pl ql G 6 n = x6 ∧ ∀ k, k < 24 → mSw N n p q a c g s x5 x6 pl ql G 7 (24 * n + k) = 0 := by
  obtain ⟨m1, m3, m4, m5, m6, m7⟩ := mNp_h (M := N) (g := g) (s := s)
  rw [hn] at m1 m3 m4 m5 m6 m7
  have e0 : ∀ f i, f ≠ 2 → f < 8 → mSw N n p q a c g s x5 x6 pl ql G f i = u2 (u2 (mNp N g s) 5 n x5) 6 n x6 f i := fun f i h h2 => by
    unfold mSw mHg
    rw [if_neg (by omega)]
    unfold mS6 mSm
    rw [if_neg (by omega), if_neg (by omega)]
    unfold mS5
    rw [u2_ne (by omega), mBk_o (by omega) (by omega), mBk_o (by omega) (by omega)]
  refine ⟨?_, ?_, ?_, ?_, ?_, ?_, fun k hk => ?_⟩
  · rw [e0 1 0 (by decide) (by decide), u2_ne (by omega), u2_ne (by omega), m1]
  · unfold mSw mHg
    rw [if_neg (by omega)]
    unfold mS6 mSm
    rw [if_neg (by omega), if_neg (by omega)]
    exact u2_eq _ _ _ _
  · rw [e0 3 n (by decide) (by decide), u2_ne (by omega), u2_ne (by omega), m3]
  · rw [e0 4 n (by decide) (by decide), u2_ne (by omega), u2_ne (by omega), m4]
  · rw [e0 5 n (by decide) (by decide), u2_ne (by omega), u2_eq]
  · rw [e0 6 n (by decide) (by decide), u2_eq]
  · rw [e0 7 _ (by decide) (by decide), u2_ne (by omega), u2_ne (by omega), m7 k hk]
theorem mS5_8p {f r : Nat} (hf : f = 8 ∨ f = 9) (hr : r < a + 1) : mS5 N n p q a c g s x5 x6 f (20 * n + r) = N f (20 * p + r) := by
  unfold mS5
  rw [u2_ne (by omega), mBk_o (by omega) (by omega), mBk_8 hf hr, u2_ne (by omega), u2_ne (by omega), mNp_o (by omega) (by omega) (by omega)]
theorem mS5_8q (hq : q < n) {f r : Nat} (hf : f = 8 ∨ f = 9) (hr : r < c) (hac : a + 1 + c ≤ 20) : mS5 N n p q a c g s x5 x6 f (20 * n + (a + 1 + r)) = N f (20 * q + r) := by
  unfold mS5
  rw [u2_ne (by omega), show 20 * n + (a + 1 + r) = (20 * n + (a + 1)) + r by omega, mBk_8 hf hr, mBk_o (by omega) (by omega), u2_ne (by omega), u2_ne (by omega), mNp_o (by omega) (by omega) (by omega)]
theorem mS5_gp {f r k : Nat} (hf : 10 ≤ f) (hf2 : f ≤ 15) (hr : r < a + 1) (hk : k < 24) : mS5 N n p q a c g s x5 x6 f (24 * (20 * n + r) + k) = N f (24 * (20 * p + r) + k) := by
  unfold mS5
  rw [u2_ne (by omega), mBk_o (by omega) (by omega), mBk_g hf hf2 hr hk, u2_ne (by omega), u2_ne (by omega), mNp_o (by omega) (by omega) (by omega)]
theorem mS5_gq (hq : q < n) {f r k : Nat} (hf : 10 ≤ f) (hf2 : f ≤ 15) (hr : r < c) (hac : a + 1 + c ≤ 20) (hk : k < 24) : mS5 N n p q a c g s x5 x6 f (24 * (20 * n + (a + 1 + r)) + k) = N f (24 * (20 * q + r) + k) := by
  unfold mS5
  rw [u2_ne (by omega), show 24 * (20 * n + (a + 1 + r)) + k = 24 * ((20 * n + (a + 1)) + r) + k by omega, mBk_g hf hf2 hr hk, mBk_o (by omega) (by omega), u2_ne (by omega), u2_ne (by omega), mNp_o (by omega) (by omega) (by omega)]
theorem mS6_o {f x : Nat} (h : f ≠ 10) (h2 : f ≠ 11) : mS6 N n p q a c g s x5 x6 pl G f x = mS5 N n p q a c g s x5 x6 f x := by
  unfold mS6 mSm
  rw [if_neg (by omega), if_neg (by omega)]
theorem mS6_p {f x : Nat} (h : x < 24 * (20 * n + a) ∨ 24 * (20 * n + a) + pl ≤ x) : mS6 N n p q a c g s x5 x6 pl G f x = mS5 N n p q a c g s x5 x6 f x := by
  unfold mS6 mSm
  rw [if_neg (by omega), if_neg (by omega)]
theorem mS6_10 {k : Nat} (h : k < pl) : mS6 N n p q a c g s x5 x6 pl G 10 (24 * (20 * n + a) + k) = 3 := by
  unfold mS6 mSm
  rw [if_pos (by omega)]
theorem mS6_11 {k : Nat} (h : k < pl) : mS6 N n p q a c g s x5 x6 pl G 11 (24 * (20 * n + a) + k) = G k := by
  unfold mS6 mSm
  rw [if_neg (by omega), if_pos (by omega), Nat.add_sub_cancel_left]
theorem mSw_6 {f x : Nat} (h : f < 12 ∨ f = 15 ∨ x < 24 * (20 * n + (a + 1)) ∨ 24 * (20 * n + (a + 1)) + ql ≤ x) : mSw N n p q a c g s x5 x6 pl ql G f x = mS6 N n p q a c g s x5 x6 pl G f x ∨ 15 < f := by
  by_cases e : 15 < f
  · exact Or.inr e
  · refine Or.inl ?_
    unfold mSw mHg
    rw [if_neg (by omega)]
theorem mSw_v {f k : Nat} (hf : 12 ≤ f) (hf2 : f ≤ 14) (h : k < ql) : mSw N n p q a c g s x5 x6 pl ql G f (24 * (20 * n + (a + 1)) + k) = if f = 12 then fsO (mR (mS6 N n p q a c g s x5 x6 pl G) n a) k + 1 else if f = 13 then sdO (mR (mS6 N n p q a c g s x5 x6 pl G) n a) k else 0 := by
  unfold mSw mHg
  rw [if_pos (by omega), Nat.add_sub_cancel_left]
end SW
/-- one row tells what another one tells -/
def sRo (A : Nat → Nat → Nat) (y : Nat) (B : Nat → Nat → Nat) (y0 : Nat) : Prop := (∀ f, f = 8 ∨ f = 9 → A f y = B f y0) ∧ ∀ g k, 10 ≤ g → g ≤ 15 → k < 24 → A g (24 * y + k) = B g (24 * y0 + k)
theorem sRo_R {A B : Nat → Nat → Nat} {n r p r0 : Nat} (h : sRo A (20 * n + r) B (20 * p + r0)) : ∀ f k, k < 24 → mR A n r f k = mR B p r0 f k := fun f k hk => by
  by_cases h0 : f = 0
  · subst h0; exact h.1 8 (Or.inl rfl)
  · by_cases h4 : f = 4
    · subst h4; rw [mR_4, mR_4, h.2 12 k (by decide) (by decide) hk]
    · have e : ∀ (N : Nat → Nat → Nat) (p r : Nat), mR N p r f k = N (mF f) (24 * (20 * p + r) + k) := fun N p r => by
        unfold mR
        rw [if_neg h0, if_neg h4]
      have hF : mF f = 10 ∨ mF f = 11 ∨ mF f = 15 ∨ mF f = 13 ∨ mF f = 14 := by
        unfold mF
        split
        · omega
        · split
          · omega
          · split
            · omega
            · split <;> omega
      rw [e, e]
      rcases hF with z | z | z | z | z <;> rw [z] <;> exact h.2 _ k (by decide) (by decide) hk
/-- what rPn and mP say of one row -/
def rw1 (X M : Nat → Nat → Nat) (p r : Nat) : Prop := (rRw X (mR M p r) ∧ M 9 (20 * p + r) = nB (X 0 0 = 0) ∧ (∀ k, k < X 0 0 → M 13 (24 * (20 * p + r) + k) = 0 → M 12 (24 * (20 * p + r) + k) = 0) ∧ ∀ k, k < 24 → M 11 (24 * (20 * p + r) + k) ≤ 2) ∧ M 8 (20 * p + r) ≤ 24 ∧ ∀ j, j < 24 → mK M (24 * (20 * p + r) + j)
theorem rw1_cp {D A B : Nat → Nat → Nat} {n r p r0 : Nat} (h : sRo A (20 * n + r) B (20 * p + r0)) (w : rw1 D B p r0) : rw1 (rCp 6 D) A n r := by
  obtain ⟨⟨w1, w2, w3, w4⟩, w5, w6⟩ := w
  have h24 : D 0 0 ≤ 24 := by have := w1.1; rw [mR_0] at this; omega
  refine ⟨⟨rRw_cg (rRw_cp w1 h24) (by rw [rCp_00]; exact h24) (sRo_R h), by rw [h.1 9 (Or.inr rfl), rCp_00]; exact w2, fun k hk z => ?_, fun k hk => ?_⟩, by rw [h.1 8 (Or.inl rfl)]; exact w5, fun j hj => ?_⟩
  · rw [rCp_00] at hk
    rw [h.2 13 k (by decide) (by decide) (by omega)] at z
    rw [h.2 12 k (by decide) (by decide) (by omega)]
    exact w3 k hk z
  · rw [h.2 11 k (by decide) (by decide) hk]
    exact w4 k hk
  · have := w6 j hj
    unfold mK at this ⊢
    rw [h.2 12 j (by decide) (by decide) hj, h.2 13 j (by decide) (by decide) hj, h.2 14 j (by decide) (by decide) hj, h.2 15 j (by decide) (by decide) hj]
    exact this
theorem rW_1 {M V : Nat → Nat → Nat} {P : Nat → Nat → Nat → Nat} {R : Nat → Nat → Nat → Nat → Nat} {E Y T S : Nat → Nat → Nat} (W : rW M V P R E Y T S) {p r : Nat} (hp : p < V 1 0) (hr : r < P p 5 0) : rw1 (R p r) M p r :=
  ⟨(W.2.1 p hp).1.2.2.2.2.2.2 r hr, ((W.2.1 p hp).2.2 r (by have := (W.2.1 p hp).1.1; omega)).1, ((W.2.1 p hp).2.2 r (by have := (W.2.1 p hp).1.1; omega)).2⟩
theorem sQ_f {P Q : Nat → Nat → Nat} {z f i : Nat} (h4 : f ≠ 4) (h5 : f ≠ 5) : sQ P Q z f i = sQ0 P f i := by
  have e : ∀ (D : Nat → Nat → Nat) (y m : Nat), shP D y m f i = D f i := fun D y m => by
    induction m with
    | zero => rfl
    | succ m ih => exact (pAp_f h4 h5).trans ih
  unfold sQ
  rw [e, e]
theorem sQ0_v (P : Nat → Nat → Nat) : sQ0 P 0 0 = P 0 0 ∧ sQ0 P 1 0 = P 1 0 ∧ sQ0 P 2 0 = P 2 0 ∧ sQ0 P 3 0 = P 3 0 ∧ ∀ k, sQ0 P 6 k = 0 := by
  unfold sQ0
  refine ⟨?_, ?_, ?_, ?_, fun k => ?_⟩
  · rw [u2_ne (by omega), u2_ne (by omega)]; rfl
  · rw [u2_ne (by omega), u2_ne (by omega)]; rfl
  · rw [u2_ne (by omega), u2_eq]
  · rw [u2_eq]
  · rw [u2_ne (by omega), u2_ne (by omega)]; rfl
/-- the rows of the sewn panel -/
theorem sR_v (Rp Rq : Nat → Nat → Nat → Nat) (a c : Nat) : (∀ r, r < a → sR Rp Rq (a + 1) c r = rCp 6 (Rp r)) ∧ sR Rp Rq (a + 1) c a = rJn (Rq 0 0 0) (rCp 6 (Rp a)) ∧ sR Rp Rq (a + 1) c (a + 1) = rHG (rJn (Rq 0 0 0) (rCp 6 (Rp a))) (Rq 0 0 0) (rCp 6 (Rq 0)) ∧ ∀ r, 1 ≤ r → r < c → sR Rp Rq (a + 1) c (a + 1 + r) = rCp 6 (Rq r) := by
  unfold sR
  rw [Nat.add_sub_cancel]
  refine ⟨fun r hr => ?_, ?_, uR_eq _ _ _, fun r h1 hr => ?_⟩
  · rw [uR_ne (by omega), uR_ne (by omega), sR0_p (by omega)]
  · rw [uR_ne (by omega), uR_eq]
  · rw [uR_ne (by omega), uR_ne (by omega), sR0_q hr]
