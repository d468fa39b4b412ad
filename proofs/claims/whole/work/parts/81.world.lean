/-! class and model, side by side: what holds between two calls -/
def kE (E Y T S : Nat → Nat → Nat) : Prop := (E 0 0 ≤ 1 ∧ E 1 0 ≤ 480 ∧ E 3 0 ≤ 480 ∧ ∀ j, j < E 1 0 → E 5 j ≤ 1) ∧ Y 0 0 ≤ 1200 ∧ (T 1 0 ≠ 0 → 1 ≤ T 0 0 ∧ T 1 0 ≤ T 0 0 ∧ T 0 0 ≤ 400 ∧ T 2 0 ≤ 1000) ∧ S 0 0 ≤ 24
def wB (h : nPH) (a b : Nat) : Prop := ∃ (M V : Nat → Nat → Nat) (P : Nat → Nat → Nat → Nat) (R : Nat → Nat → Nat → Nat → Nat) (E Y T S : Nat → Nat → Nat), cW h a b V P R E Y T S ∧ o8 h b M ∧ rW M V P R E Y T S ∧ kO V P R ∧ kE E Y T S
/-- both calls, with the answer v -/
def bV (yc ym : nM) (a b : Nat) (As : List Value) (h : nPH) (v : Value) : Prop := nWv yc (.ref a :: As) h (some v) (fun h2 => (∃ M, o8 h2 b M) ∧ nWv ym (.ref b :: As) h2 (some v) (fun h3 => wB h3 a b))
def bI (yc ym : nM) (a b : Nat) (As : List Value) (h : nPH) : Prop := ∃ v : Int32, bV yc ym a b As h (.int v)
def bL (yc ym : nM) (a b : Nat) (As : List Value) (h : nPH) : Prop := ∃ v : Int64, bV yc ym a b As h (.long v)
theorem bV_rd {yc ym : nM} {a b : Nat} {As : List Value} {h : nPH} {v : Value} (G : wB h a b) (h1 : nRd yc (.ref a :: As) h v) (h2 : nRd ym (.ref b :: As) h v) : bV yc ym a b As h v := nSp.mono h1 (fun u h3 e => by
  obtain ⟨e1, e2⟩ := e
  subst e2
  refine ⟨e1, ?_, nSp.mono h2 (fun u2 h4 f => ⟨f.1, by rw [f.2]; exact G⟩)⟩
  obtain ⟨M, V, P, R, E, Y, T, S, C, H, W⟩ := G
  exact ⟨M, H⟩)
theorem bV_wv {yc ym : nM} {a b : Nat} {As : List Value} {h : nPH} {v : Value} {M : Nat → Nat → Nat} {Q : nPH → Prop} (H : o8 h b M) (h1 : nWv yc (.ref a :: As) h (some v) Q) (hm : ∀ h2, Q h2 → ∃ (V2 : Nat → Nat → Nat) (P2 : Nat → Nat → Nat → Nat) (R2 : Nat → Nat → Nat → Nat → Nat) (E2 Y2 T2 S2 : Nat → Nat → Nat), kB b h h2 ∧ cW h2 a b V2 P2 R2 E2 Y2 T2 S2 ∧ kO V2 P2 R2 ∧ kE E2 Y2 T2 S2 ∧ (o8 h2 b M → nWv ym (.ref b :: As) h2 (some v) (fun h3 => nFr (nIv b 24) h2 h3 ∧ ∃ M2, o8 h3 b M2 ∧ rW M2 V2 P2 R2 E2 Y2 T2 S2))) : bV yc ym a b As h v := nSp.mono h1 (fun u h3 e => by
  obtain ⟨e1, e2⟩ := e
  obtain ⟨V2, P2, R2, E2, Y2, T2, S2, k1, k2, k3, k4, k5⟩ := hm h3 e2
  have H3 := o8_kept H k1.2.1 k1.2.2
  refine ⟨e1, ⟨M, H3⟩, nSp.mono (k5 H3) (fun u2 h4 f => ?_)⟩
  obtain ⟨f1, f2, M2, f3, f4⟩ := f
  exact ⟨f1, M2, V2, P2, R2, E2, Y2, T2, S2, cW_m k2 f2, f3, f4, k3, k4⟩)
theorem bV_ch {yc ym : nM} {a b : Nat} {As : List Value} {h : nPH} {v : Value} {M V2 : Nat → Nat → Nat} {P2 : Nat → Nat → Nat → Nat} {R2 : Nat → Nat → Nat → Nat → Nat} {E2 Y2 T2 S2 : Nat → Nat → Nat} (H : o8 h b M) (h1 : nWv yc (.ref a :: As) h (some v) (fun h2 => kB b h h2 ∧ cW h2 a b V2 P2 R2 E2 Y2 T2 S2)) (O : kO V2 P2 R2) (K : kE E2 Y2 T2 S2) (hm : ∀ h2, o8 h2 b M → nWv ym (.ref b :: As) h2 (some v) (fun h3 => nFr (nIv b 24) h2 h3 ∧ ∃ M2, o8 h3 b M2 ∧ rW M2 V2 P2 R2 E2 Y2 T2 S2)) : bV yc ym a b As h v :=
  bV_wv H h1 (fun h2 q => ⟨V2, P2, R2, E2, Y2, T2, S2, q.1, q.2, O, K, hm h2⟩)
theorem nI_nn {c : Int32} (h : 0 ≤ c.toInt) : ∃ j : Nat, j < 2 ^ 31 ∧ c = nI j := by
  have := Int32.toInt_lt c
  refine ⟨c.toInt.toNat, by omega, Int32.toInt_inj.mp ?_⟩
  rw [nI_toInt (by omega)]
  omega
theorem nI_rg {c : Int32} {lo hi : Nat} (hl : lo < 2 ^ 31) (hh : hi < 2 ^ 31) (h : nI lo ≤ c ∧ c ≤ nI hi) : ∃ n : Nat, c = nI n ∧ lo ≤ n ∧ n ≤ hi := by
  obtain ⟨h1, h2⟩ := h
  rw [Int32.le_iff_toInt_le, nI_toInt hl] at h1
  rw [Int32.le_iff_toInt_le, nI_toInt hh] at h2
  obtain ⟨j, j1, rfl⟩ := nI_nn (c := c) (by omega)
  rw [nI_toInt j1] at h1 h2
  exact ⟨j, rfl, by omega, by omega⟩
theorem nI_sm (c : Int32) {n : Nat} (hn : n < 2 ^ 30) : (c.toInt < 0 ∨ (n : Int) < c.toInt) ∨ ∃ j : Nat, j ≤ n ∧ c = nI j := by
  by_cases h1 : c.toInt < 0
  · exact Or.inl (Or.inl h1)
  · by_cases h2 : (n : Int) < c.toInt
    · exact Or.inl (Or.inr h2)
    · obtain ⟨j, j1, rfl⟩ := nI_nn (c := c) (by omega)
      rw [nI_toInt j1] at h2
      exact Or.inr ⟨j, by omega, rfl⟩
theorem rOff_or (n : Nat) (R : Nat → Nat → Nat → Nat) (r k : Int32) : rOff n R r k ∨ ∃ r2 k2 : Nat, r = nI r2 ∧ r2 < n ∧ k = nI k2 ∧ k2 < R r2 0 0 := by
  rcases Classical.em (∃ r2 k2 : Nat, r = nI r2 ∧ r2 < n ∧ k = nI k2 ∧ k2 < R r2 0 0) with h | h
  · exact Or.inr h
  · exact Or.inl (fun r2 k2 a1 a2 a3 a4 => h ⟨r2, k2, a1, a2, a3, a4⟩)
theorem fst_ex {Q : Nat → Prop} : ∀ {n : Nat}, (¬ ∀ i, i < n → Q i) → ∃ i0, i0 < n ∧ (∀ i, i < i0 → Q i) ∧ ¬ Q i0 := by
  intro n
  induction n with
  | zero => intro h; exact absurd (fun i hi => absurd hi (Nat.not_lt_zero i)) h
  | succ n ih =>
    intro h
    rcases Classical.em (∀ i, i < n → Q i) with e | e
    · refine ⟨n, Nat.lt_succ_self n, e, fun z => h (fun i hi => ?_)⟩
      rcases Nat.lt_succ_iff_lt_or_eq.mp hi with y | y
      · exact e i y
      · rw [y]; exact z
    · obtain ⟨i0, a1, a2, a3⟩ := ih e
      exact ⟨i0, by omega, a2, a3⟩
/-! what a change keeps -/
theorem kP_cg {Q : Nat → Nat → Nat} {R R2 : Nat → Nat → Nat → Nat} (K : kP Q R) (h : ∀ r f k, f = 0 ∨ f = 4 ∨ f = 5 → R2 r f k = R r f k) (hok : ∀ r, r < Q 5 0 → rOK (R2 r)) : kP Q R2 := by
  obtain ⟨a1, a2, a3, a4, a5, a6, a7⟩ := K
  have e4 : ∀ r k, R2 r 4 k = R r 4 k := fun r k => h r 4 k (by decide)
  have e5 : ∀ r k, R2 r 5 k = R r 5 k := fun r k => h r 5 k (by decide)
  have e0 : ∀ r, R2 r 0 0 = R r 0 0 := fun r => h r 0 0 (by decide)
  have eh : ∀ r k q, hgb (R2 r) k q = hgb (R r) k q := fun r k q => by unfold hgb; rw [e4, e5]
  refine ⟨a1, a2, hok, ⟨fun k hk => ?_, fun r hr k hk => ?_⟩, a5, a6, fun r hr => ⟨fun q => ?_, ?_⟩⟩
  · rw [e5]; rw [e0] at hk; exact a4.1 k hk
  · rw [e5, e4, e0]; rw [e0] at hk; exact a4.2 r hr k hk
  · rw [e0, show (fun j => nb (hgb (R2 (r + 1)) j q)) = fun j => nb (hgb (R (r + 1)) j q) from funext fun j => by rw [eh]]
    exact (a7 r hr).1 q
  · rw [e0, show (fun j => R2 (r + 1) 5 j) = fun j => R (r + 1) 5 j from funext (e5 (r + 1))]
    exact (a7 r hr).2
theorem rOK_u {D : Nat → Nat → Nat} (h : rOK D) {f k v : Nat} (hf : (f = 1 ∧ v ≤ 3) ∨ (f = 2 ∧ v ≤ 2) ∨ (f = 3 ∧ v ≤ 1) ∨ (f = 6 ∧ v < 2 ^ D 5 k)) : rOK (u2 D f k v) := by
  refine ⟨by rw [u2_ne (by omega)]; exact h.1, fun i hi => ?_⟩
  obtain ⟨h1, h2, h3, h4, h5, h6⟩ := h.2 i hi
  rw [u2_ne (show ¬ (4 = f ∧ i = k) by omega), u2_ne (show ¬ (5 = f ∧ i = k) by omega)]
  refine ⟨?_, ?_, ?_, h4, h5, ?_⟩
  · by_cases e : 1 = f ∧ i = k
    · obtain ⟨rfl, rfl⟩ := e
      rw [u2_eq]; omega
    · rw [u2_ne e]; exact h1
  · by_cases e : 2 = f ∧ i = k
    · obtain ⟨rfl, rfl⟩ := e
      rw [u2_eq]; omega
    · rw [u2_ne e]; exact h2
  · by_cases e : 3 = f ∧ i = k
    · obtain ⟨rfl, rfl⟩ := e
      rw [u2_eq]; omega
    · rw [u2_ne e]; exact h3
  · by_cases e : 6 = f ∧ i = k
    · obtain ⟨rfl, rfl⟩ := e
      rw [u2_eq]
      rcases hf with z | z | z | z
      · omega
      · omega
      · omega
      · exact z.2
    · rw [u2_ne e]; exact h6
theorem gvo_2 (z : Nat) : gvo z ≤ 2 := by
  unfold gvo
  split
  · omega
  · split <;> omega
section KO
variable {V : Nat → Nat → Nat} {P : Nat → Nat → Nat → Nat} {R : Nat → Nat → Nat → Nat → Nat} {p r k : Nat}
theorem kO_r1 (O : kO V P R) {X : Nat → Nat → Nat} (hX : p < V 1 0 → r < P p 5 0 → rOK X) (h : ∀ f i, f = 0 ∨ f = 4 ∨ f = 5 → X f i = R p r f i) : kO V P (uP R p (uR (R p) r X)) :=
  kO_row O (fun hp => kP_row (O.2.2.2 p hp) (hX hp) (h 0 0 (by decide)) (fun i => h 4 i (by decide)) (fun i => h 5 i (by decide)))
theorem kO_kind (O : kO V P R) {z : Nat} (hz : z ≤ 2) : kO V P (uP R p (uR (R p) r (u2 (u2 (R p r) 1 k z) 2 k (gvo z)))) :=
  kO_r1 O (fun hp hr => rOK_u (rOK_u ((O.2.2.2 p hp).2.2.1 r hr) (Or.inl ⟨rfl, by omega⟩)) (Or.inr (Or.inl ⟨rfl, gvo_2 z⟩))) (fun f i hf => by rw [u2_ne (by omega), u2_ne (by omega)])
theorem kO_side (O : kO V P R) {o s : Nat} (hk : k < 24) (hs : s < R p r 5 k) : kO V P (uP R p (uR (R p) r (u2 (R p r) 6 k (ssd o (R p r 6 k) s)))) :=
  kO_r1 O (fun hp hr => rOK_u ((O.2.2.2 p hp).2.2.1 r hr) (Or.inr (Or.inr (Or.inr ⟨rfl, by
    have h6 := (((O.2.2.2 p hp).2.2.1 r hr).2 k hk).2.2.2.2.2
    unfold ssd
    split
    · exact sset_lt h6 hs
    · exact sclr_lt h6⟩)))) (fun f i hf => by rw [u2_ne (by omega)])
theorem kO_needle (O : kO V P R) {v : Nat} (hv : v ≤ 1) : kO V P (uP R p (uR (R p) r (u2 (R p r) 3 k v))) :=
  kO_r1 O (fun hp hr => rOK_u ((O.2.2.2 p hp).2.2.1 r hr) (Or.inr (Or.inr (Or.inl ⟨rfl, hv⟩)))) (fun f i hf => by rw [u2_ne (by omega)])
theorem kO_cut (O : kO V P R) (hk : k < 24) : kO V P (uP R p (rCu (P p) (R p) r k)) :=
  kO_row O (fun hp => kP_cg (O.2.2.2 p hp) (fun s f i hf => by
    unfold rCu
    split
    · rename_i e
      rw [e]
      unfold rCo
      rw [u2_ne (by omega)]
    · split
      · rename_i e
        rw [e.1]
        exact rCb_f (by omega)
      · rfl) (fun s hs => by
    have h0 := (O.2.2.2 p hp).2.2.1
    unfold rCu
    split
    · rename_i e
      rw [e] at hs
      unfold rCo
      have h5 := ((h0 r hs).2 k hk).2.2.2.2.1
      exact rOK_u (h0 r hs) (Or.inr (Or.inr (Or.inr ⟨rfl, by have := Nat.two_pow_pos (R p r 5 k); omega⟩)))
    · split
      · rename_i e
        exact rOK_Cb (h0 (r + 1) e.2) k _
      · exact h0 s hs))
theorem kO_pull (O : kO V P R) (hp : p < V 1 0) {v : Nat} (hv : v ≤ 100) : kO V (uP P p (u2 (P p) 6 k v)) (uP R p (R p)) := by
  refine kO_pan O ?_
  obtain ⟨a1, a2, a3, a4, a5, a6, a7⟩ := O.2.2.2 p hp
  have e : ∀ i, u2 (P p) 6 k v 5 i = P p 5 i := fun i => u2_ne (by omega)
  unfold kP
  rw [e, u2_ne (show ¬ (0 = 6 ∧ 0 = k) by omega), u2_ne (show ¬ (1 = 6 ∧ 0 = k) by omega), u2_ne (show ¬ (2 = 6 ∧ 0 = k) by omega), u2_ne (show ¬ (3 = 6 ∧ 0 = k) by omega)]
  refine ⟨a1, a2, a3, a4, fun i hi => ?_, a6, a7⟩
  by_cases z : i = k
  · rw [z, u2_eq]; exact hv
  · rw [u2_ne (by omega)]; exact a5 i hi
theorem kO_hang (O : kO V P R) (hp : p < V 1 0) {x y : Nat} (h1 : 1 ≤ x) (h2 : x ≤ y) (h3 : y ≤ 1000) : kO V (uP P p (u2 (u2 (P p) 2 0 x) 3 0 y)) (uP R p (R p)) := by
  refine kO_pan O ?_
  obtain ⟨a1, a2, a3, a4, a5, a6, a7⟩ := O.2.2.2 p hp
  have e : ∀ f i, f ≠ 2 → f ≠ 3 → u2 (u2 (P p) 2 0 x) 3 0 y f i = P p f i := fun f i g1 g2 => by rw [u2_ne (by omega), u2_ne (by omega)]
  have e6 : u2 (u2 (P p) 2 0 x) 3 0 y 6 = P p 6 := funext fun i => e 6 i (by decide) (by decide)
  unfold kP
  rw [e 5 0 (by decide) (by decide), e 0 0 (by decide) (by decide), e 1 0 (by decide) (by decide), u2_eq, e6, show u2 (u2 (P p) 2 0 x) 3 0 y 2 0 = x by rw [u2_ne (by omega), u2_eq]]
  exact ⟨a1, a2, a3, a4, a5, ⟨a6.1, a6.2.1, h1, h2, h3⟩, a7⟩
theorem kO_parts (O : kO V P R) {m : Nat} (hm : m ≤ 102) : kO (pZe V m) P R := by
  refine ⟨O.1, ?_, fun i hi => ?_, O.2.2.2⟩
  · show m ≤ 102
    exact hm
  · show (if (2 : Nat) = 3 ∧ i = 0 then m else if (2 : Nat) = 2 ∧ i < 101 then 0 else V 2 i) ≤ 100
    rw [if_neg (by omega), if_pos ⟨rfl, hi⟩]
    omega
theorem kO_part (O : kO V P R) {j u : Nat} (hu : u ≤ 100) : kO (u2 V 2 j u) P R := by
  refine ⟨?_, ?_, fun i hi => ?_, ?_⟩
  · rw [u2_ne (by omega)]; exact O.1
  · rw [u2_ne (by omega)]; exact O.2.1
  · by_cases e : i = j
    · rw [e, u2_eq]; exact hu
    · rw [u2_ne (by omega)]; exact O.2.2.1 i hi
  · rw [u2_ne (by omega)]; exact O.2.2.2
end KO
/-- where the one twine begins -/
theorem hBg_ex {P : Nat → Nat → Nat} {R : Nat → Nat → Nat → Nat} {T : Nat → Bool} (h : ¬ fb_ct T 480 = 0) : ∃ x, hBg P R T x := by
  by_cases e : ∃ x, x < 480 ∧ (T x && decide (gsx P R x % 2 = 1)) = true
  · obtain ⟨x, x1, x2, x3⟩ := lst_ex (p := fun x => T x && decide (gsx P R x % 2 = 1)) e
    simp only [Bool.and_eq_true, decide_eq_true_eq] at x2
    refine ⟨x, x1, x2.1, Or.inl ⟨x2.2, fun y hy ht => ?_⟩⟩
    have := x3 y hy
    rw [ht, Bool.true_and] at this
    exact of_decide_eq_false this
  · obtain ⟨x, x1, x2⟩ := fb_ct_pos.mp (Nat.pos_of_ne_zero h)
    obtain ⟨x, x1, x2, x3⟩ := lst_ex (p := T) ⟨x, x1, x2⟩
    refine ⟨x, x1, x2, Or.inr ⟨fun y hy ht z => e ⟨y, hy, ?_⟩, x3⟩⟩
    rw [ht, decide_eq_true z]
    rfl
