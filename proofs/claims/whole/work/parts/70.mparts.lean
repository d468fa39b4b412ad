/-! the model: exact parts -/
def mLd (p : Nat → Nat) (R : Nat → Nat → Nat → Nat) : Nat → Nat → Nat
  | 0, k => p k
  | r + 1, j => fb_sm (fun q => nb (iwh (R (r + 1)) j q) * (mLd p R r q * (6 / wsd R r q))) 24
theorem iwh_h {D : Nat → Nat → Nat} {k q : Nat} (h : iwh D k q = true) : hgb D k q = true := by
  unfold iwh at h
  rw [Bool.and_eq_true] at h
  exact h.1
theorem wsd_le3 {R : Nat → Nat → Nat → Nat} {r q : Nat} (h : fb_sm (fun j => nb (hgb (R (r + 1)) j q)) (R (r + 1) 0 0) ≤ 3) : wsd R r q ≤ 3 := by
  have : wsd R r q ≤ fb_sm (fun j => nb (hgb (R (r + 1)) j q)) (R (r + 1) 0 0) := fb_sm_le (fun j _ => by
    rcases e : iwh (R (r + 1)) j q with _ | _
    · exact Nat.zero_le _
    · rw [iwh_h e]
      exact Nat.le_refl _)
  omega
theorem wsd_pos {R : Nat → Nat → Nat → Nat} {r q j : Nat} (hj : j < R (r + 1) 0 0) (h : iwh (R (r + 1)) j q = true) : 1 ≤ wsd R r q := by
  have := fb_sm_part (fun q2 => nb (iwh (R (r + 1)) q2 q)) hj
  rw [show nb (iwh (R (r + 1)) j q) = 1 from nb_T h] at this
  show 1 ≤ fb_sm _ _
  omega
theorem six_w {a b w : Nat} (h1 : 1 ≤ w) (h3 : w ≤ 3) : a * (b * 6) / w = a * (6 / w) * b := by
  rcases (show w = 1 ∨ w = 2 ∨ w = 3 by omega) with rfl | rfl | rfl
  · rw [Nat.div_one, Nat.div_one, Nat.mul_comm b 6, Nat.mul_assoc]
  · rw [show 6 / 2 = 3 from rfl, show a * (b * 6) = 2 * (a * 3 * b) by rw [Nat.mul_comm b 6, ← Nat.mul_assoc, show a * 6 = 2 * (a * 3) by omega, Nat.mul_assoc], Nat.mul_div_cancel_left _ (by decide)]
  · rw [show 6 / 3 = 2 from rfl, show a * (b * 6) = 3 * (a * 2 * b) by rw [Nat.mul_comm b 6, ← Nat.mul_assoc, show a * 6 = 3 * (a * 2) by omega, Nat.mul_assoc], Nat.mul_div_cancel_left _ (by decide)]
theorem uLd_mm {n : Nat} {p : Nat → Nat} {R : Nat → Nat → Nat → Nat} (hn : n ≤ 20) (G : gOK n R) (h3 : ∀ r, r + 1 < n → ∀ q, fb_sm (fun j => nb (hgb (R (r + 1)) j q)) (R (r + 1) 0 0) ≤ 3) : ∀ r, r < n → ∀ j, j < R r 0 0 → uLd p R r j = mLd p R r j * 6 ^ (19 - r) := by
  intro r
  induction r with
  | zero =>
    intro _ j _
    show p j * 609359740010496 = p j * 6 ^ 19
    rfl
  | succ r ih =>
    intro hr j hj
    show fb_sm (fun q => nb (iwh (R (r + 1)) j q) * (uLd p R r q / wsd R r q)) 24 = fb_sm (fun q => nb (iwh (R (r + 1)) j q) * (mLd p R r q * (6 / wsd R r q))) 24 * 6 ^ (19 - (r + 1))
    rw [Nat.mul_comm, fb_sm_mul]
    refine fb_sm_cong (fun q hq => ?_)
    rcases e : iwh (R (r + 1)) j q with _ | _
    · show 0 * _ = _ * (0 * _)
      rw [Nat.zero_mul, Nat.zero_mul, Nat.mul_zero]
    · have hq2 := gOK_wh G hr hj e
      rw [ih (by omega) q hq2]
      show 1 * _ = _ * (1 * _)
      rw [Nat.one_mul, Nat.one_mul, show 19 - r = (19 - (r + 1)) + 1 by omega, Nat.pow_succ, six_w (wsd_pos hj e) (wsd_le3 (h3 r hr q)), Nat.mul_comm]
theorem gcd_red {u a r : Nat} (hr : r ≤ 19) (hu : u = a * 6 ^ (19 - r)) : u / Nat.gcd u 609359740010496 = a / Nat.gcd a (6 ^ r) ∧ 609359740010496 / Nat.gcd u 609359740010496 = 6 ^ r / Nat.gcd a (6 ^ r) := by
  have e6 : 609359740010496 = 6 ^ r * 6 ^ (19 - r) := by
    rw [← Nat.pow_add, show r + (19 - r) = 19 by omega]
  have hp : 0 < 6 ^ (19 - r) := Nat.pow_pos (by decide)
  have eg : Nat.gcd u 609359740010496 = Nat.gcd a (6 ^ r) * 6 ^ (19 - r) := by
    rw [e6, hu, Nat.gcd_mul_right]
  rw [eg]
  constructor
  · rw [hu, Nat.mul_div_mul_right _ _ hp]
  · rw [e6, Nat.mul_div_mul_right _ _ hp]
theorem lp_low0 {h : nPH} {u t : Nat} (hu : u < 2 ^ 63) (ht0 : 0 < t) (ht : t < 2 ^ 63) : ∀ x y : Nat, x < 2 ^ 63 → y < 2 ^ 63 → Nat.gcd x y = Nat.gcd u t → nG YX8_lowest (nKy YX8_lowest h.1 h.2.1 (fun v h2 => v = some (.long (lN (u / Nat.gcd u t))) ∧ h2 = h)) 0 0 6 [some (.long (lN (u))), none, some (.long (lN (t))), none, some (.int (nI (0))), some (.long (lN (x))), none, some (.long (lN (y))), none, none, none] [] h := by
  intro x
  induction x using Nat.strongRecOn with
  | ind x ih =>
    intro y hx hy hg
    rcases Nat.eq_zero_or_pos x with hz | hz
    · have hgy : y = Nat.gcd u t := by rw [← hg, hz, Nat.gcd_zero_left]
      have hgp : 0 < Nat.gcd u t := Nat.gcd_pos_of_pos_right u ht0
      refine x_lload rfl d_X8_lowest_6 ?_
      refine x_lconst (v := lN 0) (by decide) d_X8_lowest_8 ?_
      refine x_lcmp d_X8_lowest_9 ?_
      refine x_lif_eqN (tgt := 31) d_X8_lowest_10 (by decide) (by omega) (by omega) (fun c_1 => ?_) (fun c_1 => by exfalso; omega)
      refine x_iload rfl d_X8_lowest_31 ?_
      refine x_if_neN (tgt := 43) d_X8_lowest_33 (by decide) (by omega) (fun c_2 => by exfalso; omega) (fun c_2 => ?_)
      refine x_lload_n rfl d_X8_lowest_36 ?_
      refine x_lload rfl d_X8_lowest_37 ?_
      refine x_ldivN d_X8_lowest_39 (by omega) (by omega) (by omega) ?_
      refine x_goto (tgt := 47) d_X8_lowest_40 (by decide) ?_
      exact x_lreturn d_X8_lowest_47 rfl rfl rfl (Nat.zero_le _) (Nat.zero_le _) (⟨by rw [← hgy], rfl⟩)
    · have hm := Nat.mod_lt y hz
      refine x_lload rfl d_X8_lowest_6 ?_
      refine x_lconst (v := lN 0) (by decide) d_X8_lowest_8 ?_
      refine x_lcmp d_X8_lowest_9 ?_
      refine x_lif_eqN (tgt := 31) d_X8_lowest_10 (by decide) (by omega) (by omega) (fun c_1 => by exfalso; omega) (fun c_1 => ?_)
      refine x_lload rfl d_X8_lowest_13 ?_
      refine x_lload rfl d_X8_lowest_15 ?_
      refine x_lremN d_X8_lowest_17 (by omega) (by omega) (by omega) ?_
      refine x_lstore d_X8_lowest_18 (Nat.le_of_ble_eq_true rfl) ?_
      refine x_lload rfl d_X8_lowest_20 ?_
      refine x_lstore d_X8_lowest_22 (Nat.le_of_ble_eq_true rfl) ?_
      refine x_lload rfl d_X8_lowest_24 ?_
      refine x_lstore d_X8_lowest_26 (Nat.le_of_ble_eq_true rfl) ?_
      refine x_goto (tgt := 6) d_X8_lowest_28 (by decide) ?_
      refine nG.eq (ls2 := [some (.long (lN (u))), none, some (.long (lN (t))), none, some (.int (nI (0))), some (.long (lN (y % x))), none, some (.long (lN (x))), none, some (.long (lN (y % x))), none]) rfl rfl rfl rfl rfl ?_
      exact nG.sub (by exact (And.intro rfl (And.intro rfl (And.intro rfl (And.intro rfl (And.intro rfl True.intro)))))) (ih (y % x) hm x (by omega) hx (by rw [← hg, ← Nat.gcd_rec]))
theorem sp_low0 {h : nPH} {u t : Nat} (hu : u < 2 ^ 63) (ht0 : 0 < t) (ht : t < 2 ^ 63) : nRd YX8_lowest [.long (lN (u)), .long (lN (t)), .int (nI (0))] h (.long (lN (u / Nat.gcd u t))) := by
  refine nSp_of (by decide +kernel) rfl (Nat.le_of_ble_eq_true rfl) (ls := [some (.long (lN (u))), none, some (.long (lN (t))), none, some (.int (nI (0))), none, none, none, none, none, none]) (by exact (And.intro rfl (And.intro rfl (And.intro rfl True.intro)))) ?_
  refine x_lload_n rfl d_X8_lowest_0 ?_
  refine x_lstore d_X8_lowest_1 (Nat.le_of_ble_eq_true rfl) ?_
  refine x_lload_n rfl d_X8_lowest_3 ?_
  refine x_lstore d_X8_lowest_4 (Nat.le_of_ble_eq_true rfl) ?_
  exact nG.sub (by exact (And.intro rfl (And.intro rfl (And.intro rfl (And.intro rfl (And.intro rfl True.intro)))))) (lp_low0 hu ht0 ht u t hu ht rfl)
theorem lp_low1 {h : nPH} {u t : Nat} (hu : u < 2 ^ 63) (ht0 : 0 < t) (ht : t < 2 ^ 63) : ∀ x y : Nat, x < 2 ^ 63 → y < 2 ^ 63 → Nat.gcd x y = Nat.gcd u t → nG YX8_lowest (nKy YX8_lowest h.1 h.2.1 (fun v h2 => v = some (.long (lN (t / Nat.gcd u t))) ∧ h2 = h)) 0 0 6 [some (.long (lN (u))), none, some (.long (lN (t))), none, some (.int (nI (1))), some (.long (lN (x))), none, some (.long (lN (y))), none, none, none] [] h := by
  intro x
  induction x using Nat.strongRecOn with
  | ind x ih =>
    intro y hx hy hg
    rcases Nat.eq_zero_or_pos x with hz | hz
    · have hgy : y = Nat.gcd u t := by rw [← hg, hz, Nat.gcd_zero_left]
      have hgp : 0 < Nat.gcd u t := Nat.gcd_pos_of_pos_right u ht0
      refine x_lload rfl d_X8_lowest_6 ?_
      refine x_lconst (v := lN 0) (by decide) d_X8_lowest_8 ?_
      refine x_lcmp d_X8_lowest_9 ?_
      refine x_lif_eqN (tgt := 31) d_X8_lowest_10 (by decide) (by omega) (by omega) (fun c_1 => ?_) (fun c_1 => by exfalso; omega)
      refine x_iload rfl d_X8_lowest_31 ?_
      refine x_if_neN (tgt := 43) d_X8_lowest_33 (by decide) (by omega) (fun c_2 => ?_) (fun c_2 => by exfalso; omega)
      refine x_lload_n rfl d_X8_lowest_43 ?_
      refine x_lload rfl d_X8_lowest_44 ?_
      refine x_ldivN d_X8_lowest_46 (by omega) (by omega) (by omega) ?_
      exact x_lreturn d_X8_lowest_47 rfl rfl rfl (Nat.zero_le _) (Nat.zero_le _) (⟨by rw [← hgy], rfl⟩)
    · have hm := Nat.mod_lt y hz
      refine x_lload rfl d_X8_lowest_6 ?_
      refine x_lconst (v := lN 0) (by decide) d_X8_lowest_8 ?_
      refine x_lcmp d_X8_lowest_9 ?_
      refine x_lif_eqN (tgt := 31) d_X8_lowest_10 (by decide) (by omega) (by omega) (fun c_1 => by exfalso; omega) (fun c_1 => ?_)
      refine x_lload rfl d_X8_lowest_13 ?_
      refine x_lload rfl d_X8_lowest_15 ?_
      refine x_lremN d_X8_lowest_17 (by omega) (by omega) (by omega) ?_
      refine x_lstore d_X8_lowest_18 (Nat.le_of_ble_eq_true rfl) ?_
      refine x_lload rfl d_X8_lowest_20 ?_
      refine x_lstore d_X8_lowest_22 (Nat.le_of_ble_eq_true rfl) ?_
      refine x_lload rfl d_X8_lowest_24 ?_
      refine x_lstore d_X8_lowest_26 (Nat.le_of_ble_eq_true rfl) ?_
      refine x_goto (tgt := 6) d_X8_lowest_28 (by decide) ?_
      refine nG.eq (ls2 := [some (.long (lN (u))), none, some (.long (lN (t))), none, some (.int (nI (1))), some (.long (lN (y % x))), none, some (.long (lN (x))), none, some (.long (lN (y % x))), none]) rfl rfl rfl rfl rfl ?_
      exact nG.sub (by exact (And.intro rfl (And.intro rfl (And.intro rfl (And.intro rfl (And.intro rfl True.intro)))))) (ih (y % x) hm x (by omega) hx (by rw [← hg, ← Nat.gcd_rec]))
theorem sp_low1 {h : nPH} {u t : Nat} (hu : u < 2 ^ 63) (ht0 : 0 < t) (ht : t < 2 ^ 63) : nRd YX8_lowest [.long (lN (u)), .long (lN (t)), .int (nI (1))] h (.long (lN (t / Nat.gcd u t))) := by
  refine nSp_of (by decide +kernel) rfl (Nat.le_of_ble_eq_true rfl) (ls := [some (.long (lN (u))), none, some (.long (lN (t))), none, some (.int (nI (1))), none, none, none, none, none, none]) (by exact (And.intro rfl (And.intro rfl (And.intro rfl True.intro)))) ?_
  refine x_lload_n rfl d_X8_lowest_0 ?_
  refine x_lstore d_X8_lowest_1 (Nat.le_of_ble_eq_true rfl) ?_
  refine x_lload_n rfl d_X8_lowest_3 ?_
  refine x_lstore d_X8_lowest_4 (Nat.le_of_ble_eq_true rfl) ?_
  exact nG.sub (by exact (And.intro rfl (And.intro rfl (And.intro rfl (And.intro rfl (And.intro rfl True.intro)))))) (lp_low1 hu ht0 ht u t hu ht rfl)
