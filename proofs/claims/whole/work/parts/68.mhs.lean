/-! every gone side is counted at both its ends -/
theorem fb_sm_swap (f : Nat → Nat → Nat) (n : Nat) : ∀ m, fb_sm (fun x => fb_sm (fun y => f x y) n) m = fb_sm (fun y => fb_sm (fun x => f x y) m) n := by
  intro m
  induction m with
  | zero =>
    show 0 = fb_sm (fun _ => 0) n
    rw [fb_sm_const, Nat.mul_zero]
  | succ m ih =>
    rw [fb_sm_succ, ih]
    exact (fb_sm_add _ _ n).symm
theorem fb_sm_grid (f : Nat → Nat) : ∀ m, fb_sm f (24 * m) = fb_sm (fun r => fb_sm (fun k => f (24 * r + k)) 24) m := by
  intro m
  induction m with
  | zero => rfl
  | succ m ih =>
    rw [show 24 * (m + 1) = 24 * m + 24 by omega, fb_sm_split, ih]
    rfl
theorem fb_sm_mul (c : Nat) (f : Nat → Nat) : ∀ n, c * fb_sm f n = fb_sm (fun k => c * f k) n := by
  intro n
  induction n with
  | zero => rfl
  | succ n ih => rw [fb_sm_succ, Nat.mul_add, ih]; rfl
theorem fb_sm_z (n : Nat) : fb_sm (fun _ => 0) n = 0 := by rw [fb_sm_const, Nat.mul_zero]
theorem fb_sm_shift (f : Nat → Nat) : ∀ n, fb_sm f (n + 1) = f 0 + fb_sm (fun k => f (k + 1)) n := fun n => by
  rw [show n + 1 = 1 + n by omega, fb_sm_split]
  show 0 + f 0 + fb_sm (fun k => f (1 + k)) n = _
  rw [Nat.zero_add]
  congr 1
  exact fb_sm_cong (fun k _ => by rw [Nat.add_comm])
theorem bit_hi {g t c : Nat} (h : g < 2 ^ t) (hc : t ≤ c) : g.testBit c = false := Nat.testBit_lt_two_pow (Nat.lt_of_lt_of_le h (Nat.pow_le_pow_right (by decide) hc))
/-- the gone sides of a knot, told by the knots it hangs in -/
theorem pcn_igo {D : Nat → Nat → Nat} {k : Nat} (h6 : D 6 k < 2 ^ D 5 k) (h45 : D 4 k + D 5 k ≤ 24) : pcn (D 6 k) = fb_sm (fun q => nb (igo D k q)) 24 := by
  have e1 : pcn (D 6 k) = fb_sm (fun c => nb ((D 6 k).testBit c)) 24 := (ct_sm (fun c => (D 6 k).testBit c) 24).symm
  have e2 : fb_sm (fun q => nb (igo D k q)) 24 = fb_sm (fun c => nb ((D 6 k).testBit c)) (24 - D 4 k) := by
    have h := fb_sm_split (fun q => nb (igo D k q)) (D 4 k) (24 - D 4 k)
    rw [show D 4 k + (24 - D 4 k) = 24 by omega] at h
    rw [h, show fb_sm (fun q => nb (igo D k q)) (D 4 k) = fb_sm (fun _ => 0) (D 4 k) from fb_sm_cong (fun q hq => by
      unfold igo
      rw [hgb_F.mpr (by omega)]
      rfl), fb_sm_z, Nat.zero_add]
    exact fb_sm_cong (fun c hc => by
      unfold igo
      rw [Nat.add_sub_cancel_left]
      by_cases e : c < D 5 k
      · rw [hgb_T.mpr (by omega), Bool.true_and]
      · rw [bit_hi h6 (by omega), Bool.and_false])
  have e3 : fb_sm (fun c => nb ((D 6 k).testBit c)) 24 = fb_sm (fun c => nb ((D 6 k).testBit c)) (24 - D 4 k) := by
    have h := fb_sm_split (fun c => nb ((D 6 k).testBit c)) (24 - D 4 k) (D 4 k)
    rw [show 24 - D 4 k + D 4 k = 24 by omega] at h
    rw [h, show fb_sm (fun c => nb ((D 6 k).testBit (24 - D 4 k + c))) (D 4 k) = fb_sm (fun _ => 0) (D 4 k) from fb_sm_cong (fun c hc => by
      rw [bit_hi h6 (by omega)]
      rfl), fb_sm_z, Nat.add_zero]
  rw [e1, e3, e2]
section HS
variable {P : Nat → Nat → Nat} {R : Nat → Nat → Nat → Nat} {T : Nat → Bool}
def gsv (R : Nat → Nat → Nat → Nat) (r j k : Nat) : Nat := if j < R r 0 0 then nb (igo (R r) j k) else 0
theorem gsv_le (R : Nat → Nat → Nat → Nat) (r j k : Nat) : gsv R r j k ≤ 1 := by
  unfold gsv
  split
  · exact nb_le _
  · omega
theorem hen_ls (hn : P 5 0 ≤ 20) (hok : ∀ r, r < P 5 0 → rOK (R r)) (G : gOK (P 5 0) R) (hin : ∀ x, T x = true → gIn (P 5 0) R x) (hcl : ∀ x y, T x = true → gE (P 5 0) R x y → T y = true) : hen P R T 480 = 2 * lsT R T := by
  have hA : ∀ r k, k < 24 → gsx P R (24 * r + k) = pcx R (24 * r + k) + if r + 1 < P 5 0 then fb_sm (fun j => gsv R (r + 1) j k) 24 else 0 := fun r k hk => by
    unfold gsx gsd pcx
    rw [show (24 * r + k) / 24 = r by omega, show (24 * r + k) % 24 = k by omega]
    congr 1
    by_cases e : r + 1 < P 5 0
    · rw [if_pos e, if_pos e]
      have h24 := (hok (r + 1) e).1
      have h := fb_sm_split (fun j => gsv R (r + 1) j k) (R (r + 1) 0 0) (24 - R (r + 1) 0 0)
      rw [show R (r + 1) 0 0 + (24 - R (r + 1) 0 0) = 24 by omega] at h
      rw [h, show fb_sm (fun j => gsv R (r + 1) (R (r + 1) 0 0 + j) k) (24 - R (r + 1) 0 0) = fb_sm (fun _ => 0) (24 - R (r + 1) 0 0) from fb_sm_cong (fun j _ => if_neg (by omega)), fb_sm_z, Nat.add_zero]
      exact fb_sm_cong (fun j hj => (if_pos hj).symm)
    · rw [if_neg e, if_neg e]
  have hB : ∀ r j, j < 24 → T (24 * (r + 1) + j) = true → pcx R (24 * (r + 1) + j) = fb_sm (fun k => gsv R (r + 1) j k) 24 := fun r j hj hT => by
    obtain ⟨g1, g2⟩ := hin _ hT
    rw [show (24 * (r + 1) + j) / 24 = r + 1 by omega] at g1 g2
    rw [show (24 * (r + 1) + j) % 24 = j by omega] at g2
    unfold pcx
    rw [show (24 * (r + 1) + j) / 24 = r + 1 by omega, show (24 * (r + 1) + j) % 24 = j by omega]
    have ho := (hok (r + 1) g1).2 j hj
    have h24 := (hok r (by omega)).1
    rw [pcn_igo ho.2.2.2.2.2 (by
      rcases G.2 r g1 j g2 with e | e
      · have := ho.2.2.2.1; omega
      · omega)]
    exact fb_sm_cong (fun k _ => (if_pos g2).symm)
  have hB0 : ∀ j, j < 24 → T (24 * 0 + j) = true → pcx R (24 * 0 + j) = 0 := fun j hj hT => by
    obtain ⟨g1, g2⟩ := hin _ hT
    rw [show (24 * 0 + j) / 24 = 0 by omega] at g1 g2
    rw [show (24 * 0 + j) % 24 = j by omega] at g2
    unfold pcx
    rw [show (24 * 0 + j) / 24 = 0 by omega, show (24 * 0 + j) % 24 = j by omega]
    have ho := ((hok 0 g1).2 j hj).2.2.2.2.2
    rw [G.1 j g2] at ho
    rw [show R 0 6 j = 0 by omega]
    decide
  have e1 : hen P R T 480 = lsT R T + fb_sm (fun r => fb_sm (fun k => nb (T (24 * r + k)) * (if r + 1 < P 5 0 then fb_sm (fun j => gsv R (r + 1) j k) 24 else 0)) 24) 20 := by
    unfold hen lsT
    rw [show (480 : Nat) = 24 * 20 from rfl, fb_sm_grid, fb_sm_grid, ← fb_sm_add]
    refine fb_sm_cong (fun r _ => ?_)
    show _ = fb_sm _ 24 + fb_sm _ 24
    rw [← fb_sm_add]
    exact fb_sm_cong (fun k hk => by
      show nb (T (24 * r + k)) * gsx P R (24 * r + k) = _
      rw [hA r k hk, Nat.mul_add])
  have e2 : lsT R T = fb_sm (fun r => fb_sm (fun j => nb (T (24 * (r + 1) + j)) * fb_sm (fun k => gsv R (r + 1) j k) 24) 24) 19 := by
    unfold lsT
    rw [show (480 : Nat) = 24 * 20 from rfl, fb_sm_grid, show (20 : Nat) = 19 + 1 from rfl, fb_sm_shift]
    rw [show fb_sm (fun k => nb (T (24 * 0 + k)) * pcx R (24 * 0 + k)) 24 = fb_sm (fun _ => 0) 24 from fb_sm_cong (fun k hk => by
      rcases z : T (24 * 0 + k) with _ | _
      · exact Nat.zero_mul _
      · rw [hB0 k hk z, Nat.mul_zero]), fb_sm_z, Nat.zero_add]
    exact fb_sm_cong (fun r _ => fb_sm_cong (fun j hj => by
      rcases z : T (24 * (r + 1) + j) with _ | _
      · show 0 * _ = 0 * _
        rw [Nat.zero_mul, Nat.zero_mul]
      · rw [hB r j hj z]))
  have e3 : fb_sm (fun r => fb_sm (fun k => nb (T (24 * r + k)) * (if r + 1 < P 5 0 then fb_sm (fun j => gsv R (r + 1) j k) 24 else 0)) 24) 20 = lsT R T := by
    rw [e2, show (20 : Nat) = 19 + 1 from rfl, fb_sm_succ]
    rw [show fb_sm (fun k => nb (T (24 * 19 + k)) * (if 19 + 1 < P 5 0 then fb_sm (fun j => gsv R (19 + 1) j k) 24 else 0)) 24 = fb_sm (fun _ => 0) 24 from fb_sm_cong (fun k _ => by rw [if_neg (by omega), Nat.mul_zero]), fb_sm_z, Nat.add_zero]
    refine fb_sm_cong (fun r _ => ?_)
    have s1 : fb_sm (fun k => nb (T (24 * r + k)) * (if r + 1 < P 5 0 then fb_sm (fun j => gsv R (r + 1) j k) 24 else 0)) 24 = fb_sm (fun k => fb_sm (fun j => nb (T (24 * (r + 1) + j)) * gsv R (r + 1) j k) 24) 24 := by
      refine fb_sm_cong (fun k hk => ?_)
      by_cases e : r + 1 < P 5 0
      · rw [if_pos e, fb_sm_mul]
        refine fb_sm_cong (fun j hj => ?_)
        by_cases g : j < R (r + 1) 0 0 ∧ igo (R (r + 1)) j k = true
        · have t1 : T (24 * r + k) = T (24 * (r + 1) + j) := by
            rw [Bool.eq_iff_iff]
            exact ⟨fun h => hcl _ _ h (gE_dn hk hj e g.1 g.2), fun h => by
              have := hcl _ _ h (gE_up (r := r + 1) hj hk (by omega) g.2)
              rwa [Nat.add_sub_cancel] at this⟩
          rw [t1]
        · have : gsv R (r + 1) j k = 0 := by
            unfold gsv
            by_cases g1 : j < R (r + 1) 0 0
            · rw [if_pos g1]
              exact nb_F (by
                rcases z : igo (R (r + 1)) j k with _ | _
                · rfl
                · exact absurd ⟨g1, z⟩ g)
            · exact if_neg g1
          rw [this, Nat.mul_zero, Nat.mul_zero]
      · rw [if_neg e, Nat.mul_zero]
        rw [show fb_sm (fun j => nb (T (24 * (r + 1) + j)) * gsv R (r + 1) j k) 24 = fb_sm (fun _ => 0) 24 from fb_sm_cong (fun j hj => by
          rcases z : T (24 * (r + 1) + j) with _ | _
          · exact Nat.zero_mul _
          · obtain ⟨g1, -⟩ := hin _ z
            omega), fb_sm_z]
    rw [s1, fb_sm_swap]
    exact fb_sm_cong (fun j _ => (fb_sm_mul _ _ _).symm)
  omega
end HS
theorem hTr_cl {P : Nat → Nat → Nat} {R : Nat → Nat → Nat → Nat} {s : Nat} {T : Nat → Bool} (h : hTr P R s T) : ∀ x y, T x = true → gE (P 5 0) R x y → T y = true := fun x y hx e => by
  by_cases z : gsx P R s = 0
  · rw [h.1 z x] at hx; cases hx
  · exact (h.2 z y).mpr (((h.2 z x).mp hx).st e)
