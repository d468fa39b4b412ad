/-! one twine: it begins -/
theorem fb_one (A i n : Nat) : fb_sm (fun k => if k = i then A else 0) n = if i < n then A else 0 := by
  by_cases h : i < n
  · have := fb_sm_upd (fun _ => 0) A h
    rw [fb_sm_z] at this
    rw [if_pos h]
    omega
  · rw [if_neg h, fb_sm_out (fun _ => 0) A (by omega), fb_sm_z]
theorem fb_mod (f : Nat → Nat) : ∀ n, fb_sm f n % 2 = fb_sm (fun k => f k % 2) n % 2 := by
  intro n
  induction n with
  | zero => rfl
  | succ n ih => rw [fb_sm_succ, fb_sm_succ]; omega
section MB
variable {P : Nat → Nat → Nat} {R : Nat → Nat → Nat → Nat} {T : Nat → Bool}
theorem gsx_v (hok : ∀ r, r < P 5 0 → rOK (R r)) (r k : Nat) (hk : k < 24) : gsx P R (24 * r + k) = pcx R (24 * r + k) + if r + 1 < P 5 0 then fb_sm (fun j => gsv R (r + 1) j k) 24 else 0 := by
  unfold gsx gsd pcx
  rw [show (24 * r + k) / 24 = r by omega, show (24 * r + k) % 24 = k by omega]
  congr 1
  by_cases e : r + 1 < P 5 0
  · rw [if_pos e, if_pos e]
    have h24 := (hok (r + 1) e).1
    have h := fb_sm_split (fun j => gsv R (r + 1) j k) (R (r + 1) 0 0) (24 - R (r + 1) 0 0)
    rw [show R (r + 1) 0 0 + (24 - R (r + 1) 0 0) = 24 by omega] at h
    rw [h, show fb_sm (fun j => gsv R (r + 1) (R (r + 1) 0 0 + j) k) (24 - R (r + 1) 0 0) = fb_sm (fun _ => 0) (24 - R (r + 1) 0 0) from fb_sm_cong (fun j _ => if_neg (by omega)), fb_sm_z, Nat.add_zero]
    exact fb_sm_cong (fun j hj => (if_pos hj).symm)
  · rw [if_neg e, if_neg e]
theorem h45_of (G : gOK (P 5 0) R) (hok : ∀ r, r < P 5 0 → rOK (R r)) {r k : Nat} (hr : r < P 5 0) (hk : k < R r 0 0) : R r 4 k + R r 5 k ≤ 24 := by
  have ho := (hok r hr).2 k (by have := (hok r hr).1; omega)
  rcases r with _ | q
  · have := G.1 k hk
    omega
  · have h24 := (hok q (by omega)).1
    rcases G.2 q hr k hk with z | z <;> omega
/-- how many gone sides a knot has -/
theorem gb_ct (hn : P 5 0 ≤ 20) (hok : ∀ r, r < P 5 0 → rOK (R r)) (G : gOK (P 5 0) R) {x : Nat} (hx : gIn (P 5 0) R x) (hT : T x = true) : fb_ct (gb (P 5 0) R T x) 480 = gsx P R x := by
  obtain ⟨r, hr⟩ : ∃ r, x / 24 = r := ⟨_, rfl⟩
  obtain ⟨k, hk⟩ : ∃ k, x % 24 = k := ⟨_, rfl⟩
  have ex : x = 24 * r + k := by omega
  obtain ⟨g1, g2⟩ := hx
  rw [hr] at g1 g2
  rw [hk] at g2
  have hk24 : k < 24 := by omega
  have ho := (hok r g1).2 k hk24
  have hp : pcx R (24 * r + k) = fb_sm (fun q => nb (igo (R r) k q)) 24 := by
    unfold pcx
    rw [show (24 * r + k) / 24 = r by omega, show (24 * r + k) % 24 = k by omega]
    exact pcn_igo ho.2.2.2.2.2 (h45_of G hok g1 g2)
  have row : ∀ r2, fb_sm (fun k2 => nb (gb (P 5 0) R T x (24 * r2 + k2))) 24 = (if r2 + 1 = r then fb_sm (fun q => nb (igo (R r) k q)) 24 else 0) + (if r2 = r + 1 then (if r + 1 < P 5 0 then fb_sm (fun j => gsv R (r + 1) j k) 24 else 0) else 0) := fun r2 => by
    have e1 : ∀ k2, k2 < 24 → (gb (P 5 0) R T x (24 * r2 + k2) = true ↔ (r = r2 + 1 ∧ igo (R r) k k2 = true) ∨ (r2 = r + 1 ∧ r2 < P 5 0 ∧ k2 < R r2 0 0 ∧ igo (R r2) k2 k = true)) := fun k2 hk2 => by
      rw [gb_T]
      unfold gE
      rw [hr, hk, show (24 * r2 + k2) / 24 = r2 by omega, show (24 * r2 + k2) % 24 = k2 by omega]
      exact ⟨fun z => z.2, fun z => ⟨hT, z⟩⟩
    by_cases c1 : r2 + 1 = r
    · rw [if_pos c1, if_neg (by omega), Nat.add_zero]
      exact fb_sm_cong (fun k2 hk2 => by
        congr 1
        rw [Bool.eq_iff_iff, e1 k2 hk2]
        exact ⟨fun z => z.elim (fun y => y.2) (fun y => by omega), fun z => Or.inl ⟨by omega, z⟩⟩)
    · rw [if_neg c1, Nat.zero_add]
      by_cases c2 : r2 = r + 1
      · rw [if_pos c2]
        subst c2
        by_cases c3 : r + 1 < P 5 0
        · rw [if_pos c3]
          refine fb_sm_cong (fun k2 hk2 => ?_)
          unfold gsv
          by_cases c4 : k2 < R (r + 1) 0 0
          · rw [if_pos c4]
            congr 1
            rw [Bool.eq_iff_iff, e1 k2 hk2]
            exact ⟨fun z => z.elim (fun y => by omega) (fun y => y.2.2.2), fun z => Or.inr ⟨rfl, c3, c4, z⟩⟩
          · rw [if_neg c4]
            refine nb_F ?_
            rcases z : gb (P 5 0) R T x (24 * (r + 1) + k2) with _ | _
            · rfl
            · rcases (e1 k2 hk2).mp z with y | y
              · omega
              · exact absurd y.2.2.1 c4
        · rw [if_neg c3, show fb_sm (fun k2 => nb (gb (P 5 0) R T x (24 * (r + 1) + k2))) 24 = fb_sm (fun _ => 0) 24 from fb_sm_cong (fun k2 hk2 => by
            refine nb_F ?_
            rcases z : gb (P 5 0) R T x (24 * (r + 1) + k2) with _ | _
            · rfl
            · rcases (e1 k2 hk2).mp z with y | y
              · omega
              · exact absurd y.2.1 c3), fb_sm_z]
      · rw [if_neg c2, show fb_sm (fun k2 => nb (gb (P 5 0) R T x (24 * r2 + k2))) 24 = fb_sm (fun _ => 0) 24 from fb_sm_cong (fun k2 hk2 => by
          refine nb_F ?_
          rcases z : gb (P 5 0) R T x (24 * r2 + k2) with _ | _
          · rfl
          · rcases (e1 k2 hk2).mp z with y | y
            · omega
            · exact absurd y.1 c2), fb_sm_z]
  rw [← ct_sm, show (480 : Nat) = 24 * 20 from rfl, fb_sm_grid, show fb_sm (fun r2 => fb_sm (fun k2 => nb (gb (P 5 0) R T x (24 * r2 + k2))) 24) 20 = fb_sm (fun r2 => (if r2 + 1 = r then fb_sm (fun q => nb (igo (R r) k q)) 24 else 0) + (if r2 = r + 1 then (if r + 1 < P 5 0 then fb_sm (fun j => gsv R (r + 1) j k) 24 else 0) else 0)) 20 from fb_sm_cong (fun r2 _ => row r2), fb_sm_add, fb_one, ex, gsx_v hok r k hk24, hp]
  congr 1
  · rcases Nat.eq_zero_or_pos r with z | z
    · rw [show fb_sm (fun r2 => if r2 + 1 = r then fb_sm (fun q => nb (igo (R r) k q)) 24 else 0) 20 = fb_sm (fun _ => 0) 20 from fb_sm_cong (fun r2 _ => if_neg (by omega)), fb_sm_z]
      rw [show fb_sm (fun q => nb (igo (R r) k q)) 24 = fb_sm (fun _ => 0) 24 from fb_sm_cong (fun q _ => by
        refine nb_F ?_
        rcases y : igo (R r) k q with _ | _
        · rfl
        · have := gOK_in G g1 g2 y
          omega), fb_sm_z]
    · rw [show fb_sm (fun r2 => if r2 + 1 = r then fb_sm (fun q => nb (igo (R r) k q)) 24 else 0) 20 = fb_sm (fun r2 => if r2 = r - 1 then fb_sm (fun q => nb (igo (R r) k q)) 24 else 0) 20 from fb_sm_cong (fun r2 _ => by
        by_cases e : r2 + 1 = r
        · rw [if_pos e, if_pos (by omega)]
        · rw [if_neg e, if_neg (by omega)]), fb_one, if_pos (by omega)]
  · by_cases e : r + 1 < P 5 0
    · rw [if_pos e, if_pos (by omega)]
    · rw [if_neg e]
      split <;> rfl
/-- where the twine ends -/
theorem odd_two (hn : P 5 0 ≤ 20) (hok : ∀ r, r < P 5 0 → rOK (R r)) (G : gOK (P 5 0) R) (hin : ∀ x, T x = true → gIn (P 5 0) R x) (hcl : ∀ x y, T x = true → gE (P 5 0) R x y → T y = true) (h1 : twn (fb_ct T 480) (hod P R T 480) = 1) {x0 : Nat} (B : hBg P R T x0) : ∃ t, ∀ v, fb_ct (gb (P 5 0) R T v) 480 % 2 = ((if v = x0 then 1 else 0) + (if v = t then 1 else 0)) % 2 := by
  have hhs := hen_ls hn hok G hin hcl
  have hm : hod P R T 480 % 2 = 0 := by
    have e1 : hen P R T 480 % 2 = hod P R T 480 % 2 := by
      unfold hen hod
      rw [fb_mod, fb_mod (fun x => nb (T x) * (gsx P R x % 2))]
      have e2 : fb_sm (fun k => nb (T k) * gsx P R k % 2) 480 = fb_sm (fun k => nb (T k) * (gsx P R k % 2) % 2) 480 := fb_sm_cong (fun k _ => by
        rcases z : T k with _ | _
        · show (0 * _) % 2 = (0 * _) % 2
          rw [Nat.zero_mul, Nat.zero_mul]
        · show (1 * _) % 2 = (1 * _) % 2
          rw [Nat.one_mul, Nat.one_mul, Nat.mod_mod])
      rw [e2]
    omega
  have h2 : hod P R T 480 = 0 ∨ hod P R T 480 = 2 := by
    unfold twn at h1
    by_cases e1 : fb_ct T 480 = 0
    · rw [if_pos e1] at h1; omega
    · rw [if_neg e1] at h1
      by_cases e2 : hod P R T 480 = 0
      · exact Or.inl e2
      · rw [if_neg e2] at h1; omega
  have hv : ∀ v, fb_ct (gb (P 5 0) R T v) 480 % 2 = nb (T v) * (gsx P R v % 2) := fun v => by
    rcases z : T v with _ | _
    · rw [show gb (P 5 0) R T v = fun _ => false from funext fun y => by unfold gb; rw [z]; rfl, show fb_ct (fun _ => false) 480 = 0 by rw [← ct_sm]; exact fb_sm_z 480]
      show _ = 0 * _
      rw [Nat.zero_mul]
    · rw [gb_ct hn hok G (hin v z) z]
      show _ = 1 * _
      rw [Nat.one_mul]
  have f1 : ∀ v, nb (T v) * (gsx P R v % 2) ≤ 1 := fun v => by
    have := nb_le (T v)
    have := Nat.mod_lt (gsx P R v) (show 2 > 0 by decide)
    calc nb (T v) * (gsx P R v % 2) ≤ 1 * 1 := Nat.mul_le_mul (by omega) (by omega)
      _ = 1 := rfl
  have f0 : ∀ v, ¬ v < 480 → nb (T v) * (gsx P R v % 2) = 0 := fun v hv => by
    rcases z : T v with _ | _
    · exact Nat.zero_mul _
    · exact absurd (gIn_480 hn hok (hin v z)) hv
  obtain ⟨b1, b2, b3⟩ := B
  generalize hf : (fun x => nb (T x) * (gsx P R x % 2)) = f at *
  have ff : ∀ v, nb (T v) * (gsx P R v % 2) = f v := fun v => by rw [← hf]
  have hod_f : hod P R T 480 = fb_sm f 480 := by rw [← hf]; rfl
  simp only [ff] at hv f1 f0
  rw [hod_f] at h2
  rcases h2 with h2 | h2
  · have z := fb_sm_zero h2
    refine ⟨x0, fun v => ?_⟩
    rw [hv v]
    have : f v = 0 := by
      by_cases e : v < 480
      · exact z v e
      · exact f0 v e
    generalize (if v = x0 then 1 else 0) = i
    omega
  · have hx : f x0 = 1 := by
      rcases b3 with b3 | b3
      · rw [← ff, nb_T b2, b3.1]
      · exfalso
        have : fb_sm f 480 = fb_sm (fun _ => 0) 480 := fb_sm_cong (fun k hk => by
          rw [← ff]
          rcases z : T k with _ | _
          · exact Nat.zero_mul _
          · have := b3.1 k hk z
            rw [show gsx P R k % 2 = 0 by omega, Nat.mul_zero])
        rw [fb_sm_z] at this
        omega
    have u1 := fb_sm_upd f 0 b1
    have ht : ∃ t, t < 480 ∧ t ≠ x0 ∧ f t = 1 := by
      rcases Classical.em (∃ t, t < 480 ∧ t ≠ x0 ∧ f t = 1) with e | e
      · exact e
      · exfalso
        have : fb_sm (fun k => if k = x0 then 0 else f k) 480 = fb_sm (fun _ => 0) 480 := fb_sm_cong (fun k hk => by
          by_cases e2 : k = x0
          · rw [if_pos e2]
          · rw [if_neg e2]
            have := f1 k
            rcases Nat.eq_zero_or_pos (f k) with z | z
            · exact z
            · exact absurd ⟨k, hk, e2, by omega⟩ e)
        rw [fb_sm_z] at this
        omega
    obtain ⟨t, t1, t2, t3⟩ := ht
    have u2_ := fb_sm_upd (fun k => if k = x0 then 0 else f k) 0 t1
    rw [if_neg t2] at u2_
    have hz := fb_sm_zero (f := fun k => if k = t then 0 else if k = x0 then 0 else f k) (n := 480) (by omega)
    refine ⟨t, fun v => ?_⟩
    rw [hv v]
    by_cases e1 : v = x0
    · subst e1
      rw [if_pos rfl, if_neg (fun z => t2 z.symm), hx]
    · by_cases e2 : v = t
      · subst e2
        rw [if_neg e1, if_pos rfl, t3]
      · rw [if_neg e1, if_neg e2]
        have : f v = 0 := by
          by_cases e : v < 480
          · have := hz v e
            rwa [if_neg e2, if_neg e1] at this
          · exact f0 v e
        omega
theorem ls_1140 (K : kP P R) (hin : ∀ x, T x = true → gIn (P 5 0) R x) : lsT R T ≤ 1140 := by
  obtain ⟨a1, a2, a3, a4, a5, a6, a7⟩ := K
  have px : ∀ r k, r < P 5 0 → k < 24 → pcx R (24 * r + k) ≤ R r 5 k := fun r k hr hk => by
    unfold pcx
    rw [show (24 * r + k) / 24 = r by omega, show (24 * r + k) % 24 = k by omega]
    have ho := (a3 r hr).2 k hk
    exact pcn_sd ho.2.2.2.2.2 ho.2.2.2.2.1
  have row : ∀ r k, k < 24 → nb (T (24 * r + k)) * pcx R (24 * r + k) ≤ if r < P 5 0 ∧ k < R r 0 0 then R r 5 k else 0 := fun r k hk => by
    rcases z : T (24 * r + k) with _ | _
    · rw [show nb false * pcx R (24 * r + k) = 0 from Nat.zero_mul _]
      exact Nat.zero_le _
    · obtain ⟨g1, g2⟩ := hin _ z
      rw [show (24 * r + k) / 24 = r by omega] at g1 g2
      rw [show (24 * r + k) % 24 = k by omega] at g2
      rw [if_pos ⟨g1, g2⟩, show nb true * pcx R (24 * r + k) = pcx R (24 * r + k) from Nat.one_mul _]
      exact px r k g1 hk
  unfold lsT
  rw [show (480 : Nat) = 24 * 20 from rfl, fb_sm_grid, show (20 : Nat) = 19 + 1 from rfl, fb_sm_shift]
  have h0 : fb_sm (fun k => nb (T (24 * 0 + k)) * pcx R (24 * 0 + k)) 24 ≤ fb_sm (fun _ => 0) 24 := fb_sm_le (fun k hk => by
    have := row 0 k hk
    by_cases e : 0 < P 5 0 ∧ k < R 0 0 0
    · rw [if_pos e, a4.1 k e.2] at this
      exact this
    · rw [if_neg e] at this
      exact this)
  have h1 : fb_sm (fun r => fb_sm (fun k => nb (T (24 * (r + 1) + k)) * pcx R (24 * (r + 1) + k)) 24) 19 ≤ 19 * 60 := fb_sm_bound (fun r _ => by
    by_cases e : r + 1 < P 5 0
    · have h24 := (a3 (r + 1) e).1
      have e1 : fb_sm (fun k => nb (T (24 * (r + 1) + k)) * pcx R (24 * (r + 1) + k)) 24 ≤ fb_sm (fun k => if r + 1 < P 5 0 ∧ k < R (r + 1) 0 0 then R (r + 1) 5 k else 0) 24 := fb_sm_le (fun k hk => row (r + 1) k hk)
      have e2 : fb_sm (fun k => if r + 1 < P 5 0 ∧ k < R (r + 1) 0 0 then R (r + 1) 5 k else 0) 24 = fb_sm (fun k => if r + 1 < P 5 0 ∧ k < R (r + 1) 0 0 then R (r + 1) 5 k else 0) (R (r + 1) 0 0) := sm_z h24 (fun k k1 _ => if_neg (by omega))
      have e3 : fb_sm (fun k => if r + 1 < P 5 0 ∧ k < R (r + 1) 0 0 then R (r + 1) 5 k else 0) (R (r + 1) 0 0) = fb_sm (fun j => R (r + 1) 5 j) (R (r + 1) 0 0) := fb_sm_cong (fun k hk => if_pos ⟨e, hk⟩)
      have := (a7 r e).2
      omega
    · have e1 : fb_sm (fun k => nb (T (24 * (r + 1) + k)) * pcx R (24 * (r + 1) + k)) 24 ≤ fb_sm (fun _ => 0) 24 := fb_sm_le (fun k hk => by
        have := row (r + 1) k hk
        rwa [if_neg (fun z => e z.1)] at this)
      rw [fb_sm_z] at e1
      omega)
  rw [fb_sm_z] at h0
  omega
/-- the class's walk through a hole that one twine mends -/
theorem mend_ex (K : kP P R) {s : Nat} (hs : gIn (P 5 0) R s) (hT : hTr P R s T) (h1 : twn (fb_ct T 480) (hod P R T 480) = 1) {x0 : Nat} (B : hBg P R T x0) (Y : Nat → Nat → Nat) : ∃ (m : Nat) (Rs : Nat → Nat → Nat → Nat → Nat) (Ws : Nat → Nat → Nat → Nat), m < 2882 ∧ (∀ t, t < m → wkst P (Rs t) (Rs (t + 1)) (Ws t) (Ws (t + 1))) ∧ Ws m 3 0 = 0 ∧ Rs 0 = R ∧ Ws 0 = wPu (u2 (u2 Y 0 0 0) 3 0 0) (100 * (x0 / 24) + x0 % 24) ∧ wkQ (P 5 0) R T (gb (P 5 0) R T) x0 (lsT R T) (Rs m) (Ws m) := by
  have hin : ∀ x, T x = true → gIn (P 5 0) R x := fun x hx => hTr_in K.2.2.2.1 hs hT hx
  have hcl := hTr_cl hT
  have hle := ls_1140 K hin
  obtain ⟨t, ht⟩ := odd_two K.2.1 K.2.2.1 K.2.2.2.1 hin hcl h1 B
  have hre : ∀ y, T y = true → gRe (P 5 0) R x0 y := fun y hy => by
    have hne : ¬ gsx P R s = 0 := fun z => by
      have := hT.1 z y
      rw [hy] at this
      cases this
    have hsx : gRe (P 5 0) R s x0 := (hT.2 hne x0).mp B.2.1
    have hsy : gRe (P 5 0) R s y := (hT.2 hne y).mp hy
    have key : ∀ z, gRe (P 5 0) R s z → gIn (P 5 0) R z ∧ gRe (P 5 0) R z s := fun z hz => hz (fun w => gIn (P 5 0) R w ∧ gRe (P 5 0) R w s) ⟨hs, gRe.z _ _ _⟩ (fun u w hu e => ⟨gE_in K.2.2.2.1 hu.1 e, fun Q q1 q2 => hu.2 Q (q2 w u q1 (gE_sy hu.1 e)) q2⟩)
    exact fun Q q1 q2 => hsy Q ((key x0 hsx).2 Q q1 q2) q2
  have I := hz_init (gb_sy hin hcl) (fun a b h => gb_ir K.2.1 K.2.2.1 hin hcl h) ht
  obtain ⟨Rs, Ws, e1, e2, e3, e4⟩ := wk_ex (P := P) rfl K.2.1 K.2.2.2.1 hin rfl hre hcl (2 * lsT R T + 1) R (wPu (u2 (u2 Y 0 0 0) 3 0 0) (100 * (x0 / 24) + x0 % 24)) x0 [] [] [] t [] rfl ⟨fun _ _ _ _ => rfl, K.2.2.1, fun _ _ _ _ => rfl, hcl⟩ I B.2.1 (fun q hq => absurd hq (by simp)) ⟨[], rfl⟩ (by rw [wPu_3, u2_eq]; rfl) ⟨by rw [wPu_2, if_pos (by rw [u2_eq]; rfl)]; rfl, trivial⟩ (by rw [wPu_o (by decide), u2_ne (by omega), u2_eq]; rfl) trivial (by simp; omega)
  have hl : lsT R T + ([] : List (Nat × List Nat)).length + ([] : List Nat).length = lsT R T := by simp
  rw [hl] at e4
  exact ⟨2 * lsT R T + 1, Rs, Ws, by omega, e3, e4.1, e1, e2, e4⟩
end MB
