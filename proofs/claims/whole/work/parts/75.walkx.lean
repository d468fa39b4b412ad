/-! one twine: the class's walk -/
def nmK (x : Nat) : Nat := 100 * (x / 24) + x % 24
def cS (f : Nat → Nat) : List Nat → Prop
  | [] => True
  | v :: l => f l.length = nmK v ∧ cS f l
theorem cS_cg {f f2 : Nat → Nat} : ∀ {l : List Nat}, (∀ i, i < l.length → f2 i = f i) → cS f l → cS f2 l
  | [], _, _ => trivial
  | v :: l, h, ⟨h1, h2⟩ => ⟨(h l.length (by simp)).trans h1, cS_cg (fun i hi => h i (by simp; omega)) h2⟩
theorem lst_ex {p : Nat → Bool} : ∀ {n : Nat}, (∃ q, q < n ∧ p q = true) → ∃ q, q < n ∧ p q = true ∧ ∀ q2, q2 < q → p q2 = false := by
  intro n
  induction n with
  | zero => rintro ⟨q, h, -⟩; omega
  | succ n ih =>
    rintro ⟨q, h1, h2⟩
    by_cases e : ∃ q, q < n ∧ p q = true
    · obtain ⟨q, g1, g2, g3⟩ := ih e
      exact ⟨q, by omega, g2, g3⟩
    · refine ⟨q, h1, h2, fun q2 h => ?_⟩
      rcases z : p q2 with _ | _
      · rfl
      · exact absurd ⟨q2, by omega, z⟩ e
theorem rmE_sw (g : Nat → Nat → Bool) (x y : Nat) : rmE g x y = rmE g y x := by
  funext a b
  unfold rmE
  rw [Bool.or_comm]
theorem wPu_3 (W : Nat → Nat → Nat) (x : Nat) : wPu W x 3 0 = W 3 0 + 1 := u2_eq _ _ _ _
theorem wPu_2 (W : Nat → Nat → Nat) (x i : Nat) : wPu W x 2 i = if i = W 3 0 then x else W 2 i := by
  unfold wPu
  rw [u2_ne (by omega)]
  by_cases e : i = W 3 0
  · rw [if_pos e, e, u2_eq]
  · rw [if_neg e, u2_ne (by omega)]
theorem wPu_o {W : Nat → Nat → Nat} {x f i : Nat} (h : f < 2) : wPu W x f i = W f i := by
  unfold wPu
  rw [u2_ne (by omega), u2_ne (by omega)]
theorem wPo_3 (W : Nat → Nat → Nat) (x : Nat) : wPo W x 3 0 = W 3 0 - 1 := by
  unfold wPo
  rw [u2_ne (by omega), u2_ne (by omega), u2_eq]
theorem wPo_0 (W : Nat → Nat → Nat) (x : Nat) : wPo W x 0 0 = W 0 0 + 1 := u2_eq _ _ _ _
theorem wPo_1 (W : Nat → Nat → Nat) (x i : Nat) : wPo W x 1 i = if i = W 0 0 then x else W 1 i := by
  unfold wPo
  rw [u2_ne (by omega)]
  by_cases e : i = W 0 0
  · rw [if_pos e, e, u2_eq]
  · rw [if_neg e, u2_ne (by omega), u2_ne (by omega)]
theorem wPo_2 (W : Nat → Nat → Nat) (x i : Nat) : wPo W x 2 i = W 2 i := by
  unfold wPo
  rw [u2_ne (by omega), u2_ne (by omega), u2_ne (by omega)]
section WK
variable {P : Nat → Nat → Nat} {n : Nat} {R0 : Nat → Nat → Nat → Nat} {T : Nat → Bool} {g0 : Nat → Nat → Bool} {x0 : Nat}
/-- a step on, then the rest -/
theorem wk_on {μ : Nat} {R R2 : Nat → Nat → Nat → Nat} {W W2 : Nat → Nat → Nat} {Q : (Nat → Nat → Nat → Nat) → (Nat → Nat → Nat) → Prop} (h1 : wkst P R R2 W W2) (h2 : ∃ (Rs : Nat → Nat → Nat → Nat → Nat) (Ws : Nat → Nat → Nat → Nat), Rs 0 = R2 ∧ Ws 0 = W2 ∧ (∀ t, t < μ → wkst P (Rs t) (Rs (t + 1)) (Ws t) (Ws (t + 1))) ∧ Q (Rs μ) (Ws μ)) : ∃ (Rs : Nat → Nat → Nat → Nat → Nat) (Ws : Nat → Nat → Nat → Nat), Rs 0 = R ∧ Ws 0 = W ∧ (∀ t, t < μ + 1 → wkst P (Rs t) (Rs (t + 1)) (Ws t) (Ws (t + 1))) ∧ Q (Rs (μ + 1)) (Ws (μ + 1)) := by
  obtain ⟨Rs, Ws, e1, e2, e3, e4⟩ := h2
  refine ⟨fun t => if t = 0 then R else Rs (t - 1), fun t => if t = 0 then W else Ws (t - 1), if_pos rfl, if_pos rfl, fun t ht => ?_, ?_⟩
  · show wkst P (if t = 0 then R else Rs (t - 1)) (if t + 1 = 0 then R else Rs (t + 1 - 1)) (if t = 0 then W else Ws (t - 1)) (if t + 1 = 0 then W else Ws (t + 1 - 1))
    rw [if_neg (show ¬ t + 1 = 0 by omega), if_neg (show ¬ t + 1 = 0 by omega), Nat.add_sub_cancel]
    by_cases e : t = 0
    · rw [if_pos e, if_pos e, e, e1, e2]
      exact h1
    · rw [if_neg e, if_neg e]
      have := e3 (t - 1) (by omega)
      rwa [show t - 1 + 1 = t by omega] at this
  · show Q (if μ + 1 = 0 then R else Rs (μ + 1 - 1)) (if μ + 1 = 0 then W else Ws (μ + 1 - 1))
    rw [if_neg (show ¬ μ + 1 = 0 by omega), if_neg (show ¬ μ + 1 = 0 by omega), Nat.add_sub_cancel]
    exact e4
/-- what the walk ends with -/
def wkQ (n : Nat) (R0 : Nat → Nat → Nat → Nat) (T : Nat → Bool) (g0 : Nat → Nat → Bool) (x0 len : Nat) (R : Nat → Nat → Nat → Nat) (W : Nat → Nat → Nat) : Prop := W 3 0 = 0 ∧ mdR n R0 R T ∧ ∃ l : List Nat, gd (x0 :: l) ∧ tE (x0 :: l) ∧ (∀ a b, g0 a b = true ↔ gb n R T a b = true ∨ cE (x0 :: l) a b) ∧ (∀ u ∈ x0 :: l, ∀ v, gb n R T u v = false) ∧ W 0 0 = l.length + 1 ∧ cS (W 1) (x0 :: l) ∧ l.length = len
theorem pcx_0 {R : Nat → Nat → Nat → Nat} (hok : ∀ r, r < n → rOK (R r)) (G : gOK n R) {y : Nat} (hy : gIn n R y) (h : ∀ v, ¬ gE n R y v) : pcx R y = 0 := by
  obtain ⟨h1, h2⟩ := hy
  have ho := (hok _ h1).2 (y % 24) (by omega)
  unfold pcx
  have h45 : R (y / 24) 4 (y % 24) + R (y / 24) 5 (y % 24) ≤ 24 := by
    rcases e : y / 24 with _ | q
    · rw [e] at ho h2
      have := G.1 _ h2
      omega
    · rw [e] at ho h2 h1
      have h24 := (hok q (by omega)).1
      rcases G.2 q h1 _ h2 with z | z <;> omega
  rw [pcn_igo ho.2.2.2.2.2 h45, show fb_sm (fun q => nb (igo (R (y / 24)) (y % 24) q)) 24 = fb_sm (fun _ => 0) 24 from fb_sm_cong (fun q hq => by
    rcases e : igo (R (y / 24)) (y % 24) q with _ | _
    · rfl
    · obtain ⟨g1, -⟩ := gOK_in G h1 h2 e
      have := gE_up (n := n) (R := R) (r := y / 24) (k := y % 24) (by omega) hq g1 e
      rw [show 24 * (y / 24) + y % 24 = y by omega] at this
      exact absurd this (h _)), fb_sm_z]
theorem wk_ex (hPn : P 5 0 = n) (hn : n ≤ 20) (G : gOK n R0) (hT : ∀ x, T x = true → gIn n R0 x) (hg0 : g0 = gb n R0 T) (hre : ∀ y, T y = true → gRe n R0 x0 y) (hc0 : ∀ x y, T x = true → gE n R0 x y → T y = true) : ∀ (μ : Nat) (R : Nat → Nat → Nat → Nat) (W : Nat → Nat → Nat) (x : Nat) (F : List Nat) (r : List (Nat × List Nat)) (S : List Nat) (t : Nat) (pf : List Nat), 2 * lsT R T + r.length + 1 = μ → mdR n R0 R T → hz g0 (gb n R T) x F r S t pf → T x = true → (∀ q ∈ r, T q.1 = true) → (∃ pre, x :: r.map Prod.fst = pre ++ [x0]) → W 3 0 = r.length + 1 → cS (W 2) (x :: r.map Prod.fst) → W 0 0 = S.length → cS (W 1) S → lsT R T + r.length + S.length ≤ 1140 → ∃ (Rs : Nat → Nat → Nat → Nat → Nat) (Ws : Nat → Nat → Nat → Nat), Rs 0 = R ∧ Ws 0 = W ∧ (∀ t, t < μ → wkst P (Rs t) (Rs (t + 1)) (Ws t) (Ws (t + 1))) ∧ wkQ n R0 T g0 x0 (lsT R T + r.length + S.length) (Rs μ) (Ws μ) := by
  intro μ
  induction μ with
  | zero => intro R W x F r S t pf h; omega
  | succ μ ih =>
    intro R W x F r S t pf hμ M I hx hr hb w3 w2 w0 w1 hle
    have GR := mdR_ok M G
    have hT2 : ∀ x, T x = true → gIn n R x := fun x hx => mdR_in M (hT x hx)
    obtain ⟨j, hj⟩ : ∃ j, x / 24 = j := ⟨_, rfl⟩
    obtain ⟨i, hi⟩ : ∃ i, x % 24 = i := ⟨_, rfl⟩
    have ex : x = 24 * j + i := by omega
    obtain ⟨hjn, hik⟩ := hT2 x hx
    rw [hj] at hjn hik
    rw [hi] at hik
    have hok := M.2.1
    have hi24 : i < 24 := by omega
    have hnm : W 2 (W 3 0 - 1) = 100 * j + i := by
      have := w2.1
      rw [List.length_map] at this
      rw [w3, Nat.add_sub_cancel, this]
      unfold nmK
      rw [hj, hi]
    have hx480 := gIn_480 hn hok (hT2 x hx)
    -- a push
    have push : ∀ (y j2 i2 q2 : Nat), (j2 < n ∧ 1 ≤ j2 ∧ i2 < 24 ∧ q2 < 24 ∧ igo (R j2) i2 q2 = true ∧ T (24 * j2 + i2) = true) → ((x = 24 * j2 + i2 ∧ y = 24 * (j2 - 1) + q2) ∨ (y = 24 * j2 + i2 ∧ x = 24 * (j2 - 1) + q2)) → T y = true → gb n R T x y = true → (∀ z, z < y → gb n R T x z = false) → wkst P R (uR R j2 (sto (R j2) 1 i2 q2)) W (wPu W (nmK y)) → ∃ (Rs : Nat → Nat → Nat → Nat → Nat) (Ws : Nat → Nat → Nat → Nat), Rs 0 = R ∧ Ws 0 = W ∧ (∀ t, t < μ + 1 → wkst P (Rs t) (Rs (t + 1)) (Ws t) (Ws (t + 1))) ∧ wkQ n R0 T g0 x0 (lsT R T + r.length + S.length) (Rs (μ + 1)) (Ws (μ + 1)) := by
      rintro y j2 i2 q2 ⟨a1, a2, a3, a4, a5, a6⟩ hxy hy hg hm hst
      have hl := ls_tie a3 a5 a6 (gIn_480 hn hok (hT2 _ a6)) (hok j2 a1)
      obtain ⟨M2, eg⟩ := gb_tie M a2 a3 a4 a5 a6 a1
      have eg2 : gb n (uR R j2 (sto (R j2) 1 i2 q2)) T = rmE (gb n R T) x y := by
        funext a b
        rw [eg a b]
        rcases hxy with ⟨e1, e2⟩ | ⟨e1, e2⟩
        · rw [e1, e2]
        · rw [e1, e2, rmE_sw]
      have I2 := hz_push I hg hm
      rw [← eg2] at I2
      obtain ⟨pre, hpre⟩ := hb
      have hl2 : ((x, F) :: r).length = r.length + 1 := rfl
      have := ih (uR R j2 (sto (R j2) 1 i2 q2)) (wPu W (nmK y)) y S ((x, F) :: r) S t pf (by rw [hl2]; omega) M2 I2 hy (fun q hq => by
        rcases List.mem_cons.mp hq with z | z
        · rw [z]; exact hx
        · exact hr q z) ⟨y :: pre, by show y :: (x :: r.map Prod.fst) = _; rw [hpre]; rfl⟩ (by rw [wPu_3, w3, hl2]) ⟨by
          rw [wPu_2, if_pos (by rw [w3]; simp)], cS_cg (fun k hk => by
          rw [wPu_2, if_neg]
          have t1 : (((x, F) :: r).map Prod.fst).length = r.length + 1 := by simp
          rw [t1] at hk
          omega) w2⟩ (by rw [wPu_o (by decide)]; exact w0) (cS_cg (fun k _ => wPu_o (by decide)) w1) (by rw [hl2]; omega)
      rw [show lsT (uR R j2 (sto (R j2) 1 i2 q2)) T + ((x, F) :: r).length + S.length = lsT R T + r.length + S.length by rw [hl2]; omega] at this
      exact wk_on hst this
    by_cases hup : ∃ q, q < 24 ∧ igo (R j) i q = true
    · obtain ⟨q, q1, q2, q3⟩ := lst_ex hup
      obtain ⟨h1, hq⟩ := gOK_in GR hjn hik q2
      have hgE : gE n R x (24 * (j - 1) + q) := by rw [ex]; exact gE_up hi24 q1 h1 q2
      refine push (24 * (j - 1) + q) j i q ⟨hjn, h1, hi24, q1, q2, by rw [← ex]; exact hx⟩ (Or.inl ⟨ex, rfl⟩) (M.2.2.2 _ _ hx hgE) (gb_T.mpr ⟨hx, hgE⟩) (fun z hz => ?_) ⟨j, i, by omega, by omega, hnm, by omega, hik, Or.inl ⟨q, q1, h1, q3, q2, by omega, rfl, by unfold nmK; rw [show (24 * (j - 1) + q) / 24 = j - 1 by omega, show (24 * (j - 1) + q) % 24 = q by omega]⟩⟩
      rcases e : gb n R T x z with _ | _
      · rfl
      · obtain ⟨-, g1 | g1⟩ := gb_T.mp e
        · rw [hj, hi] at g1
          have := q3 (z % 24) (by omega)
          rw [g1.2] at this
          cases this
        · rw [hj] at g1
          omega
    · have hno : ∀ q, q < 24 → igo (R j) i q = false := fun q hq => by
        rcases e : igo (R j) i q with _ | _
        · rfl
        · exact absurd ⟨q, hq, e⟩ hup
      have hnoz : ∀ z, x / 24 = z / 24 + 1 → ¬ igo (R (x / 24)) (x % 24) (z % 24) = true := fun z _ h => by
        rw [hj, hi, hno _ (by omega)] at h
        cases h
      by_cases hdn : j + 1 < n ∧ ∃ q, q < R (j + 1) 0 0 ∧ igo (R (j + 1)) q i = true
      · obtain ⟨d1, d2⟩ := hdn
        obtain ⟨q, q1, q2, q3⟩ := lst_ex (p := fun q => igo (R (j + 1)) q i) d2
        have hq24 : q < 24 := by have := (hok (j + 1) d1).1; omega
        have hgE : gE n R x (24 * (j + 1) + q) := by rw [ex]; exact gE_dn hi24 hq24 d1 q1 q2
        have hy := M.2.2.2 _ _ hx hgE
        refine push (24 * (j + 1) + q) (j + 1) q i ⟨d1, by omega, hq24, hi24, q2, hy⟩ (Or.inr ⟨rfl, by omega⟩) hy (gb_T.mpr ⟨hx, hgE⟩) (fun z hz => ?_) ⟨j, i, by omega, by omega, hnm, by omega, hik, Or.inr (Or.inl ⟨q, hno, by omega, q1, q3, q2, by omega, rfl, by unfold nmK; rw [show (24 * (j + 1) + q) / 24 = j + 1 by omega, show (24 * (j + 1) + q) % 24 = q by omega]⟩)⟩
        rcases e : gb n R T x z with _ | _
        · rfl
        · obtain ⟨-, g1 | g1⟩ := gb_T.mp e
          · exact absurd g1.2 (hnoz z g1.1)
          · rw [hj, hi] at g1
            have := q3 (z % 24) (by omega)
            rw [show j + 1 = z / 24 by omega, g1.2.2.2] at this
            cases this
      · have h0 : ∀ z, gb n R T x z = false := fun z => by
          rcases e : gb n R T x z with _ | _
          · rfl
          · obtain ⟨-, g1 | g1⟩ := gb_T.mp e
            · exact absurd g1.2 (hnoz z g1.1)
            · rw [hj, hi] at g1
              exact absurd ⟨by omega, z % 24, by rw [← g1.1]; exact g1.2.2.1, by rw [← g1.1]; exact g1.2.2.2⟩ hdn
        have hst : wkst P R R W (wPo W (nmK x)) := ⟨j, i, by omega, by omega, hnm, by omega, hik, Or.inr (Or.inr ⟨hno, fun hj1 q hq => by
          rcases e : igo (R (j + 1)) q i with _ | _
          · rfl
          · exact absurd ⟨by omega, q, hq, e⟩ hdn, by omega, rfl, by unfold nmK; rw [hj, hi]⟩)⟩
        have hcs : cS (wPo W (nmK x) 1) (x :: S) := ⟨by rw [wPo_1, if_pos w0.symm], cS_cg (fun k hk => by rw [wPo_1, if_neg (by omega)]) w1⟩
        clear push
        obtain ⟨pre, hpre⟩ := hb
        rcases r with _ | ⟨⟨v, F'⟩, r⟩
        · have ex0 : x = x0 := by
            match pre, hpre with
            | [], hpre => exact (List.cons.inj hpre).1
            | a :: p, hpre => exact absurd (List.cons.inj hpre).2 (by simp)
          subst ex0
          obtain ⟨k1, k2, k3, k4⟩ := hz_last I h0
          have hall : ∀ y, T y = true → y ∈ x :: S := fun y hy => (hre y hy (fun u => T u = true ∧ u ∈ x :: S) ⟨hx, by simp⟩ (fun u w hu e => by
            have hw := M.2.2.2
            have hg : g0 u w = true := by rw [hg0]; exact gb_T.mpr ⟨hu.1, e⟩
            have hTw : T w = true := hc0 u w hu.1 e
            rcases (k3 u w).mp hg with z | z
            · rw [k4 u hu.2 w] at z; cases z
            · exact ⟨hTw, (cE_mem z).2⟩)).2
          have hls : lsT R T = 0 := by
            unfold lsT
            rw [show fb_sm (fun i => nb (T i) * pcx R i) 480 = fb_sm (fun _ => 0) 480 from fb_sm_cong (fun k hk => by
              rcases z : T k with _ | _
              · exact Nat.zero_mul _
              · rw [pcx_0 hok GR (hT2 k z) (fun v hv => by
                  have := k4 k (hall k z) v
                  rw [gb_T.mpr ⟨z, hv⟩] at this
                  cases this), Nat.mul_zero]), fb_sm_z]
          have hμ0 : μ = 0 := by simp at hμ; omega
          subst hμ0
          exact wk_on hst ⟨fun _ => R, fun _ => wPo W (nmK x), rfl, rfl, fun t ht => by omega, (wPo_3 W (nmK x)).trans (by rw [w3]; rfl), M, S, k1, k2, k3, k4, (wPo_0 W (nmK x)).trans (by rw [w0]), hcs, by rw [hls]; simp⟩
        · have I2 := hz_pop I h0
          have hl2 : ((v, F') :: r).length = r.length + 1 := rfl
          have hls : (x :: S).length = S.length + 1 := rfl
          have hpre2 : ∃ pre2, v :: r.map Prod.fst = pre2 ++ [x0] := by
            match pre, hpre with
            | [], hpre => exact absurd (List.cons.inj hpre).2 (by simp)
            | a :: p, hpre => exact ⟨p, (List.cons.inj hpre).2⟩
          have := ih R (wPo W (nmK x)) v F' r (x :: S) v F (by rw [hl2] at hμ; omega) M I2 (hr (v, F') (by simp)) (fun q hq => hr q (List.mem_cons_of_mem _ hq)) hpre2 (by rw [wPo_3, w3, hl2]; omega) (cS_cg (fun k _ => wPo_2 _ _ _) w2.2) (by rw [wPo_0, w0, hls]) hcs (by rw [hls]; rw [hl2] at hle; omega)
          rw [show lsT R T + r.length + (x :: S).length = lsT R T + ((v, F') :: r).length + S.length by rw [hl2, hls]; omega] at this
          exact wk_on hst this
end WK
