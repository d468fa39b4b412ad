/-! one twine: the gone sides of a hole -/
def gb (n : Nat) (R : Nat → Nat → Nat → Nat) (T : Nat → Bool) (x y : Nat) : Bool := T x && ((decide (x / 24 = y / 24 + 1) && igo (R (x / 24)) (x % 24) (y % 24)) || (decide (y / 24 = x / 24 + 1) && (decide (y / 24 < n) && (decide (y % 24 < R (y / 24) 0 0) && igo (R (y / 24)) (y % 24) (x % 24)))))
theorem gb_T {n : Nat} {R : Nat → Nat → Nat → Nat} {T : Nat → Bool} {x y : Nat} : gb n R T x y = true ↔ T x = true ∧ gE n R x y := by
  unfold gb gE
  simp only [Bool.and_eq_true, Bool.or_eq_true, decide_eq_true_eq]
theorem igo_sto {D : Nat → Nat → Nat} {k q : Nat} (h : igo D k q = true) (k2 q2 : Nat) : igo (sto D 1 k q) k2 q2 = true ↔ igo D k2 q2 = true ∧ ¬ (k2 = k ∧ q2 = q) := by
  have hh := igo_hg h
  have e : sto D 1 k q = u2 D 6 k (sclr (D 6 k) (q - D 4 k)) := by
    unfold sto
    rw [if_pos (hgb_T.mpr hh)]
    rfl
  have e2 : ∀ k2 q2, hgb (sto D 1 k q) k2 q2 = hgb D k2 q2 := fun k2 q2 => by
    rw [e]
    unfold hgb
    rw [u2_ne (by omega), u2_ne (by omega)]
  unfold igo
  rw [e2, e, u2_ne (show ¬ (4 = 6 ∧ k2 = k) by omega)]
  by_cases ek : k2 = k
  · subst ek
    rw [u2_eq, sclr_tb, Bool.and_eq_true, Bool.and_eq_true, Bool.and_eq_true, hgb_T]
    constructor
    · rintro ⟨h1, h2, h3⟩
      refine ⟨⟨h1, h2⟩, fun z => ?_⟩
      rw [z.2] at h3
      simp at h3
    · rintro ⟨⟨h1, h2⟩, h3⟩
      refine ⟨h1, h2, ?_⟩
      have : ¬ q - D 4 k2 = q2 - D 4 k2 := fun z => h3 ⟨rfl, by omega⟩
      simp [this]
  · rw [u2_ne (fun z => ek z.2)]
    exact ⟨fun z => ⟨z, fun y => ek y.1⟩, fun z => z.1⟩
theorem sto_f {D : Nat → Nat → Nat} {o k q f i : Nat} (h : f ≠ 6) : sto D o k q f i = D f i := by
  unfold sto
  split
  · exact u2_ne (by omega)
  · rfl
/-- one side is whole again -/
theorem gE_sto {n : Nat} {R : Nat → Nat → Nat → Nat} {j i q : Nat} (hj : 1 ≤ j) (hi : i < 24) (hq : q < 24) (h : igo (R j) i q = true) (x y : Nat) : gE n (uR R j (sto (R j) 1 i q)) x y ↔ gE n R x y ∧ ¬ ((x = 24 * j + i ∧ y = 24 * (j - 1) + q) ∨ (x = 24 * (j - 1) + q ∧ y = 24 * j + i)) := by
  have e0 : ∀ r, uR R j (sto (R j) 1 i q) r 0 0 = R r 0 0 := fun r => by
    by_cases e : r = j
    · subst e; rw [uR_eq, sto_f (by decide)]
    · rw [uR_ne e]
  have ei : ∀ r k2 q2, igo (uR R j (sto (R j) 1 i q) r) k2 q2 = true ↔ igo (R r) k2 q2 = true ∧ ¬ (r = j ∧ k2 = i ∧ q2 = q) := fun r k2 q2 => by
    by_cases e : r = j
    · subst e
      rw [uR_eq, igo_sto h]
      exact ⟨fun z => ⟨z.1, fun y => z.2 y.2⟩, fun z => ⟨z.1, fun y => z.2 ⟨rfl, y⟩⟩⟩
    · rw [uR_ne e]
      exact ⟨fun z => ⟨z, fun y => e y.1⟩, fun z => z.1⟩
  unfold gE
  rw [e0, ei, ei]
  constructor
  · rintro (⟨h1, h2, h3⟩ | ⟨h1, h2, h3, h4, h5⟩)
    · exact ⟨Or.inl ⟨h1, h2⟩, fun z => h3 (by omega)⟩
    · exact ⟨Or.inr ⟨h1, h2, h3, h4⟩, fun z => h5 (by omega)⟩
  · rintro ⟨⟨h1, h2⟩ | ⟨h1, h2, h3, h4⟩, h5⟩
    · exact Or.inl ⟨h1, h2, fun z => h5 (by omega)⟩
    · exact Or.inr ⟨h1, h2, h3, h4, fun z => h5 (by omega)⟩
theorem gE_sy {n : Nat} {R : Nat → Nat → Nat → Nat} {x y : Nat} (hx : gIn n R x) (h : gE n R x y) : gE n R y x := by
  rcases h with ⟨h1, h2⟩ | ⟨h1, h2, h3, h4⟩
  · exact Or.inr ⟨h1, hx.1, hx.2, h2⟩
  · exact Or.inl ⟨h1, h4⟩
/-- rows out of which the walk has tied sides -/
def mdR (n : Nat) (R0 R : Nat → Nat → Nat → Nat) (T : Nat → Bool) : Prop := (∀ r f k, f ≠ 6 → R r f k = R0 r f k) ∧ (∀ r, r < n → rOK (R r)) ∧ (∀ r k, T (24 * r + k) = false → k < 24 → R r 6 k = R0 r 6 k) ∧ ∀ x y, T x = true → gE n R x y → T y = true
section GB
variable {n : Nat} {R0 R : Nat → Nat → Nat → Nat} {T : Nat → Bool}
theorem mdR_in (M : mdR n R0 R T) {x : Nat} (h : gIn n R0 x) : gIn n R x := ⟨h.1, by rw [M.1 _ 0 0 (by decide)]; exact h.2⟩
theorem mdR_ok (M : mdR n R0 R T) (G : gOK n R0) : gOK n R := by
  refine ⟨fun k hk => ?_, fun r hr k hk => ?_⟩
  · rw [M.1 0 0 0 (by decide)] at hk
    rw [M.1 0 5 k (by decide)]
    exact G.1 k hk
  · rw [M.1 (r + 1) 0 0 (by decide)] at hk
    rw [M.1 (r + 1) 5 k (by decide), M.1 (r + 1) 4 k (by decide), M.1 r 0 0 (by decide)]
    exact G.2 r hr k hk
theorem gb_sy (hT : ∀ x, T x = true → gIn n R x) (hc : ∀ x y, T x = true → gE n R x y → T y = true) (a b : Nat) : gb n R T a b = gb n R T b a := by
  rw [Bool.eq_iff_iff, gb_T, gb_T]
  exact ⟨fun z => ⟨hc a b z.1 z.2, gE_sy (hT a z.1) z.2⟩, fun z => ⟨hc b a z.1 z.2, gE_sy (hT b z.1) z.2⟩⟩
theorem gIn_480 (hn : n ≤ 20) (hok : ∀ r, r < n → rOK (R r)) {x : Nat} (h : gIn n R x) : x < 480 := by
  have := (hok _ h.1).1
  have := h.1
  have := h.2
  omega
theorem gb_ir (hn : n ≤ 20) (hok : ∀ r, r < n → rOK (R r)) (hT : ∀ x, T x = true → gIn n R x) (hc : ∀ x y, T x = true → gE n R x y → T y = true) {a b : Nat} (h : gb n R T a b = true) : a ≠ b ∧ a < 480 ∧ b < 480 := by
  obtain ⟨h1, h2⟩ := gb_T.mp h
  refine ⟨fun e => ?_, gIn_480 hn hok (hT a h1), gIn_480 hn hok (hT b (hc a b h1 h2))⟩
  subst e
  rcases h2 with ⟨e, -⟩ | ⟨e, -⟩ <;> omega
/-- a tie, by both -/
theorem gb_tie (M : mdR n R0 R T) {j i q : Nat} (hj : 1 ≤ j) (hi : i < 24) (hq : q < 24) (h : igo (R j) i q = true) (ht : T (24 * j + i) = true) (hjn : j < n) : mdR n R0 (uR R j (sto (R j) 1 i q)) T ∧ ∀ a b, gb n (uR R j (sto (R j) 1 i q)) T a b = rmE (gb n R T) (24 * j + i) (24 * (j - 1) + q) a b := by
  obtain ⟨m1, m2, m3, m4⟩ := M
  refine ⟨⟨fun r f k hf => ?_, fun r hr => ?_, fun r k hk hk2 => ?_, fun x y hx hy => m4 x y hx ((gE_sto hj hi hq h x y).mp hy).1⟩, fun a b => ?_⟩
  · by_cases e : r = j
    · subst e; rw [uR_eq, sto_f hf]; exact m1 r f k hf
    · rw [uR_ne e]; exact m1 r f k hf
  · by_cases e : r = j
    · subst e; rw [uR_eq]; exact rOK_sto (m2 r hr) 1 i q
    · rw [uR_ne e]; exact m2 r hr
  · by_cases e : r = j
    · subst e
      rw [uR_eq]
      have hne : k ≠ i := fun e => by rw [e, ht] at hk; cases hk
      unfold sto
      split
      · rw [u2_ne (by omega)]; exact m3 r k hk hk2
      · exact m3 r k hk hk2
    · rw [uR_ne e]; exact m3 r k hk hk2
  · rw [Bool.eq_iff_iff, rmE_T, gb_T, gb_T, gE_sto hj hi hq h]
    exact ⟨fun z => ⟨⟨z.1, z.2.1⟩, z.2.2⟩, fun z => ⟨z.1.1, z.1.2, z.2⟩⟩
/-- own gone sides, one less -/
theorem ls_tie {j i q : Nat} (hi : i < 24) (h : igo (R j) i q = true) (ht : T (24 * j + i) = true) (h480 : 24 * j + i < 480) (ho : rOK (R j)) : lsT (uR R j (sto (R j) 1 i q)) T + 1 = lsT R T := by
  have hh := igo_hg h
  have hs : (R j 6 i).testBit (q - R j 4 i) = true := by
    unfold igo at h
    rw [Bool.and_eq_true] at h
    exact h.2
  have h24 : q - R j 4 i < 24 := by have := (ho.2 i hi).2.2.2.2.1; omega
  have ep : pcn (sclr (R j 6 i) (q - R j 4 i)) + 1 = pcn (R j 6 i) := by
    unfold pcn
    have := ct_off (p := fun c => (R j 6 i).testBit c) hs 24 h24
    rw [show (fun c => (sclr (R j 6 i) (q - R j 4 i)).testBit c) = fun c => (R j 6 i).testBit c && !decide (c = q - R j 4 i) from funext fun c => by
      rw [sclr_tb]
      by_cases e : c = q - R j 4 i
      · rw [e]
      · rw [decide_eq_false e, decide_eq_false (fun z => e z.symm)]]
    exact this
  have ex : ∀ x, pcx (uR R j (sto (R j) 1 i q)) x = if x = 24 * j + i then pcn (sclr (R j 6 i) (q - R j 4 i)) else pcx R x := fun x => by
    unfold pcx
    by_cases e : x / 24 = j
    · rw [e, uR_eq]
      unfold sto
      rw [if_pos (hgb_T.mpr hh)]
      by_cases e2 : x % 24 = i
      · rw [e2, u2_eq, if_pos (by omega)]
        rfl
      · rw [u2_ne (fun z => e2 z.2), if_neg (by omega)]
    · rw [uR_ne e, if_neg (by omega)]
  have hp : pcx R (24 * j + i) = pcn (R j 6 i) := by
    unfold pcx
    rw [show (24 * j + i) / 24 = j by omega, show (24 * j + i) % 24 = i by omega]
  have hu := fb_sm_upd (fun x => nb (T x) * pcx R x) (pcn (sclr (R j 6 i) (q - R j 4 i))) h480
  have e1 : nb (T (24 * j + i)) * pcx R (24 * j + i) = pcn (R j 6 i) := by
    rw [nb_T ht, Nat.one_mul, hp]
  have e2 : lsT (uR R j (sto (R j) 1 i q)) T = fb_sm (fun k => if k = 24 * j + i then pcn (sclr (R j 6 i) (q - R j 4 i)) else nb (T k) * pcx R k) 480 := fb_sm_cong (fun k _ => by
    rw [ex k]
    by_cases e : k = 24 * j + i
    · rw [if_pos e, if_pos e, e, nb_T ht, Nat.one_mul]
    · rw [if_neg e, if_neg e])
  have e3 : lsT R T = fb_sm (fun x => nb (T x) * pcx R x) 480 := rfl
  rw [e2, e3]
  rw [e1] at hu
  omega
end GB
