/-! the model: what is led to -/
theorem rW_sp {M M2 V : Nat → Nat → Nat} {P : Nat → Nat → Nat → Nat} {R : Nat → Nat → Nat → Nat → Nat} {E Y T S : Nat → Nat → Nat} (W : rW M V P R E Y T S) (h : ∀ f i, f < 18 ∨ 21 < f → M2 f i = M f i) : rW M2 V P R E Y T S := by
  refine rW_out W (fun f i h1 h2 => h f i (by omega)) (h 1 0 (by decide)) rfl ⟨(h 16 0 (by decide)).trans W.1.2.1, fun i hi => (h 17 i (by decide)).trans (W.1.2.2 i hi)⟩ ?_ ?_ ?_ ?_
  · rw [h 22 0 (by decide), h 23 0 (by decide), h 24 0 (by decide), h 25 0 (by decide)]
    exact ⟨W.2.2.1.1, fun z => ⟨(W.2.2.1.2 z).1, (W.2.2.1.2 z).2.1, (W.2.2.1.2 z).2.2.1, fun i hi => by rw [h 26 i (by decide), h 27 i (by decide)]; exact (W.2.2.1.2 z).2.2.2 i hi⟩⟩
  · exact ⟨(h 28 0 (by decide)).trans W.2.2.2.1.1, fun i hi => (h 29 i (by decide)).trans (W.2.2.2.1.2 i hi)⟩
  · rw [h 31 0 (by decide), h 32 0 (by decide), h 33 0 (by decide)]
    exact W.2.2.2.2.1
  · exact ⟨(h 34 0 (by decide)).trans W.2.2.2.2.2.1, fun i hi => (h 35 i (by decide)).trans (W.2.2.2.2.2.2 i hi)⟩
def pcx (R : Nat → Nat → Nat → Nat) (x : Nat) : Nat := pcn (R (x / 24) 6 (x % 24))
/-- w knots wait; X: the knot at hand -/
def spI (M0 M : Nat → Nat → Nat) (n : Nat) (R : Nat → Nat → Nat → Nat) (s w : Nat) (X : Nat → Prop) : Prop :=
  (∀ f i, f < 18 ∨ 21 < f → M f i = M0 f i) ∧ (∀ x, x < 480 → M 18 x ≤ 1) ∧ (∀ x, x < 480 → M 18 x = 1 → gRe n R s x) ∧ M 18 s = 1 ∧ (∀ j, j < w → M 19 j < 480 ∧ M 18 (M 19 j) = 1) ∧ (M 20 0 + w = fb_sm (M 18) 480) ∧ (M 21 0 + fb_sm (fun j => pcx R (M 19 j)) w = fb_sm (fun i => M 18 i * pcx R i) 480) ∧ ∀ x, x < 480 → M 18 x = 1 → (∃ j, j < w ∧ M 19 j = x) ∨ X x ∨ ∀ y, gE n R x y → M 18 y = 1
section SP
variable {M0 M : Nat → Nat → Nat} {n : Nat} {R : Nat → Nat → Nat → Nat} {s w : Nat} {X : Nat → Prop}
theorem spI_c (I : spI M0 M n R s w X) : M 20 0 + w ≤ 480 := by
  have := fb_sm_bound (f := M 18) (c := 1) (n := 480) (fun k hk => I.2.1 k hk)
  have := I.2.2.2.2.2.1
  omega
theorem spI_push (I : spI M0 M n R s w X) {z : Nat} (hz : z < 480) (h0 : M 18 z = 0) (hr : gRe n R s z) : w < 480 ∧ spI M0 (u2 (u2 M 18 z 1) 19 w z) n R s (w + 1) X := by
  obtain ⟨i1, i2, i3, i4, i5, i6, i7, i8⟩ := I
  have e18 : ∀ x, u2 (u2 M 18 z 1) 19 w z 18 x = if x = z then 1 else M 18 x := fun x => by
    rw [u2_ne (by omega)]
    by_cases e : x = z
    · subst e; rw [u2_eq, if_pos rfl]
    · rw [u2_ne (by omega), if_neg e]
  have eo : u2 (u2 M 18 z 1) 19 w z 18 = fun x => if x = z then 1 else M 18 x := funext e18
  have e19 : ∀ j, u2 (u2 M 18 z 1) 19 w z 19 j = if j = w then z else M 19 j := fun j => by
    by_cases e : j = w
    · subst e; rw [u2_eq, if_pos rfl]
    · rw [u2_ne (by omega), u2_ne (by omega), if_neg e]
  have c1 := fb_sm_upd (M 18) 1 hz
  rw [h0] at c1
  have hle : fb_sm (fun x => if x = z then 1 else M 18 x) 480 ≤ 480 * 1 := fb_sm_bound (fun k hk => by
    show (if k = z then 1 else M 18 k) ≤ 1
    split
    · omega
    · exact i2 k hk)
  have c2 := fb_sm_upd (fun i => M 18 i * pcx R i) (pcx R z) hz
  rw [show M 18 z * pcx R z = 0 by rw [h0, Nat.zero_mul]] at c2
  have c3 : fb_sm (fun i => (if i = z then 1 else M 18 i) * pcx R i) 480 = fb_sm (fun k => if k = z then pcx R z else M 18 k * pcx R k) 480 := fb_sm_cong (fun k hk => by
    by_cases e : k = z
    · subst e; rw [if_pos rfl, if_pos rfl, Nat.one_mul]
    · rw [if_neg e, if_neg e])
  have c4 : fb_sm (fun j => pcx R (if j = w then z else M 19 j)) w = fb_sm (fun j => pcx R (M 19 j)) w := fb_sm_cong (fun j hj => by rw [if_neg (by omega)])
  refine ⟨by omega, fun f i hf => by rw [u2_ne (by omega), u2_ne (by omega)]; exact i1 f i hf, fun x hx => by rw [e18]; split; omega; exact i2 x hx, fun x hx hx1 => ?_, ?_, fun j hj => ?_, ?_, ?_, fun x hx hx1 => ?_⟩
  · rw [e18] at hx1
    by_cases e : x = z
    · subst e; exact hr
    · rw [if_neg e] at hx1; exact i3 x hx hx1
  · rw [e18]
    split
    · rfl
    · exact i4
  · rw [e19, e18]
    by_cases e : j = w
    · rw [if_pos e, if_pos rfl]; exact ⟨hz, rfl⟩
    · rw [if_neg e]
      have := i5 j (by omega)
      refine ⟨this.1, ?_⟩
      split
      · rfl
      · exact this.2
  · rw [eo, u2_ne (by omega), u2_ne (by omega)]
    omega
  · simp only [e18, e19]
    rw [u2_ne (by omega), u2_ne (by omega), fb_sm_succ, c3, c4, if_pos rfl]
    omega
  · rw [e18] at hx1
    by_cases e : x = z
    · exact Or.inl ⟨w, by omega, by rw [e19, if_pos rfl, e]⟩
    · rw [if_neg e] at hx1
      rcases i8 x hx hx1 with ⟨j, h1, h2⟩ | h | h
      · exact Or.inl ⟨j, by omega, by rw [e19, if_neg (by omega)]; exact h2⟩
      · exact Or.inr (Or.inl h)
      · refine Or.inr (Or.inr (fun y hy => ?_))
        rw [e18]
        split
        · rfl
        · exact h y hy
theorem spI_pop (I : spI M0 M n R s (w + 1) (fun _ => False)) {x : Nat} (hx : M 19 w = x) : spI M0 (u2 (u2 M 20 0 (M 20 0 + 1)) 21 0 (M 21 0 + pcx R x)) n R s w (fun y => y = x) := by
  obtain ⟨i1, i2, i3, i4, i5, i6, i7, i8⟩ := I
  have e : ∀ f i, f ≠ 20 → f ≠ 21 → u2 (u2 M 20 0 (M 20 0 + 1)) 21 0 (M 21 0 + pcx R x) f i = M f i := fun f i h1 h2 => by rw [u2_ne (by omega), u2_ne (by omega)]
  have e18 : u2 (u2 M 20 0 (M 20 0 + 1)) 21 0 (M 21 0 + pcx R x) 18 = M 18 := funext fun i => e 18 i (by decide) (by decide)
  have e19 : u2 (u2 M 20 0 (M 20 0 + 1)) 21 0 (M 21 0 + pcx R x) 19 = M 19 := funext fun i => e 19 i (by decide) (by decide)
  unfold spI
  rw [e18, e19, u2_eq, u2_ne (by omega), u2_eq]
  rw [fb_sm_succ, hx] at i7
  refine ⟨fun f i hf => by rw [e f i (by omega) (by omega)]; exact i1 f i hf, i2, i3, i4, fun j hj => i5 j (by omega), by omega, by omega, fun y hy hy1 => ?_⟩
  rcases i8 y hy hy1 with ⟨j, h1, h2⟩ | h | h
  · by_cases ej : j = w
    · subst ej
      exact Or.inr (Or.inl (h2.symm.trans hx))
    · exact Or.inl ⟨j, by omega, h2⟩
  · exact h.elim
  · exact Or.inr (Or.inr h)
theorem spI_done {x : Nat} (I : spI M0 M n R s w (fun y => y = x)) (h : ∀ y, gE n R x y → M 18 y = 1) : spI M0 M n R s w (fun _ => False) := by
  obtain ⟨i1, i2, i3, i4, i5, i6, i7, i8⟩ := I
  refine ⟨i1, i2, i3, i4, i5, i6, i7, fun y hy hy1 => ?_⟩
  rcases i8 y hy hy1 with g | g | g
  · exact Or.inl g
  · subst g; exact Or.inr (Or.inr h)
  · exact Or.inr (Or.inr g)
/-- the knots of T: counted, their own sides that are gone in all -/
def lsT (R : Nat → Nat → Nat → Nat) (T : Nat → Bool) : Nat := fb_sm (fun i => nb (T i) * pcx R i) 480
def spT (M0 M : Nat → Nat → Nat) (R : Nat → Nat → Nat → Nat) (T : Nat → Bool) : Prop := (∀ f i, f < 18 ∨ 21 < f → M f i = M0 f i) ∧ (∀ x, x < 480 → M 18 x = nb (T x)) ∧ M 20 0 = fb_ct T 480 ∧ M 21 0 = lsT R T
theorem ct_sm (T : Nat → Bool) : ∀ n, fb_sm (fun x => nb (T x)) n = fb_ct T n := by
  intro n
  induction n with
  | zero => rfl
  | succ n ih =>
    rw [fb_sm_succ, fb_ct_succ, ih]
    cases T n <;> rfl
theorem spI_end (I : spI M0 M n R s 0 (fun _ => False)) (G : gOK n R) (hn : n ≤ 20) (h24 : ∀ r, r < n → R r 0 0 ≤ 24) (hs : gIn n R s) {T : Nat → Bool} (hT : ∀ x, T x = true ↔ gRe n R s x) : spT M0 M R T := by
  obtain ⟨i1, i2, i3, i4, i5, i6, i7, i8⟩ := I
  have hin : ∀ x, gIn n R x → x < 480 := fun x h => by
    have := h24 _ h.1
    have := h.1
    have := h.2
    omega
  have key : ∀ x, gRe n R s x → gIn n R x ∧ M 18 x = 1 := fun x h => h (fun y => gIn n R y ∧ M 18 y = 1) ⟨hs, i4⟩ (fun y z hy e => ⟨gE_in G hy.1 e, by
    rcases i8 y (hin y hy.1) hy.2 with ⟨j, h1, -⟩ | g | g
    · omega
    · exact g.elim
    · exact g z e⟩)
  have e18 : ∀ x, x < 480 → M 18 x = nb (T x) := fun x hx => by
    rcases z : T x with _ | _
    · have : ¬ M 18 x = 1 := fun g => by
        have := (hT x).mpr (i3 x hx g)
        rw [z] at this
        cases this
      have := i2 x hx
      show M 18 x = 0
      omega
    · exact (key x ((hT x).mp z)).2
  refine ⟨i1, e18, ?_, ?_⟩
  · rw [← ct_sm, show M 20 0 = fb_sm (M 18) 480 by omega]
    exact fb_sm_cong e18
  · have : fb_sm (fun j => pcx R (M 19 j)) 0 = 0 := rfl
    rw [show M 21 0 = fb_sm (fun i => M 18 i * pcx R i) 480 by omega]
    exact fb_sm_cong (fun k hk => by rw [e18 k hk])
end SP
