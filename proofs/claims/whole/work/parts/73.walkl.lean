/-! one twine: the way the walk takes, as lists -/
/-- a and b are neighbours in the list -/
def cE : List Nat → Nat → Nat → Prop
  | x :: y :: l, a, b => (x = a ∧ y = b ∨ x = b ∧ y = a) ∨ cE (y :: l) a b
  | _, _, _ => False
/-- no two neighbours twice -/
def tE : List Nat → Prop
  | x :: y :: l => ¬ cE (y :: l) x y ∧ tE (y :: l)
  | _ => True
theorem cE_sy : ∀ {l : List Nat} {a b : Nat}, cE l a b → cE l b a
  | [], _, _, h => h
  | [_], _, _, h => h
  | x :: y :: l, a, b, h => by
    rcases h with h | h
    · exact Or.inl (h.elim Or.inr Or.inl)
    · exact Or.inr (cE_sy h)
theorem cE_mem : ∀ {l : List Nat} {a b : Nat}, cE l a b → a ∈ l ∧ b ∈ l
  | [], _, _, h => h.elim
  | [_], _, _, h => h.elim
  | x :: y :: l, a, b, h => by
    rcases h with (⟨rfl, rfl⟩ | ⟨rfl, rfl⟩) | h
    · simp
    · simp
    · have := cE_mem h
      exact ⟨List.mem_cons_of_mem _ this.1, List.mem_cons_of_mem _ this.2⟩
theorem cE_suf : ∀ (p : List Nat) {l : List Nat} {a b : Nat}, cE l a b → cE (p ++ l) a b
  | [], _, _, _, h => h
  | [x], [], _, _, h => h.elim
  | [x], y :: l, _, _, h => Or.inr h
  | x :: y :: p, l, _, _, h => Or.inr (cE_suf (y :: p) h)
/-- where two parts of the list share nothing, one pair alone joins them -/
theorem cE_cut : ∀ (B : List Nat) {F : List Nat} {a b : Nat}, (∀ u ∈ B, u ∉ F) → a ∈ F → b ∉ F → cE (B ++ F) a b → ∃ B2 F2, B = B2 ++ [b] ∧ F = a :: F2
  | [], F, a, b, _, _, hb, h => absurd (cE_mem h).2 hb
  | [x], [], a, b, _, ha, _, _ => absurd ha (by simp)
  | [x], y :: l, a, b, hd, ha, hb, h => by
    rcases h with (⟨rfl, rfl⟩ | ⟨rfl, rfl⟩) | h
    · exact absurd ha (hd _ (by simp))
    · exact ⟨[], l, rfl, rfl⟩
    · exact absurd (cE_mem h).2 hb
  | x :: y :: B, F, a, b, hd, ha, hb, h => by
    rcases h with (⟨rfl, rfl⟩ | ⟨rfl, rfl⟩) | h
    · exact absurd ha (hd _ (by simp))
    · exact absurd ha (hd _ (by simp))
    · obtain ⟨B2, F2, e1, e2⟩ := cE_cut (y :: B) (fun u hu => hd u (List.mem_cons_of_mem _ hu)) ha hb h
      exact ⟨x :: B2, F2, by rw [e1]; rfl, e2⟩
/-- at each place, from a smaller neighbour the place itself is not reached -/
def gd : List Nat → Prop
  | x :: s :: l => (∀ y, y < s → cE (x :: s :: l) x y → ∃ Z : List Nat, y ∈ Z ∧ x ∉ Z ∧ ∀ a b, a ∈ Z → b ∉ Z → cE (x :: s :: l) a b → a = y ∧ b = x) ∧ gd (s :: l)
  | _ => True
def trl (t : Nat) : List Nat → List Nat
  | [] => []
  | s :: l => t :: s :: l
def frs (g0 : Nat → Nat → Bool) : List (Nat × List Nat) → List Nat → Prop
  | (c, F) :: (v, F') :: r, S => ((∃ B, S = B ++ F ∧ ∀ u ∈ B, u ∉ F) ∧ c ∉ F ∧ v ∉ F ∧ (∃ B, F = B ++ F') ∧ ∀ y, y < c → g0 v y = true → cE (v :: r.map Prod.fst) v y ∨ ∃ F2, F = y :: F2) ∧ frs g0 ((v, F') :: r) S
  | [(_, F)], _ => F = []
  | [], _ => True
def rmE (g : Nat → Nat → Bool) (x y : Nat) : Nat → Nat → Bool := fun a b => g a b && !(decide (a = x ∧ b = y) || decide (a = y ∧ b = x))
def pnd (g0 : Nat → Nat → Bool) (sv S : List Nat) (t : Nat) (pf : List Nat) : Prop := ∀ s l, S = s :: l → ∃ B pre low, S = B ++ pf ∧ (∀ u ∈ B, u ∉ pf) ∧ s ∉ pf ∧ t ∉ pf ∧ sv = pre ++ (t :: low) ∧ ∀ y, y < s → g0 t y = true → cE (t :: low) t y ∨ ∃ F2, pf = y :: F2
/-- the invariant of the walk: x is the top, r the frames below -/
def hz (g0 g : Nat → Nat → Bool) (x : Nat) (F : List Nat) (r : List (Nat × List Nat)) (S : List Nat) (t : Nat) (pf : List Nat) : Prop :=
  (∀ a b, g a b = g b a) ∧ (∀ a b, g a b = true → a ≠ b ∧ a < 480 ∧ b < 480) ∧ (∀ u ∈ S, ∀ v, g u v = false) ∧ (∀ v, fb_ct (g v) 480 % 2 = ((if v = x then 1 else 0) + (if v = t then 1 else 0)) % 2) ∧
  (∀ a b, g0 a b = true ↔ g a b = true ∨ cE (x :: r.map Prod.fst) a b ∨ cE (trl t S) a b) ∧ (∀ a b, g a b = true → ¬ cE (x :: r.map Prod.fst) a b ∧ ¬ cE (trl t S) a b) ∧ (∀ a b, cE (x :: r.map Prod.fst) a b → ¬ cE (trl t S) a b) ∧ (tE (x :: r.map Prod.fst) ∧ tE (trl t S)) ∧ frs g0 ((x, F) :: r) S ∧ pnd g0 (x :: r.map Prod.fst) S t pf ∧ gd S
theorem ct_off {p : Nat → Bool} {i : Nat} (hp : p i = true) : ∀ n, i < n → fb_ct (fun j => p j && !decide (j = i)) n + 1 = fb_ct p n := by
  have lo : ∀ n, n ≤ i → fb_ct (fun j => p j && !decide (j = i)) n = fb_ct p n := by
    intro n
    induction n with
    | zero => intro _; rfl
    | succ n ih =>
      intro h
      rw [fb_ct_succ, fb_ct_succ, ih (by omega), show (p n && !decide (n = i)) = p n by rw [decide_eq_false (by omega)]; simp]
  intro n
  induction n with
  | zero => intro h; omega
  | succ n ih =>
    intro h
    by_cases e : i = n
    · subst e
      rw [fb_ct_succ, fb_ct_succ, lo i (Nat.le_refl _), hp]
      simp
    · have := ih (by omega)
      rw [fb_ct_succ, fb_ct_succ, show (p n && !decide (n = i)) = p n by rw [decide_eq_false (by omega)]; simp]
      omega
theorem rmE_T {g : Nat → Nat → Bool} {x y a b : Nat} : rmE g x y a b = true ↔ g a b = true ∧ ¬ ((a = x ∧ b = y) ∨ (a = y ∧ b = x)) := by
  unfold rmE
  simp only [Bool.and_eq_true, Bool.not_eq_true', Bool.or_eq_false_iff, decide_eq_false_iff_not]
  constructor
  · rintro ⟨h1, h2, h3⟩
    exact ⟨h1, fun h => h.elim h2 h3⟩
  · rintro ⟨h1, h2⟩
    exact ⟨h1, fun h => h2 (Or.inl h), fun h => h2 (Or.inr h)⟩
section HZ
variable {g0 g : Nat → Nat → Bool} {x : Nat} {F : List Nat} {r : List (Nat × List Nat)} {S : List Nat} {t : Nat} {pf : List Nat}
theorem rmE_ct {y : Nat} (hs : ∀ a b, g a b = g b a) (hy : g x y = true) (hx : x < 480) (hy2 : y < 480) (hne : x ≠ y) (v : Nat) : fb_ct (rmE g x y v) 480 + (if v = x then 1 else 0) + (if v = y then 1 else 0) = fb_ct (g v) 480 := by
  by_cases e1 : v = x
  · subst e1
    rw [if_pos rfl, if_neg hne]
    have := ct_off hy 480 hy2
    rw [show rmE g v y v = fun j => g v j && !decide (j = y) from funext fun j => by
      unfold rmE
      by_cases e : j = y
      · subst e; simp
      · simp [e, hne]]
    omega
  · by_cases e2 : v = y
    · subst e2
      rw [if_neg e1, if_pos rfl]
      have := ct_off (p := g v) (i := x) (by rw [hs]; exact hy) 480 hx
      rw [show rmE g x v v = fun j => g v j && !decide (j = x) from funext fun j => by
        unfold rmE
        by_cases e : j = x
        · subst e; simp
        · simp [e, e1]]
      omega
    · rw [if_neg e1, if_neg e2, show rmE g x y v = g v from funext fun j => by
        unfold rmE
        simp [e1, e2], Nat.add_zero]
theorem trl_x {a b : Nat} (hx : a ∉ S) (h : cE (trl t S) a b) : a = t ∧ ∃ F2, S = b :: F2 := by
  match S, hx, h with
  | s :: l, hx, h =>
    rcases h with (⟨h1, h2⟩ | ⟨h1, h2⟩) | h
    · exact ⟨h1.symm, l, by rw [h2]⟩
    · exact absurd (by rw [h2]; simp) hx
    · exact absurd (cE_mem h).1 hx
/-- a push -/
theorem hz_push (I : hz g0 g x F r S t pf) {y : Nat} (hy : g x y = true) (hm : ∀ z, z < y → g x z = false) : hz g0 (rmE g x y) y S ((x, F) :: r) S t pf := by
  obtain ⟨i1, i2, i3, i4, i5, i6, i7, ⟨i8, i9⟩, i10, i11, i12⟩ := I
  have hne := i2 x y hy
  have hxS : x ∉ S := fun z => by have := i3 x z y; rw [hy] at this; cases this
  have hyS : y ∉ S := fun z => by have := i3 y z x; rw [i1, hy] at this; cases this
  refine ⟨fun a b => ?_, fun a b h => i2 a b (rmE_T.mp h).1, fun u hu v => ?_, fun v => ?_, fun a b => ?_, fun a b h => ?_, fun a b h => ?_, ⟨⟨(i6 y x (by rw [i1]; exact hy)).1, i8⟩, i9⟩, ⟨⟨⟨[], rfl, fun u hu => absurd hu (by simp)⟩, hyS, hxS, ?_, fun z hz hg => ?_⟩, i10⟩, fun s l e => ?_, i12⟩
  · unfold rmE
    rw [i1 a b, Bool.or_comm]
    simp only [And.comm]
  · unfold rmE
    rw [i3 u hu v]
    rfl
  · have q1 := rmE_ct i1 hy hne.2.1 hne.2.2 hne.1 v
    have q2 := i4 v
    generalize (if v = x then 1 else 0) = ix at q1 q2
    generalize (if v = y then 1 else 0) = iy at q1 ⊢
    generalize (if v = t then 1 else 0) = it at q2 ⊢
    generalize fb_ct (rmE g x y v) 480 = f1 at q1 ⊢
    generalize fb_ct (g v) 480 = f2 at q1 q2
    omega
  · rw [i5 a b, rmE_T]
    show _ ↔ _ ∨ ((y = a ∧ x = b ∨ y = b ∧ x = a) ∨ cE (x :: r.map Prod.fst) a b) ∨ _
    constructor
    · rintro (h | h | h)
      · by_cases e : (a = x ∧ b = y) ∨ (a = y ∧ b = x)
        · refine Or.inr (Or.inl (Or.inl ?_))
          rcases e with ⟨rfl, rfl⟩ | ⟨rfl, rfl⟩
          · exact Or.inr ⟨rfl, rfl⟩
          · exact Or.inl ⟨rfl, rfl⟩
        · exact Or.inl ⟨h, e⟩
      · exact Or.inr (Or.inl (Or.inr h))
      · exact Or.inr (Or.inr h)
    · rintro (h | ((⟨rfl, rfl⟩ | ⟨rfl, rfl⟩) | h) | h)
      · exact Or.inl h.1
      · exact Or.inl (by rw [i1]; exact hy)
      · exact Or.inl hy
      · exact Or.inr (Or.inl h)
      · exact Or.inr (Or.inr h)
  · obtain ⟨h1, h2⟩ := rmE_T.mp h
    refine ⟨fun z => ?_, (i6 a b h1).2⟩
    rcases z with (⟨rfl, rfl⟩ | ⟨rfl, rfl⟩) | z
    · exact h2 (Or.inr ⟨rfl, rfl⟩)
    · exact h2 (Or.inl ⟨rfl, rfl⟩)
    · exact (i6 a b h1).1 z
  · rcases h with (⟨rfl, rfl⟩ | ⟨rfl, rfl⟩) | h
    · exact (i6 _ _ (by rw [i1]; exact hy)).2
    · exact (i6 _ _ hy).2
    · exact i7 a b h
  · match r, i10 with
    | [], i10 => exact ⟨S, by rw [show F = [] from i10, List.append_nil]⟩
    | (v, F') :: r, i10 =>
      obtain ⟨⟨⟨B, e, -⟩, -⟩, -⟩ := i10
      exact ⟨B, e⟩
  · rcases (i5 x z).mp hg with h | h | h
    · rw [hm z hz] at h; cases h
    · exact Or.inl h
    · exact Or.inr (trl_x hxS h).2
  · obtain ⟨B, pre, low, h1, h2, h3, h4, h5, h6⟩ := i11 s l e
    exact ⟨B, y :: pre, low, h1, h2, h3, h4, by show y :: (x :: r.map Prod.fst) = _; rw [h5]; rfl, h6⟩
/-- the stuck one is t -/
theorem hz_stuck (I : hz g0 g x F r S t pf) (h0 : ∀ z, g x z = false) : x = t := by
  have := I.2.2.2.1 x
  rw [show g x = fun _ => false from funext h0, if_pos rfl] at this
  have e : fb_ct (fun _ => false) 480 = 0 := by
    rw [← ct_sm]
    exact fb_sm_z 480
  rw [e] at this
  by_cases h : x = t
  · exact h
  · rw [if_neg h] at this
    omega
theorem trl_S (h : S ≠ []) : trl t S = t :: S := by
  match S, h with
  | s :: l, _ => rfl
/-- what a pop tells -/
theorem hz_gd (I : hz g0 g x F r S t pf) (h0 : ∀ z, g x z = false) : gd (x :: S) ∧ tE (x :: S) ∧ ∀ a b, cE (trl t S) a b ↔ cE (x :: S) a b := by
  have ex := hz_stuck I h0
  subst ex
  obtain ⟨i1, i2, i3, i4, i5, i6, i7, ⟨i8, i9⟩, i10, i11, i12⟩ := I
  match S, i5, i7, i9, i11, i12 with
  | [], _, _, _, _, _ => exact ⟨trivial, trivial, fun a b => Iff.rfl⟩
  | s :: l, i5, i7, i9, i11, i12 =>
    refine ⟨⟨fun y hy hc => ?_, i12⟩, i9, fun a b => Iff.rfl⟩
    obtain ⟨B, pre, low, h1, h2, h3, h4, h5, h6⟩ := i11 s l rfl
    rcases h6 y hy ((i5 x y).mpr (Or.inr (Or.inr hc))) with g | ⟨F2, g⟩
    · exact absurd hc (i7 x y (by rw [h5]; exact cE_suf pre g))
    · refine ⟨pf, by rw [g]; simp, h4, fun a b ha hb hab => ?_⟩
      have hd : ∀ u ∈ x :: B, u ∉ pf := fun u hu => by
        rcases List.mem_cons.mp hu with e | e
        · rw [e]; exact h4
        · exact h2 u e
      rw [h1] at hab hc
      obtain ⟨B2, F3, e1, e2⟩ := cE_cut (x :: B) hd ha hb hab
      obtain ⟨B4, F5, e3, e4⟩ := cE_cut (x :: B) hd (a := y) (b := x) (by rw [g]; simp) h4 (cE_sy hc)
      rw [e1] at e3
      rw [e2] at e4
      exact ⟨(List.cons.inj e4).1, by
        have := List.append_inj_right' e3 rfl
        exact (List.cons.inj this).1⟩
theorem frs_pop : ∀ (r : List (Nat × List Nat)) {S : List Nat} {x : Nat}, frs g0 r S → (∀ q ∈ r, x ∉ q.2) → frs g0 r (x :: S)
  | [], _, _, _, _ => trivial
  | [(_, _)], _, _, h, _ => h
  | (c, F) :: (v, F') :: r, S, x, ⟨⟨⟨B, e, h1⟩, h2⟩, h3⟩, hx => ⟨⟨⟨x :: B, by rw [e]; rfl, fun u hu => by
      rcases List.mem_cons.mp hu with z | z
      · rw [z]; exact hx (c, F) (by simp)
      · exact h1 u z⟩, h2⟩, frs_pop ((v, F') :: r) h3 (fun q hq => hx q (List.mem_cons_of_mem _ hq))⟩
theorem frs_suf : ∀ (r : List (Nat × List Nat)) {S : List Nat} {c : Nat} {F : List Nat}, frs g0 ((c, F) :: r) S → ∀ q ∈ r, ∃ B, F = B ++ q.2
  | [], _, _, _, _, q, hq => absurd hq (by simp)
  | (v, F') :: r, S, c, F, ⟨⟨_, _, _, ⟨B, e⟩, _⟩, h3⟩, q, hq => by
    rcases List.mem_cons.mp hq with z | z
    · rw [z]; exact ⟨B, e⟩
    · obtain ⟨B2, e2⟩ := frs_suf r h3 q z
      exact ⟨B ++ B2, by rw [e, e2, List.append_assoc]⟩
/-- a pop -/
theorem hz_pop {v : Nat} {F' : List Nat} (I : hz g0 g x F ((v, F') :: r) S t pf) (h0 : ∀ z, g x z = false) : hz g0 g v F' r (x :: S) v F := by
  have ex := hz_stuck I h0
  obtain ⟨j1, j2, j3⟩ := hz_gd I h0
  obtain ⟨i1, i2, i3, i4, i5, i6, i7, ⟨i8, i9⟩, i10, i11, i12⟩ := I
  have i10' := i10
  obtain ⟨⟨⟨B, f1, f2⟩, f3, f4, f5, f6⟩, f7⟩ := i10
  have hvx : ∀ a b, cE (trl v (x :: S)) a b ↔ (v = a ∧ x = b ∨ v = b ∧ x = a) ∨ cE (trl t S) a b := fun a b => by
    rw [j3]
    exact Iff.rfl
  have hsv : ∀ a b, cE (x :: ((v, F') :: r).map Prod.fst) a b ↔ (x = a ∧ v = b ∨ x = b ∧ v = a) ∨ cE (v :: r.map Prod.fst) a b := fun a b => Iff.rfl
  refine ⟨i1, i2, fun u hu w => ?_, fun w => ?_, fun a b => ?_, fun a b h => ?_, fun a b h => ?_, ⟨i8.2, ⟨fun z => ?_, j2⟩⟩, frs_pop _ f7 (fun q hq => ?_), fun s l e => ?_, j1⟩
  · rcases List.mem_cons.mp hu with z | z
    · rw [z]; exact h0 w
    · exact i3 u z w
  · rw [i4 w, ex]
    generalize (if w = t then 1 else 0) = ix
    generalize (if w = v then 1 else 0) = iy
    omega
  · rw [i5 a b, hvx, hsv]
    constructor
    · rintro (h | ((⟨rfl, rfl⟩ | ⟨rfl, rfl⟩) | h) | h)
      · exact Or.inl h
      · exact Or.inr (Or.inr (Or.inl (Or.inr ⟨rfl, rfl⟩)))
      · exact Or.inr (Or.inr (Or.inl (Or.inl ⟨rfl, rfl⟩)))
      · exact Or.inr (Or.inl h)
      · exact Or.inr (Or.inr (Or.inr h))
    · rintro (h | h | (⟨rfl, rfl⟩ | ⟨rfl, rfl⟩) | h)
      · exact Or.inl h
      · exact Or.inr (Or.inl (Or.inr h))
      · exact Or.inr (Or.inl (Or.inl (Or.inr ⟨rfl, rfl⟩)))
      · exact Or.inr (Or.inl (Or.inl (Or.inl ⟨rfl, rfl⟩)))
      · exact Or.inr (Or.inr h)
  · obtain ⟨k1, k2⟩ := i6 a b h
    rw [hsv] at k1
    rw [hvx]
    refine ⟨fun z => k1 (Or.inr z), fun z => ?_⟩
    rcases z with (⟨rfl, rfl⟩ | ⟨rfl, rfl⟩) | z
    · exact k1 (Or.inl (Or.inr ⟨rfl, rfl⟩))
    · exact k1 (Or.inl (Or.inl ⟨rfl, rfl⟩))
    · exact k2 z
  · have k := i7 a b (by rw [hsv]; exact Or.inr h)
    rw [hvx]
    intro z
    rcases z with (⟨rfl, rfl⟩ | ⟨rfl, rfl⟩) | z
    · exact i8.1 (cE_sy h)
    · exact i8.1 h
    · exact k z
  · exact i7 x v (Or.inl (Or.inl ⟨rfl, rfl⟩)) ((j3 x v).mpr (cE_sy z))
  · rcases List.mem_cons.mp hq with z | z
    · obtain ⟨B2, e2⟩ := f5
      rw [z]
      exact fun hx => f3 (by rw [e2]; exact List.mem_append_right _ hx)
    · obtain ⟨B2, e2⟩ := frs_suf _ i10' q (List.mem_cons_of_mem _ z)
      exact fun hx => f3 (by rw [e2]; exact List.mem_append_right _ hx)
  · obtain ⟨e1, e2⟩ := List.cons.inj e
    rw [← e1]
    exact ⟨x :: B, [], r.map Prod.fst, by rw [f1]; rfl, fun u hu => by
      rcases List.mem_cons.mp hu with z | z
      · rw [z]; exact f3
      · exact f2 u z, f3, f4, rfl, f6⟩
/-- the last pop -/
theorem hz_last (I : hz g0 g x F [] S t pf) (h0 : ∀ z, g x z = false) : gd (x :: S) ∧ tE (x :: S) ∧ (∀ a b, g0 a b = true ↔ g a b = true ∨ cE (x :: S) a b) ∧ (∀ u ∈ x :: S, ∀ v, g u v = false) := by
  obtain ⟨j1, j2, j3⟩ := hz_gd I h0
  refine ⟨j1, j2, fun a b => ?_, fun u hu v => ?_⟩
  · rw [I.2.2.2.2.1 a b, j3]
    constructor
    · rintro (h | h | h)
      · exact Or.inl h
      · exact h.elim
      · exact Or.inr h
    · rintro (h | h)
      · exact Or.inl h
      · exact Or.inr (Or.inr h)
  · rcases List.mem_cons.mp hu with z | z
    · rw [z]; exact h0 v
    · exact I.2.2.1 u z v
end HZ
theorem hz_init {g0 : Nat → Nat → Bool} {x t : Nat} (h1 : ∀ a b, g0 a b = g0 b a) (h2 : ∀ a b, g0 a b = true → a ≠ b ∧ a < 480 ∧ b < 480) (h3 : ∀ v, fb_ct (g0 v) 480 % 2 = ((if v = x then 1 else 0) + (if v = t then 1 else 0)) % 2) : hz g0 g0 x [] [] [] t [] :=
  ⟨h1, h2, fun u hu => absurd hu (by simp), h3, fun a b => ⟨Or.inl, fun h => h.elim id (fun z => z.elim False.elim False.elim)⟩, fun a b _ => ⟨fun z => z.elim, fun z => z.elim⟩, fun a b h => h.elim, ⟨trivial, trivial⟩, rfl, fun s l e => (List.cons_ne_nil s l e.symm).elim, trivial⟩
