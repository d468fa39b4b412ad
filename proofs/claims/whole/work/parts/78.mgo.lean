/-! one twine, the model: which knot is next, pure -/
theorem sm_lt {f g : Nat → Nat} {i n : Nat} (h : ∀ k, k < n → f k ≤ g k) (hi : i < n) (h2 : f i < g i) : fb_sm f n < fb_sm g n := by
  have h1 := fb_sm_upd g (f i) hi
  have h3 : fb_sm f n ≤ fb_sm (fun k => if k = i then f i else g k) n := fb_sm_le (fun k hk => by
    by_cases e : k = i
    · rw [if_pos e, e]; exact Nat.le_refl _
    · rw [if_neg e]; exact h k hk)
  omega
theorem pcn_pos {g c : Nat} (h : g.testBit c = true) (hc : c < 24) : 1 ≤ pcn g := fb_ct_pos.mpr ⟨c, hc, h⟩
/-- x and y are joined by a gone side: knot i of row j hangs in knot q above -/
def sdE (R : Nat → Nat → Nat → Nat) (x y j i q : Nat) : Prop := ((x = 24 * j + i ∧ y = 24 * (j - 1) + q) ∨ (y = 24 * j + i ∧ x = 24 * (j - 1) + q)) ∧ 1 ≤ j ∧ i < 24 ∧ q < 24 ∧ igo (R j) i q = true
def tiR (R : Nat → Nat → Nat → Nat) (j i q : Nat) : Nat → Nat → Nat → Nat := uR R j (sto (R j) 1 i q)
section GO
variable {P : Nat → Nat → Nat} {R0 R : Nat → Nat → Nat → Nat} {T : Nat → Bool} {x y s j i q : Nat} {l : List Nat}
theorem sdE_ex {n : Nat} (hn : n ≤ 20) (hok : ∀ r, r < n → rOK (R r)) (hx : gIn n R x) (h : gE n R x y) : ∃ j i q, sdE R x y j i q ∧ j < n ∧ i < R j 0 0 := by
  rcases h with ⟨h1, h2⟩ | ⟨h1, h2, h3, h4⟩
  · have := (hok _ hx.1).1
    have := hx.2
    exact ⟨x / 24, x % 24, y % 24, ⟨Or.inl ⟨by omega, by omega⟩, by omega, by omega, by omega, h2⟩, hx.1, hx.2⟩
  · exact ⟨y / 24, y % 24, x % 24, ⟨Or.inr ⟨by omega, by omega⟩, by omega, by omega, by omega, h4⟩, h2, h3⟩
theorem sdE_gE {n : Nat} (h : sdE R x y j i q) (hj : j < n) (hi : i < R j 0 0) : gE n R x y ∧ gE n R y x := by
  obtain ⟨h1, h2, h3, h4, h5⟩ := h
  have e1 := gE_up (n := n) h3 h4 h2 h5
  have e2 : gE n R (24 * (j - 1) + q) (24 * j + i) := by
    have := gE_dn (n := n) (R := R) (r := j - 1) (k := q) (q := i) h4 h3 (by omega) (by rw [show j - 1 + 1 = j by omega]; exact hi) (by rw [show j - 1 + 1 = j by omega]; exact h5)
    rwa [show j - 1 + 1 = j by omega] at this
  rcases h1 with ⟨a, b⟩ | ⟨a, b⟩
  · rw [a, b]; exact ⟨e1, e2⟩
  · rw [a, b]; exact ⟨e2, e1⟩
/-- the rest of the way is L -/
def mdI (P : Nat → Nat → Nat) (R0 R : Nat → Nat → Nat → Nat) (T : Nat → Bool) (L : List Nat) : Prop := mdR (P 5 0) R0 R T ∧ gd L ∧ tE L ∧ (∀ a b, gb (P 5 0) R T a b = true ↔ cE L a b) ∧ lsT R T + 1 = L.length
/-- what always holds: the panel at first, its hole -/
def mdH (P : Nat → Nat → Nat) (R0 : Nat → Nat → Nat → Nat) (T : Nat → Bool) : Prop := kP P R0 ∧ ∀ x, T x = true → gIn (P 5 0) R0 x
theorem kP_md (K : kP P R0) (M : mdR (P 5 0) R0 R T) : kP P R := by
  obtain ⟨a1, a2, a3, a4, a5, a6, a7⟩ := K
  refine ⟨a1, a2, M.2.1, mdR_ok M a4, a5, a6, fun r hr => ?_⟩
  have e4 : ∀ k, R (r + 1) 4 k = R0 (r + 1) 4 k := fun k => M.1 _ _ _ (by decide)
  have e5 : ∀ k, R (r + 1) 5 k = R0 (r + 1) 5 k := fun k => M.1 _ _ _ (by decide)
  have e0 : R (r + 1) 0 0 = R0 (r + 1) 0 0 := M.1 _ _ _ (by decide)
  have eh : ∀ k q, hgb (R (r + 1)) k q = hgb (R0 (r + 1)) k q := fun k q => by unfold hgb; rw [e4, e5]
  rw [e0]
  refine ⟨fun q => ?_, ?_⟩
  · rw [show (fun j => nb (hgb (R (r + 1)) j q)) = fun j => nb (hgb (R0 (r + 1)) j q) from funext fun j => by rw [eh]]
    exact (a7 r hr).1 q
  · rw [show (fun j => R (r + 1) 5 j) = fun j => R0 (r + 1) 5 j from funext e5]
    exact (a7 r hr).2
theorem md_T (H : mdH P R0 T) (M : mdR (P 5 0) R0 R T) (hx : T x = true) : gIn (P 5 0) R x ∧ x < 480 := ⟨mdR_in M (H.2 x hx), gIn_480 H.1.2.1 M.2.1 (mdR_in M (H.2 x hx))⟩
theorem mdI_T (I : mdI P R0 R T (x :: s :: l)) : T x = true ∧ T s = true ∧ gE (P 5 0) R x s ∧ gE (P 5 0) R s x := by
  have h1 := gb_T.mp ((I.2.2.2.1 x s).mpr (Or.inl (Or.inl ⟨rfl, rfl⟩)))
  have h2 := gb_T.mp ((I.2.2.2.1 s x).mpr (Or.inl (Or.inr ⟨rfl, rfl⟩)))
  exact ⟨h1.1, h2.1, h1.2, h2.2⟩
/-- a side tied: what is left -/
theorem ti_gb (H : mdH P R0 T) (M : mdR (P 5 0) R0 R T) (hx : T x = true) (hy : T y = true) (D : sdE R x y j i q) (hj : j < P 5 0) : mdR (P 5 0) R0 (tiR R j i q) T ∧ (∀ a b, gb (P 5 0) (tiR R j i q) T a b = rmE (gb (P 5 0) R T) x y a b) ∧ lsT (tiR R j i q) T + 1 = lsT R T := by
  obtain ⟨h1, h2, h3, h4, h5⟩ := D
  have ht : T (24 * j + i) = true := by
    rcases h1 with ⟨a, -⟩ | ⟨a, -⟩
    · rw [← a]; exact hx
    · rw [← a]; exact hy
  obtain ⟨m1, m2⟩ := gb_tie M h2 h3 h4 h5 ht hj
  refine ⟨m1, fun a b => ?_, ls_tie h3 h5 ht (md_T H M ht).2 (M.2.1 j hj)⟩
  show gb (P 5 0) (uR R j (sto (R j) 1 i q)) T a b = _
  rw [m2 a b]
  rcases h1 with ⟨e1, e2⟩ | ⟨e1, e2⟩
  · rw [e1, e2]
  · rw [e1, e2, rmE_sw]
/-- the right knot: what is left is the rest -/
theorem ti_yes (H : mdH P R0 T) (I : mdI P R0 R T (x :: s :: l)) (D : sdE R x s j i q) (hj : j < P 5 0) : mdI P R0 (tiR R j i q) T (s :: l) := by
  obtain ⟨t1, t2, -, -⟩ := mdI_T I
  obtain ⟨i1, i2, i3, i4, i5⟩ := I
  obtain ⟨m1, m2, m3⟩ := ti_gb H i1 t1 t2 D hj
  refine ⟨m1, i2.2, i3.2, fun a b => ?_, by rw [List.length_cons] at i5; omega⟩
  rw [m2, rmE_T, i4]
  constructor
  · rintro ⟨h | h, h2⟩
    · rcases h with ⟨a1, a2⟩ | ⟨a1, a2⟩
      · exact absurd (Or.inl ⟨a1.symm, a2.symm⟩) h2
      · exact absurd (Or.inr ⟨a2.symm, a1.symm⟩) h2
    · exact h
  · intro h
    refine ⟨Or.inr h, ?_⟩
    rintro (⟨rfl, rfl⟩ | ⟨rfl, rfl⟩)
    · exact i3.1 h
    · exact i3.1 (cE_sy h)
/-- a wrong knot: from there not all is reached -/
theorem ti_no (H : mdH P R0 T) (I : mdI P R0 R T (x :: s :: l)) (D : sdE R x y j i q) (hj : j < P 5 0) (hy : y < s) (hc : cE (x :: s :: l) x y) {T1 : Nat → Bool} (hT : hTr P (tiR R j i q) y T1) : ¬ lsT (tiR R j i q) T1 = l.length := by
  obtain ⟨t1, t2, t3, t4⟩ := mdI_T I
  obtain ⟨i1, i2, i3, i4, i5⟩ := I
  have ty : T y = true := i1.2.2.2 x y t1 (gb_T.mp ((i4 x y).mpr hc)).2
  obtain ⟨m1, m2, m3⟩ := ti_gb H i1 t1 ty D hj
  obtain ⟨Z, z1, z2, z3⟩ := i2.1 y hy hc
  have hre : ∀ u, T1 u = true → gRe (P 5 0) (tiR R j i q) y u := fun u hu => by
    by_cases e : gsx P (tiR R j i q) y = 0
    · have := hT.1 e u
      rw [hu] at this
      cases this
    · exact (hT.2 e u).mp hu
  have hin : ∀ u, gRe (P 5 0) (tiR R j i q) y u → T u = true ∧ u ∈ Z := fun u hu => hu (fun w => T w = true ∧ w ∈ Z) ⟨ty, z1⟩ (fun u w hu e => by
    have hw := m1.2.2.2 u w hu.1 e
    refine ⟨hw, ?_⟩
    have hg := gb_T.mpr ⟨hu.1, e⟩
    rw [m2, rmE_T, i4] at hg
    refine Decidable.byContradiction fun hz => hg.2 (Or.inr ?_)
    exact z3 u w hu.2 hz hg.1)
  have hx1 : T1 x = false := by
    rcases e : T1 x with _ | _
    · rfl
    · exact absurd (hin x (hre x e)).2 z2
  have gsx2 : ∀ a b, (a = x ∧ b = s) ∨ (a = s ∧ b = x) → gb (P 5 0) (tiR R j i q) T a b = true := fun a b h => by
    rw [m2, rmE_T, i4]
    have hne := gb_ir H.1.2.1 i1.2.1 (fun u hu => (md_T H i1 hu).1) i1.2.2.2 ((i4 x s).mpr (Or.inl (Or.inl ⟨rfl, rfl⟩)))
    rcases h with ⟨rfl, rfl⟩ | ⟨rfl, rfl⟩
    · exact ⟨Or.inl (Or.inl ⟨rfl, rfl⟩), fun z => by rcases z with ⟨-, z⟩ | ⟨z, z5⟩ <;> omega⟩
    · exact ⟨Or.inl (Or.inr ⟨rfl, rfl⟩), fun z => by rcases z with ⟨z, z5⟩ | ⟨z, z5⟩ <;> omega⟩
  have hs1 : T1 s = false := by
    rcases e : T1 s with _ | _
    · rfl
    · exact absurd (hin x (gRe.st (hre s e) (gb_T.mp (gsx2 s x (Or.inr ⟨rfl, rfl⟩))).2)).2 z2
  have gxs := (gb_T.mp (gsx2 x s (Or.inl ⟨rfl, rfl⟩))).2
  obtain ⟨jo, io, qo, ⟨o1, o2, o3, o4, o5⟩, oj, oi⟩ := sdE_ex H.1.2.1 m1.2.1 (md_T H m1 t1).1 gxs
  have ho : T (24 * jo + io) = true ∧ T1 (24 * jo + io) = false := by
    rcases o1 with ⟨a, -⟩ | ⟨a, -⟩
    · rw [← a]; exact ⟨t1, hx1⟩
    · rw [← a]; exact ⟨t2, hs1⟩
  have h480 := (md_T H m1 ho.1).2
  have hb := igo_hg o5
  have hp : 1 ≤ pcx (tiR R j i q) (24 * jo + io) := by
    unfold pcx
    rw [show (24 * jo + io) / 24 = jo by omega, show (24 * jo + io) % 24 = io by omega]
    have o6 := o5
    unfold igo at o6
    rw [Bool.and_eq_true] at o6
    exact pcn_pos o6.2 (by omega)
  have hlt : lsT (tiR R j i q) T1 < lsT (tiR R j i q) T := sm_lt (i := 24 * jo + io) (fun k _ => by
    refine Nat.mul_le_mul_right _ ?_
    rcases e : T1 k with _ | _
    · exact Nat.zero_le _
    · rw [(hin k (hre k e)).1]; exact Nat.le_refl _) h480 (by
    show nb (T1 (24 * jo + io)) * _ < nb (T (24 * jo + io)) * _
    rw [ho.1, ho.2]
    show 0 * _ < 1 * _
    omega)
  rw [List.length_cons, List.length_cons] at i5
  omega
/-- from the right one all is reached -/
theorem ti_all (H : mdH P R0 T) (I : mdI P R0 R T (s :: l)) (ts : T s = true) {T1 : Nat → Bool} (hT : hTr P R s T1) : lsT R T1 = l.length := by
  obtain ⟨i1, i2, i3, i4, i5⟩ := I
  have K := kP_md H.1 i1
  have hsub : ∀ u, T1 u = true → T u = true := fun u hu => by
    have : gRe (P 5 0) R s u := by
      by_cases e : gsx P R s = 0
      · have := hT.1 e u
        rw [hu] at this
        cases this
      · exact (hT.2 e u).mp hu
    exact this (fun w => T w = true) ts (fun u w hu e => i1.2.2.2 u w hu e)
  have hle : lsT R T1 ≤ lsT R T := fb_sm_le (fun k _ => by
    refine Nat.mul_le_mul_right _ ?_
    rcases e : T1 k with _ | _
    · exact Nat.zero_le _
    · rw [hsub k e]; exact Nat.le_refl _)
  rw [List.length_cons] at i5
  match l, i2, i3, i4, i5 with
  | [], _, _, _, i5 => rw [List.length_nil] at i5 ⊢; omega
  | a :: l, i2, i3, i4, i5 =>
    have hg : gb (P 5 0) R T s a = true := (i4 s a).mpr (Or.inl (Or.inl ⟨rfl, rfl⟩))
    have ha := (md_T H i1 (i1.2.2.2 s a ts (gb_T.mp hg).2)).2
    have hne : ¬ gsx P R s = 0 := fun z => by
      have := gb_ct H.1.2.1 i1.2.1 K.2.2.2.1 (md_T H i1 ts).1 ts
      rw [z] at this
      have h2 := fb_ct_pos.mpr ⟨a, ha, hg⟩
      omega
    have hin : ∀ (l2 : List Nat) (u : Nat), gRe (P 5 0) R s u → (∀ a b, cE (u :: l2) a b → gb (P 5 0) R T a b = true) → ∀ v, v ∈ u :: l2 → gRe (P 5 0) R s v := by
      intro l2
      induction l2 with
      | nil =>
        intro u hu _ v hv
        rw [List.mem_singleton.mp hv]; exact hu
      | cons c l2 ih =>
        intro u hu hc v hv
        rcases List.mem_cons.mp hv with e | e
        · rw [e]; exact hu
        · exact ih c (gRe.st hu (gb_T.mp (hc u c (Or.inl (Or.inl ⟨rfl, rfl⟩)))).2) (fun a b h => hc a b (Or.inr h)) v e
    have hall := hin (a :: l) s (gRe.z _ _ _) (fun a b h => (i4 a b).mpr h)
    have : lsT R T1 = lsT R T := fb_sm_cong (fun k hk => by
      rcases e : T k with _ | _
      · rcases e2 : T1 k with _ | _
        · rfl
        · rw [hsub k e2] at e; cases e
      · rcases e2 : T1 k with _ | _
        · rw [pcx_0 i1.2.1 K.2.2.2.1 (md_T H i1 e).1 (fun v hv => by
            have h1 := (cE_mem ((i4 k v).mp (gb_T.mpr ⟨e, hv⟩))).1
            rw [(hT.2 hne k).mpr (hall k h1)] at e2
            cases e2), Nat.mul_zero, Nat.mul_zero]
        · rfl)
    omega
/-- more than one -/
theorem ti_two (H : mdH P R0 T) (I : mdI P R0 R T (x :: s :: l)) (hy : y < s) (hc : cE (x :: s :: l) x y) : ¬ gsx P R x = 1 := by
  obtain ⟨t1, t2, t3, t4⟩ := mdI_T I
  obtain ⟨i1, i2, i3, i4, i5⟩ := I
  have K := kP_md H.1 i1
  have h1 := gb_ct H.1.2.1 i1.2.1 K.2.2.2.1 (md_T H i1 t1).1 t1
  have g1 := (i4 x y).mpr hc
  have g2 := (i4 x s).mpr (Or.inl (Or.inl ⟨rfl, rfl⟩))
  have y1 := (gb_ir H.1.2.1 i1.2.1 (fun u hu => (md_T H i1 hu).1) i1.2.2.2 g1).2.2
  have s1 := (gb_ir H.1.2.1 i1.2.1 (fun u hu => (md_T H i1 hu).1) i1.2.2.2 g2).2.2
  have h2 := ct_off (p := gb (P 5 0) R T x) g1 480 y1
  have h3 : 0 < fb_ct (fun k => gb (P 5 0) R T x k && !decide (k = y)) 480 := fb_ct_pos.mpr ⟨s, s1, by rw [g2, decide_eq_false (by omega)]; rfl⟩
  omega
end GO
/-- tied and untied -/
theorem ti_back {R : Nat → Nat → Nat → Nat} {j i q : Nat} (h : igo (R j) i q = true) : uR (tiR R j i q) j (u2 (tiR R j i q j) 6 i (sset (tiR R j i q j 6 i) (q - tiR R j i q j 4 i))) = R := by
  unfold tiR
  rw [uuR, uR_eq]
  have hh := igo_hg h
  have hs : (R j 6 i).testBit (q - R j 4 i) = true := by
    unfold igo at h
    rw [Bool.and_eq_true] at h
    exact h.2
  have e : u2 (sto (R j) 1 i q) 6 i (sset (sto (R j) 1 i q 6 i) (q - sto (R j) 1 i q 4 i)) = R j := by
    rw [sto_f (f := 4) (by decide)]
    unfold sto
    rw [if_pos (hgb_T.mpr hh), u2_eq]
    funext f k
    by_cases e : f = 6 ∧ k = i
    · obtain ⟨rfl, rfl⟩ := e
      rw [u2_eq]
      show sset (sclr (R j 6 k) (q - R j 4 k)) (q - R j 4 k) = _
      refine Nat.eq_of_testBit_eq fun c => ?_
      rw [sset_tb, sclr_tb]
      by_cases ec : q - R j 4 k = c
      · rw [← ec, hs]; simp
      · rw [decide_eq_false ec]; simp
    · rw [u2_ne e, u2_ne e]
  rw [e]
  exact uRs R j
