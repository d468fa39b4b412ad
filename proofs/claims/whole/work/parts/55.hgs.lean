/-! what a row that hangs keeps -/
theorem fsO_lt {E : Nat → Nat → Nat} (h0 : 0 < E 0 0) (i : Nat) : fsO E i < E 0 0 := by
  have : ∀ n, 0 < n → hgo E n i < n := by
    intro n
    induction n with
    | zero => intro h; omega
    | succ n ih =>
      intro _
      unfold hgo
      split
      · omega
      · rcases Nat.eq_zero_or_pos n with z | z
        · subst z; unfold hgo; omega
        · have := ih z; omega
  exact this _ h0
theorem sdO_rg {E : Nat → Nat → Nat} (h0 : 0 < E 0 0) (i : Nat) : 1 ≤ sdO E i ∧ fsO E i + sdO E i ≤ E 0 0 := by
  have h1 := fsO_lt h0 i
  have h2 := gvB_rg h1
  unfold sdO
  by_cases e : i + 1 = off E (fsO E i + 1) ∧ gvB E (fsO E i) < E 0 0
  · rw [nB_T e]; omega
  · rw [nB_F e]; omega
theorem gvb_fu (D : Nat → Nat → Nat) (n : Nat) : ∀ f g i, i ≤ n → n ≤ i + f → n ≤ i + g → gvb D n f i = gvb D n g i := by
  intro f
  induction f with
  | zero =>
    intro g i h0 h1 h2
    cases g with
    | zero => rfl
    | succ g =>
      show i = if n ≤ i then n else if 0 < D 2 i then i else gvb D n g (i + 1)
      rw [if_pos (by omega)]
      omega
  | succ f ih =>
    intro g i h0 h1 h2
    cases g with
    | zero =>
      show (if n ≤ i then n else if 0 < D 2 i then i else gvb D n f (i + 1)) = i
      rw [if_pos (by omega)]
      omega
    | succ g =>
      show (if n ≤ i then n else if 0 < D 2 i then i else gvb D n f (i + 1)) = if n ≤ i then n else if 0 < D 2 i then i else gvb D n g (i + 1)
      by_cases e : n ≤ i
      · rw [if_pos e, if_pos e]
      · rw [if_neg e, if_neg e, ih g (i + 1) (by omega) (by omega) (by omega)]
/-- the next giver from m on -/
def nxg (E : Nat → Nat → Nat) (m : Nat) : Nat := gvb E (E 0 0) (E 0 0 - m) m
theorem nxg_0 {E : Nat → Nat → Nat} {m : Nat} (hm : m < E 0 0) (h : E 2 m = 0) : nxg E m = nxg E (m + 1) := by
  unfold nxg
  rw [show E 0 0 - m = (E 0 0 - (m + 1)) + 1 by omega]
  show (if E 0 0 ≤ m then E 0 0 else if 0 < E 2 m then m else gvb E (E 0 0) (E 0 0 - (m + 1)) (m + 1)) = _
  rw [if_neg (by omega), if_neg (by omega)]
theorem nxg_g {E : Nat → Nat → Nat} {m : Nat} (hm : m < E 0 0) (h : 0 < E 2 m) : nxg E m = m := by
  unfold nxg
  rw [show E 0 0 - m = (E 0 0 - (m + 1)) + 1 by omega]
  show (if E 0 0 ≤ m then E 0 0 else if 0 < E 2 m then m else gvb E (E 0 0) (E 0 0 - (m + 1)) (m + 1)) = _
  rw [if_neg (by omega), if_pos h]
theorem nxg_s {E : Nat → Nat → Nat} {m : Nat} (hm : m < E 0 0) : nxg E (m + 1) = gvB E m := gvb_fu _ _ _ _ _ (by omega) (by omega) (by omega)
theorem nxg_e (E : Nat → Nat → Nat) : nxg E (E 0 0) = E 0 0 := by
  unfold nxg
  rw [Nat.sub_self]
  rfl
theorem fs_g {E : Nat → Nat → Nat} {m i : Nat} (hm : m < E 0 0) (h1 : off E m ≤ i) (h2 : i < off E m + E 2 m) : fsO E i = m := fsO_eq hm h1 (by rw [off_s]; exact h2)
theorem sd_g {E : Nat → Nat → Nat} {m i : Nat} (hm : m < E 0 0) (h1 : off E m ≤ i) (h2 : i < off E m + E 2 m) : sdO E i = gvB E m - m + nB (i + 1 = off E m + E 2 m ∧ gvB E m < E 0 0) := by
  unfold sdO
  rw [fs_g hm h1 h2, off_s]
/-- the sides of a row in all -/
theorem sd_sum {E : Nat → Nat → Nat} (h2 : ∀ k, k < E 0 0 → E 2 k ≤ 2) : ∀ m, m ≤ E 0 0 → fb_sm (sdO E) (off E m) ≤ 2 * nxg E m + fb_sm (fun k => E 2 k / 2) m ∧ 2 * fb_sm (fun k => E 2 k / 2) m ≤ off E m := by
  intro m
  induction m with
  | zero => intro _; exact ⟨Nat.zero_le _, Nat.le_refl _⟩
  | succ m ih =>
    intro hm
    obtain ⟨i1, i2⟩ := ih (by omega)
    have hg := h2 m (by omega)
    have hgv := gvB_rg (D := E) (k := m) (by omega)
    have eo := off_s E m
    have e2 : fb_sm (fun k => E 2 k / 2) (m + 1) = fb_sm (fun k => E 2 k / 2) m + E 2 m / 2 := rfl
    rw [eo, e2]
    rcases (show E 2 m = 0 ∨ E 2 m = 1 ∨ E 2 m = 2 by omega) with e | e | e
    · rw [e, ← nxg_0 (by omega) e]
      exact ⟨i1, by omega⟩
    · have d0 := sd_g (E := E) (m := m) (i := off E m) (by omega) (Nat.le_refl _) (by omega)
      have nb0 := nB_le (off E m + 1 = off E m + E 2 m ∧ gvB E m < E 0 0)
      rw [e, nxg_s (by omega), fb_sm_succ]
      rw [nxg_g (by omega) (by omega)] at i1
      rw [e] at d0 nb0
      omega
    · have d0 := sd_g (E := E) (m := m) (i := off E m) (by omega) (Nat.le_refl _) (by omega)
      have d1 := sd_g (E := E) (m := m) (i := off E m + 1) (by omega) (by omega) (by omega)
      have nb1 := nB_le (off E m + 1 + 1 = off E m + E 2 m ∧ gvB E m < E 0 0)
      rw [nB_F (by omega)] at d0
      rw [e, nxg_s (by omega), show off E m + 2 = off E m + 1 + 1 from rfl, fb_sm_succ, fb_sm_succ]
      rw [nxg_g (by omega) (by omega)] at i1
      rw [e] at d1 nb1
      omega
theorem sd_60 {E : Nat → Nat → Nat} (h0 : E 0 0 ≤ 24) (h2 : ∀ k, k < E 0 0 → E 2 k ≤ 2) (ht : off E (E 0 0) ≤ 24) : fb_sm (sdO E) (off E (E 0 0)) ≤ 60 := by
  obtain ⟨i1, i2⟩ := sd_sum h2 (E 0 0) (Nat.le_refl _)
  rw [nxg_e] at i1
  omega
def hgf (E : Nat → Nat → Nat) (q i : Nat) : Nat := nb (decide (fsO E i ≤ q) && decide (q < fsO E i + sdO E i))
theorem hgf_le (E : Nat → Nat → Nat) (q i : Nat) : hgf E q i ≤ 1 := nb_le _
theorem hgf_0 {E : Nat → Nat → Nat} {q i : Nat} (h : ¬ (fsO E i ≤ q ∧ q < fsO E i + sdO E i)) : hgf E q i = 0 := by
  unfold hgf
  rw [nb_0]
  simpa using h
/-- how often a knot is hung on -/
theorem hg_sum {E : Nat → Nat → Nat} (h2 : ∀ k, k < E 0 0 → E 2 k ≤ 2) (q : Nat) : ∀ m, m ≤ E 0 0 → (nxg E m < q → fb_sm (hgf E q) (off E m) = 0) ∧ (q = nxg E m → fb_sm (hgf E q) (off E m) ≤ 1) ∧ fb_sm (hgf E q) (off E m) ≤ 3 := by
  intro m
  induction m with
  | zero => intro _; exact ⟨fun _ => rfl, fun _ => Nat.zero_le _, Nat.zero_le _⟩
  | succ m ih =>
    intro hm
    obtain ⟨i1, i2, i3⟩ := ih (by omega)
    have hg := h2 m (by omega)
    have hgv := gvB_rg (D := E) (k := m) (by omega)
    have eo := off_s E m
    rw [eo]
    rcases (show E 2 m = 0 ∨ E 2 m = 1 ∨ E 2 m = 2 by omega) with e | e | e
    · rw [e, ← nxg_0 (by omega) e]
      exact ⟨i1, i2, i3⟩
    · have d0 := sd_g (E := E) (m := m) (i := off E m) (by omega) (Nat.le_refl _) (by omega)
      have f0 := fs_g (E := E) (m := m) (i := off E m) (by omega) (Nat.le_refl _) (by omega)
      have nb0 := nB_le (off E m + 1 = off E m + E 2 m ∧ gvB E m < E 0 0)
      have l0 := hgf_le E q (off E m)
      rw [e, nxg_s (by omega), fb_sm_succ]
      rw [nxg_g (by omega) (by omega)] at i1 i2
      by_cases c1 : gvB E m < q
      · rw [hgf_0 (by omega)]
        have := i1 (by omega)
        exact ⟨fun _ => by omega, fun _ => by omega, by omega⟩
      · by_cases c2 : m < q
        · have := i1 c2
          exact ⟨fun _ => by omega, fun _ => by omega, by omega⟩
        · by_cases c3 : q = m
          · have := i2 c3
            exact ⟨fun _ => by omega, fun _ => by omega, by omega⟩
          · rw [hgf_0 (by omega)]
            exact ⟨fun _ => by omega, fun _ => by omega, by omega⟩
    · have d0 := sd_g (E := E) (m := m) (i := off E m) (by omega) (Nat.le_refl _) (by omega)
      have d1 := sd_g (E := E) (m := m) (i := off E m + 1) (by omega) (by omega) (by omega)
      have f0 := fs_g (E := E) (m := m) (i := off E m) (by omega) (Nat.le_refl _) (by omega)
      have f1 := fs_g (E := E) (m := m) (i := off E m + 1) (by omega) (by omega) (by omega)
      have nb1 := nB_le (off E m + 1 + 1 = off E m + E 2 m ∧ gvB E m < E 0 0)
      have l0 := hgf_le E q (off E m)
      have l1 := hgf_le E q (off E m + 1)
      rw [nB_F (by omega)] at d0
      rw [e, nxg_s (by omega), show off E m + 2 = off E m + 1 + 1 from rfl, fb_sm_succ, fb_sm_succ]
      rw [nxg_g (by omega) (by omega)] at i1 i2
      by_cases c1 : gvB E m < q
      · rw [hgf_0 (i := off E m) (by omega), hgf_0 (i := off E m + 1) (by omega)]
        have := i1 (by omega)
        exact ⟨fun _ => by omega, fun _ => by omega, by omega⟩
      · by_cases c4 : q = gvB E m
        · rw [hgf_0 (i := off E m) (by omega)]
          have := i1 (by omega)
          exact ⟨fun _ => by omega, fun _ => by omega, by omega⟩
        · by_cases c2 : m < q
          · have := i1 c2
            exact ⟨fun _ => by omega, fun _ => by omega, by omega⟩
          · by_cases c3 : q = m
            · have := i2 c3
              exact ⟨fun _ => by omega, fun _ => by omega, by omega⟩
            · rw [hgf_0 (i := off E m) (by omega), hgf_0 (i := off E m + 1) (by omega)]
              exact ⟨fun _ => by omega, fun _ => by omega, by omega⟩
theorem rHG_4 {E D : Nat → Nat → Nat} {n i : Nat} (h : i < n) : rHG E n D 4 i = fsO E i := by unfold rHG; rw [if_pos h]; rfl
theorem rHG_5 {E D : Nat → Nat → Nat} {n i : Nat} (h : i < n) : rHG E n D 5 i = sdO E i := by unfold rHG; rw [if_pos h]; rfl
theorem rHG_6 {E D : Nat → Nat → Nat} {n i : Nat} (h : i < n) : rHG E n D 6 i = 0 := by unfold rHG; rw [if_pos h]; rfl
theorem rHG_f {E D : Nat → Nat → Nat} {n f i : Nat} (h : f < 4) : rHG E n D f i = D f i := by
  unfold rHG
  by_cases e : i < n
  · rw [if_pos e, if_neg (by omega), if_neg (by omega), if_neg (by omega)]
  · rw [if_neg e]
/-- the row that hangs in E keeps what rows keep -/
theorem hang_ok {E D : Nat → Nat → Nat} {t : Nat} (h0 : 0 < E 0 0) (h24 : E 0 0 ≤ 24) (h2 : ∀ k, k < E 0 0 → E 2 k ≤ 2) (ht : off E (E 0 0) = t) (ht2 : t ≤ 24) (hD : D 0 0 = t) : rHG E t D 0 0 = t ∧ (∀ k, k < t → rHG E t D 4 k + rHG E t D 5 k ≤ E 0 0) ∧ (∀ q, fb_sm (fun j => nb (hgb (rHG E t D) j q)) (rHG E t D 0 0) ≤ 3) ∧ fb_sm (fun j => rHG E t D 5 j) (rHG E t D 0 0) ≤ 60 := by
  have e0 : rHG E t D 0 0 = t := by rw [rHG_f (by decide), hD]
  refine ⟨e0, fun k hk => ?_, fun q => ?_, ?_⟩
  · rw [rHG_4 hk, rHG_5 hk]
    exact (sdO_rg h0 k).2
  · rw [e0, show fb_sm (fun j => nb (hgb (rHG E t D) j q)) t = fb_sm (hgf E q) t from fb_sm_cong (fun j hj => by unfold hgb hgf; rw [rHG_4 hj, rHG_5 hj])]
    have := (hg_sum h2 q (E 0 0) (Nat.le_refl _)).2.2
    rwa [ht] at this
  · rw [e0, show fb_sm (fun j => rHG E t D 5 j) t = fb_sm (sdO E) t from fb_sm_cong (fun j hj => rHG_5 hj)]
    have := sd_60 h24 h2 (by omega)
    rwa [ht] at this
/-- what is made of a row's counts alone -/
theorem hgo_cg {E N : Nat → Nat → Nat} (i : Nat) : ∀ n, (∀ k, k < n → E 2 k = N 2 k) → hgo E n i = hgo N n i := by
  intro n
  induction n with
  | zero => intro _; rfl
  | succ n ih =>
    intro h
    show (if off E n ≤ i then n else hgo E n i) = if off N n ≤ i then n else hgo N n i
    rw [ih (fun k hk => h k (by omega)), show off E n = off N n from fb_sm_cong (fun k hk => h k (by omega))]
theorem gvb_cg {E N : Nat → Nat → Nat} {n : Nat} (h : ∀ k, k < n → E 2 k = N 2 k) : ∀ f i, gvb E n f i = gvb N n f i := by
  intro f
  induction f with
  | zero => intro i; rfl
  | succ f ih =>
    intro i
    show (if n ≤ i then n else if 0 < E 2 i then i else gvb E n f (i + 1)) = if n ≤ i then n else if 0 < N 2 i then i else gvb N n f (i + 1)
    by_cases e : n ≤ i
    · rw [if_pos e, if_pos e]
    · rw [if_neg e, if_neg e, h i (by omega), ih (i + 1)]
theorem fsO_cg {E N : Nat → Nat → Nat} (h0 : E 0 0 = N 0 0) (h : ∀ k, k < E 0 0 → E 2 k = N 2 k) (i : Nat) : fsO E i = fsO N i := by
  unfold fsO
  rw [← h0]
  exact hgo_cg i _ h
theorem sdO_cg {E N : Nat → Nat → Nat} (hp : 0 < E 0 0) (h0 : E 0 0 = N 0 0) (h : ∀ k, k < E 0 0 → E 2 k = N 2 k) (i : Nat) : sdO E i = sdO N i := by
  have e1 := fsO_cg h0 h i
  have hl := fsO_lt hp i
  have e2 : gvB E (fsO E i) = gvB N (fsO E i) := by
    unfold gvB
    rw [← h0]
    exact gvb_cg h _ _
  have e3 : off E (fsO E i + 1) = off N (fsO E i + 1) := fb_sm_cong (fun k hk => h k (by omega))
  unfold sdO
  rw [← e1, e2, e3, h0]
theorem off_cg {E N : Nat → Nat → Nat} {n : Nat} (h : ∀ k, k < n → E 2 k = N 2 k) : off E n = off N n := fb_sm_cong h
