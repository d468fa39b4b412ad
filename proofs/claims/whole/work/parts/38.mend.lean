/-! the loft: mending -/
theorem cW_b {h h2 : nPH} {a b : Nat} {V : Nat → Nat → Nat} {P : Nat → Nat → Nat → Nat} {R : Nat → Nat → Nat → Nat → Nat} {E Y T S Y2 : Nat → Nat → Nat} (W : cW h a b V P R E Y T S) {p : Nat} (hp : p < V 1 0) {X : Nat → Prop} {R2 : Nat → Nat → Nat → Nat} (F : nFr X h h2) (hX : ∀ q, X q → nIv a 82 q ∨ pS (V 0 p) (P p) q) (CF : cF h2 a V E Y2 T S) (Wp : pW h2 (V 0 p) (P p) R2) : kB b h h2 ∧ cW h2 a b V P (uP R p R2) E Y2 T S := by
  obtain ⟨w1, ⟨w2, w3⟩, w4, w5, w6, w7⟩ := W
  refine ⟨⟨F.1, F.2.1, fun q q1 q2 => F.2.2.2.2 q (fun z => ?_)⟩, CF, ⟨fun p2 hp2 => ?_, w3⟩, w4, F.2.2.2.1 w5, w6, by rw [F.2.2.1]; exact w7⟩
  · rcases hX q z with y | y
    · have y1 := y.1
      have y2 := y.2
      rcases w6 with e | e <;> omega
    · exact apW_S (w2 p hp).2.2.2 y ⟨q1, q2⟩
  · by_cases e : p2 = p
    · subst e
      rw [uP_eq]
      exact ⟨Wp, (w2 p2 hp2).2⟩
    · rw [uP_ne e]
      refine ⟨pW_kept (w2 p2 hp2).1 F.2.1 (fun q hq => F.2.2.2.2 q (fun z => ?_)), (w2 p2 hp2).2⟩
      rcases hX q z with y | y
      · exact apW_S (w2 p2 hp2).2.2.1 hq y
      · exact apP_S (w3 p2 p hp2 hp e) hq y
theorem cF_kY {h h2 : nPH} {a : Nat} {V E Y T S : Nat → Nat → Nat} (H : cF h a V E Y T S) (hB : h2.2.1 = h.2.1) (hq : ∀ q, a ≤ q → q < a + 82 → ¬ nIv (a + 53) 3 q → nAt h2 q = nAt h q) {X : Nat → Nat → Nat} (HX : o6 h2 (a + 53) X) : cF h2 a V E X T S := by
  obtain ⟨kV, kE, ⟨G, kG⟩, kY, kT, kS, L, kL⟩ := H
  exact ⟨o7_kept kV hB (fun q x y => hq q (by omega) (by omega) (fun z => by have z1 := z.1; have z2 := z.2; omega)), o0_kept kE hB (fun q x y => hq q (by omega) (by omega) (fun z => by have z1 := z.1; have z2 := z.2; omega)), ⟨G, o0_kept kG hB (fun q x y => hq q (by omega) (by omega) (fun z => by have z1 := z.1; have z2 := z.2; omega))⟩, HX, o5_kept kT hB (fun q x y => hq q (by omega) (by omega) (fun z => by have z1 := z.1; have z2 := z.2; omega)), o4_kept kS hB (fun q x y => hq q (by omega) (by omega) (fun z => by have z1 := z.1; have z2 := z.2; omega)), ⟨L, o1_kept kL hB (fun q x y => hq q (by omega) (by omega) (fun z => by have z1 := z.1; have z2 := z.2; omega))⟩⟩
/-- where the way of the hole T begins -/
def hBg (P : Nat → Nat → Nat) (R : Nat → Nat → Nat → Nat) (T : Nat → Bool) (x : Nat) : Prop := x < 480 ∧ T x = true ∧ ((gsx P R x % 2 = 1 ∧ ∀ y, y < x → T y = true → ¬ gsx P R y % 2 = 1) ∨ ((∀ y, y < 480 → T y = true → ¬ gsx P R y % 2 = 1) ∧ ∀ y, y < x → T y = false))
theorem hIs_k {P : Nat → Nat → Nat} {R : Nat → Nat → Nat → Nat} {T : Nat → Bool} {E : Nat → Nat → Nat} (I : hIs P R T E) {i : Nat} (hi : i < E 1 0) : ∃ x, x < 480 ∧ T x = true ∧ fb_ct T x = i ∧ E 4 i = 100 * (x / 24) + x % 24 ∧ E 5 i = gsx P R x % 2 := by
  rw [I.1.2.1] at hi
  obtain ⟨x, h1, h2, h3⟩ := fb_ct_kth hi
  have := I.1.2.2.2 x h1 h2
  rw [h3] at this
  exact ⟨x, h1, h2, h3, this.1, this.2⟩
theorem sp_bg {h : nPH} {a x : Nat} {P : Nat → Nat → Nat} {R : Nat → Nat → Nat → Nat} {T : Nat → Bool} {E : Nat → Nat → Nat} (H : o0 h a E) (I : hIs P R T E) (B : hBg P R T x) : nRd YX0_beginning [.ref a] h (.int (nI (100 * (x / 24) + x % 24))) := by
  have h1 : E 1 0 ≤ 480 := by rw [I.1.2.1]; exact fb_ct_le T 480
  have ho : ∀ i, i < E 1 0 → E 5 i ≤ 1 := fun i hi => by
    obtain ⟨y, -, -, -, -, e⟩ := hIs_k I hi
    rw [e]; omega
  obtain ⟨b1, b2, b3⟩ := B
  have hx := I.1.2.2.2 x b1 b2
  have hlt : fb_ct T x < E 1 0 := by rw [I.1.2.1]; exact ct_lt b2 b1
  rcases b3 with ⟨b3, b4⟩ | ⟨b3, b4⟩
  · have Z := sp_bgY H h1 ho (fb_ct T x) hlt (fun i hi => ?_) (hx.2.trans b3)
    · rw [hx.1] at Z; exact Z
    · obtain ⟨y, g1, g2, g3, -, g5⟩ := hIs_k I (show i < E 1 0 by omega)
      rw [g5]
      refine b4 y ?_ g2
      rcases Nat.lt_or_ge y x with z | z
      · exact z
      · have := fb_ct_mono T z
        omega
  · have Z := sp_bgN H h1 ho (fun i hi => by
      obtain ⟨y, g1, g2, -, -, g5⟩ := hIs_k I hi
      rw [g5]; exact b3 y g1 g2)
    have e0 : fb_ct T x = 0 := fb_ct_zero.mpr b4
    rw [e0] at hx
    rw [hx.1] at Z
    exact Z
theorem sp_hn {h : nPH} {a b : Nat} {P : Nat → Nat → Nat} {R : Nat → Nat → Nat → Nat} {T : Nat → Bool} {E : Nat → Nat → Nat} (H : o0 h a E) (Wp : pW h b P R) (I : hIs P R T E) (hin : ∀ x, T x = true → gIn (P 5 0) R x) : (∃ x, x < 480 ∧ T x = true ∧ R (x / 24) 3 (x % 24) = 1) ∧ nRd YX0_hasNeedle [.ref a, .ref b] h (.int (nI 1)) ∨ (¬ ∃ x, x < 480 ∧ T x = true ∧ R (x / 24) 3 (x % 24) = 1) ∧ nRd YX0_hasNeedle [.ref a, .ref b] h (.int (nI 0)) := by
  have h1 : E 1 0 ≤ 480 := by rw [I.1.2.1]; exact fb_ct_le T 480
  have hK : ∀ i, i < E 1 0 → E 4 i < 2000 ∧ E 4 i / 100 < P 5 0 ∧ E 4 i % 100 < R (E 4 i / 100) 0 0 := fun i hi => by
    obtain ⟨x, g1, g2, -, g4, -⟩ := hIs_k I hi
    have := hin x g2
    rw [g4, show (100 * (x / 24) + x % 24) / 100 = x / 24 by omega, show (100 * (x / 24) + x % 24) % 100 = x % 24 by omega]
    exact ⟨by omega, this.1, this.2⟩
  by_cases e : ∃ x, x < 480 ∧ T x = true ∧ R (x / 24) 3 (x % 24) = 1
  · left
    refine ⟨e, ?_⟩
    have key : ∀ n, (∃ i, i < n ∧ i < E 1 0 ∧ R (E 4 i / 100) 3 (E 4 i % 100) = 1) → ∃ m, m < E 1 0 ∧ (∀ i, i < m → ¬ R (E 4 i / 100) 3 (E 4 i % 100) = 1) ∧ R (E 4 m / 100) 3 (E 4 m % 100) = 1 := by
      intro n
      induction n with
      | zero => rintro ⟨i, hi, -⟩; exact absurd hi (Nat.not_lt_zero i)
      | succ n ih =>
        rintro ⟨i, hi, hi2, hi3⟩
        by_cases z : ∃ i, i < n ∧ i < E 1 0 ∧ R (E 4 i / 100) 3 (E 4 i % 100) = 1
        · exact ih z
        · have e2 : i = n := by
            rcases Nat.lt_succ_iff_lt_or_eq.mp hi with y | y
            · exact absurd ⟨i, y, hi2, hi3⟩ z
            · exact y
          subst e2
          exact ⟨i, hi2, fun i2 h2 h3 => z ⟨i2, h2, by omega, h3⟩, hi3⟩
    obtain ⟨x, x1, x2, x3⟩ := e
    have hx := I.1.2.2.2 x x1 x2
    obtain ⟨m, m1, m2, m3⟩ := key 480 ⟨fb_ct T x, by have := ct_lt x2 x1; have := fb_ct_le T 480; omega, by rw [I.1.2.1]; exact ct_lt x2 x1, by
      rw [hx.1, show (100 * (x / 24) + x % 24) / 100 = x / 24 by omega, show (100 * (x / 24) + x % 24) % 100 = x % 24 by omega]
      exact x3⟩
    exact sp_hnY H Wp h1 hK m m1 m2 m3
  · right
    refine ⟨e, sp_hnN H Wp h1 hK (fun i hi z => ?_)⟩
    obtain ⟨x, g1, g2, -, g4, -⟩ := hIs_k I hi
    rw [g4, show (100 * (x / 24) + x % 24) / 100 = x / 24 by omega, show (100 * (x / 24) + x % 24) % 100 = x % 24 by omega] at z
    exact e ⟨x, g1, g2, z⟩
theorem cl_mendP {h : nPH} {a b : Nat} {V : Nat → Nat → Nat} {P : Nat → Nat → Nat → Nat} {R : Nat → Nat → Nat → Nat → Nat} {E Y T S : Nat → Nat → Nat} (C : cW h a b V P R E Y T S) {p : Int32} (hp : ¬ nIn p (V 1 0)) {r k : Int32} : nRd YX7_mend [.ref (a), .int (p), .int (r), .int (k)] h (.int (-1)) := by
  refine nSp_of (by decide +kernel) rfl (Nat.le_of_ble_eq_true rfl) (ls := [some (.ref (a)), some (.int (p)), some (.int (r)), some (.int (k)), none, none]) (by exact (And.intro rfl (And.intro rfl (And.intro rfl (And.intro rfl True.intro))))) ?_
  refine x_aload_n rfl d_X7_mend_0 ?_
  refine x_iload_n rfl d_X7_mend_1 ?_
  refine x_rdV d_X7_mend_2 lk_7_85 mo_X7_panelAt vi_X7_panelAt (sp_pAtN C.1.1 (cW_n C) hp) (o7_o C.1.1) ⟨_, rfl, rfl⟩ rfl ⟨Nat.le_of_ble_eq_true rfl, Nat.le_of_ble_eq_true rfl⟩ rfl rfl (Nat.zero_le _) (Nat.zero_le _) (Nat.le_of_ble_eq_true rfl) rfl ?_
  refine x_astoreN d_X7_mend_5 (Nat.le_of_ble_eq_true rfl) ?_
  refine x_aloadN rfl d_X7_mend_7 ?_
  refine x_ifnullN (tgt := 22) d_X7_mend_9 (by decide) ?_
  refine x_iconst (v := -1) (by decide) d_X7_mend_22 ?_
  exact x_ireturn d_X7_mend_23 rfl rfl rfl rfl (Nat.zero_le _) (Nat.zero_le _) (⟨rfl, rfl⟩)
theorem cl_mendO {h : nPH} {a b : Nat} {V : Nat → Nat → Nat} {P : Nat → Nat → Nat → Nat} {R : Nat → Nat → Nat → Nat → Nat} {E Y T S : Nat → Nat → Nat} (C : cW h a b V P R E Y T S) {p : Nat} (hp : p < V 1 0) {r k : Int32} (hO : rOff (P p 5 0) (R p) r k) : nRd YX7_mend [.ref (a), .int (nI (p)), .int (r), .int (k)] h (.int (-1)) := by
  have hn12 := cW_n C
  have hn20 := (cW_q C hp).2.1
  refine nSp_of (by decide +kernel) rfl (Nat.le_of_ble_eq_true rfl) (ls := [some (.ref (a)), some (.int (nI (p))), some (.int (r)), some (.int (k)), none, none]) (by exact (And.intro rfl (And.intro rfl (And.intro rfl (And.intro rfl True.intro))))) ?_
  refine x_aload_n rfl d_X7_mend_0 ?_
  refine x_iload_n rfl d_X7_mend_1 ?_
  refine x_rdV d_X7_mend_2 lk_7_85 mo_X7_panelAt vi_X7_panelAt (sp_pAt C.1.1 (cW_n C) hp) (o7_o C.1.1) ⟨_, rfl, rfl⟩ rfl ⟨Nat.le_of_ble_eq_true rfl, Nat.le_of_ble_eq_true rfl⟩ rfl rfl (Nat.zero_le _) (Nat.zero_le _) (Nat.le_of_ble_eq_true rfl) rfl ?_
  refine x_astore d_X7_mend_5 (Nat.le_of_ble_eq_true rfl) ?_
  refine x_aload rfl d_X7_mend_7 ?_
  refine x_ifnull d_X7_mend_9 ?_
  refine x_aload rfl d_X7_mend_12 ?_
  refine x_iload_n rfl d_X7_mend_14 ?_
  refine x_iload_n rfl d_X7_mend_15 ?_
  refine x_rdV d_X7_mend_16 lk_7_130 mo_X2_rowWith vi_X2_rowWith (sp_rowWithO (cW_q C hp) hO) (o2_o (cW_q C hp).1) ⟨_, rfl, rfl⟩ rfl ⟨Nat.le_of_ble_eq_true rfl, Nat.le_of_ble_eq_true rfl⟩ rfl rfl (Nat.zero_le _) (Nat.zero_le _) (Nat.le_of_ble_eq_true rfl) rfl ?_
  refine x_ifnonnullN d_X7_mend_19 ?_
  refine x_iconst (v := -1) (by decide) d_X7_mend_22 ?_
  exact x_ireturn d_X7_mend_23 rfl rfl rfl rfl (Nat.zero_le _) (Nat.zero_le _) (⟨rfl, rfl⟩)
theorem hod_le (P : Nat → Nat → Nat) (R : Nat → Nat → Nat → Nat) (T : Nat → Bool) (n : Nat) : hod P R T n ≤ n := by
  have : hod P R T n ≤ n * 1 := fb_sm_bound (fun x _ => by
    have h1 := nb_le (T x)
    have h2 : gsx P R x % 2 ≤ 1 := by omega
    calc nb (T x) * (gsx P R x % 2) ≤ 1 * 1 := Nat.mul_le_mul h1 h2
      _ = 1 := rfl)
  omega
theorem twn_le {s o : Nat} (h : o ≤ 480) : twn s o ≤ 480 := by
  unfold twn
  split
  · omega
  · split <;> omega
theorem cl_mendT {h : nPH} {a b : Nat} {V : Nat → Nat → Nat} {P : Nat → Nat → Nat → Nat} {R : Nat → Nat → Nat → Nat → Nat} {E Y T S : Nat → Nat → Nat} (C : cW h a b V P R E Y T S) {p : Nat} (hp : p < V 1 0) {r : Nat} (hr : r < P p 5 0) {k : Nat} (hk : k < R p r 0 0) (G : gOK (P p 5 0) (R p)) {T0 : Nat → Bool} (hT : hTr (P p) (R p) (24 * r + k) T0) (h1 : ¬ twn (fb_ct T0 480) (hod (P p) (R p) T0 480) = 1) : nWv YX7_mend [.ref (a), .int (nI (p)), .int (nI (r)), .int (nI (k))] h (some (.int (nI (twn (fb_ct T0 480) (hod (P p) (R p) T0 480))))) (fun h2 => kB b h h2 ∧ cW h2 a b V P R E Y T S) := by
  have hn12 := cW_n C
  have hn20 := (cW_q C hp).2.1
  have hrk := ((cW_q C hp).2.2.1 r hr).2.1
  have hpl := hrk.1
  have hkk := hrk.2 k (by omega)
  obtain ⟨G0, HG0⟩ := C.1.2.2.1
  have htl : twn (fb_ct T0 480) (hod (P p) (R p) T0 480) ≤ 480 := twn_le (hod_le _ _ _ _)
  refine nSp_of (by decide +kernel) rfl (Nat.le_of_ble_eq_true rfl) (ls := [some (.ref (a)), some (.int (nI (p))), some (.int (nI (r))), some (.int (nI (k))), none, none]) (by exact (And.intro rfl (And.intro rfl (And.intro rfl (And.intro rfl True.intro))))) ?_
  refine x_aload_n rfl d_X7_mend_0 ?_
  refine x_iload_n rfl d_X7_mend_1 ?_
  refine x_rdV d_X7_mend_2 lk_7_85 mo_X7_panelAt vi_X7_panelAt (sp_pAt C.1.1 (cW_n C) hp) (o7_o C.1.1) ⟨_, rfl, rfl⟩ rfl ⟨Nat.le_of_ble_eq_true rfl, Nat.le_of_ble_eq_true rfl⟩ rfl rfl (Nat.zero_le _) (Nat.zero_le _) (Nat.le_of_ble_eq_true rfl) rfl ?_
  refine x_astore d_X7_mend_5 (Nat.le_of_ble_eq_true rfl) ?_
  refine x_aload rfl d_X7_mend_7 ?_
  refine x_ifnull d_X7_mend_9 ?_
  refine x_aload rfl d_X7_mend_12 ?_
  refine x_iload_n rfl d_X7_mend_14 ?_
  refine x_iload_n rfl d_X7_mend_15 ?_
  refine x_rdV d_X7_mend_16 lk_7_130 mo_X2_rowWith vi_X2_rowWith (sp_rowWith (cW_q C hp) hr hk) (o2_o (cW_q C hp).1) ⟨_, rfl, rfl⟩ rfl ⟨Nat.le_of_ble_eq_true rfl, Nat.le_of_ble_eq_true rfl⟩ rfl rfl (Nat.zero_le _) (Nat.zero_le _) (Nat.le_of_ble_eq_true rfl) rfl ?_
  refine x_ifnonnull (tgt := 24) d_X7_mend_19 (by decide) ?_
  refine x_aload_n rfl d_X7_mend_24 ?_
  refine x_getf co_all (v := .ref (a + 28)) d_X7_mend_25 fk_7_30 (o7_o C.1.1) rfl ?_
  refine x_aload rfl d_X7_mend_28 ?_
  refine x_iload_n rfl d_X7_mend_30 ?_
  refine x_iload_n rfl d_X7_mend_31 ?_
  refine x_wvV d_X7_mend_32 lk_7_193 mo_X0_trace vi_X0_trace (sp_traceT G hr hk (apW_sub (cW_a C hp) (by omega) (by omega)) (cW_q C hp) HG0 hT) (o0_o HG0) ⟨_, rfl, rfl⟩ rfl ⟨Nat.le_of_ble_eq_true rfl, Nat.le_of_ble_eq_true rfl⟩ (Nat.zero_le _) (Nat.zero_le _) (Nat.le_of_ble_eq_true rfl) rfl (fun h3 hp0 e1 e2 => ?_)
  obtain ⟨F3, E3, H3, I3⟩ := hp0
  have Cf := cF_G C.1 F3 H3
  have CW := cW_o C F3 (nFr_up (by omega) (by omega)) Cf rfl (fun _ => rfl)
  have hsz : E3 1 0 ≤ 480 := by rw [I3.1.2.1]; exact fb_ct_le T0 480
  have hod4 : E3 3 0 ≤ 480 := by rw [I3.1.2.2.1]; exact hod_le _ _ _ _
  have eTW : twn (E3 1 0) (E3 3 0) = twn (fb_ct T0 480) (hod (P p) (R p) T0 480) := by rw [I3.1.2.1, I3.1.2.2.1]
  refine x_aload_n rfl d_X7_mend_35 ?_
  refine x_getf co_all (v := .ref (a + 28)) d_X7_mend_36 fk_7_30 (o7_o Cf.1) rfl ?_
  refine x_rdV d_X7_mend_39 lk_7_201 mo_X0_twines vi_X0_twines (sp_twines H3 hsz hod4) (o0_o H3) ⟨_, rfl, rfl⟩ rfl ⟨Nat.le_of_ble_eq_true rfl, Nat.le_of_ble_eq_true rfl⟩ rfl rfl (Nat.zero_le _) (Nat.zero_le _) (Nat.le_of_ble_eq_true rfl) rfl ?_
  rw [eTW]
  refine x_istore d_X7_mend_42 (Nat.le_of_ble_eq_true rfl) ?_
  refine x_iload rfl d_X7_mend_44 ?_
  refine x_iconst (v := nI 1) (by decide) d_X7_mend_46 ?_
  refine x_icmp_eqN (tgt := 53) d_X7_mend_47 (by decide) (by omega) (by omega) (fun c_1 => by exfalso; exact h1 c_1) (fun c_1 => ?_)
  refine x_iload rfl d_X7_mend_50 ?_
  exact x_ireturn d_X7_mend_52 rfl rfl F3.1 F3.2.1 (Nat.zero_le _) (Nat.zero_le _) (⟨rfl, CW⟩)
theorem cl_mendN {h : nPH} {a b : Nat} {V : Nat → Nat → Nat} {P : Nat → Nat → Nat → Nat} {R : Nat → Nat → Nat → Nat → Nat} {E Y T S : Nat → Nat → Nat} (C : cW h a b V P R E Y T S) {p : Nat} (hp : p < V 1 0) {r : Nat} (hr : r < P p 5 0) {k : Nat} (hk : k < R p r 0 0) (G : gOK (P p 5 0) (R p)) {T0 : Nat → Bool} (hT : hTr (P p) (R p) (24 * r + k) T0) (h1 : twn (fb_ct T0 480) (hod (P p) (R p) T0 480) = 1) (hnd : ∃ x, x < 480 ∧ T0 x = true ∧ R p (x / 24) 3 (x % 24) = 1) : nWv YX7_mend [.ref (a), .int (nI (p)), .int (nI (r)), .int (nI (k))] h (some (.int (-2))) (fun h2 => kB b h h2 ∧ cW h2 a b V P R E Y T S) := by
  have hn12 := cW_n C
  have hn20 := (cW_q C hp).2.1
  have hrk := ((cW_q C hp).2.2.1 r hr).2.1
  have hpl := hrk.1
  have hkk := hrk.2 k (by omega)
  obtain ⟨G0, HG0⟩ := C.1.2.2.1
  have htl : twn (fb_ct T0 480) (hod (P p) (R p) T0 480) ≤ 480 := twn_le (hod_le _ _ _ _)
  refine nSp_of (by decide +kernel) rfl (Nat.le_of_ble_eq_true rfl) (ls := [some (.ref (a)), some (.int (nI (p))), some (.int (nI (r))), some (.int (nI (k))), none, none]) (by exact (And.intro rfl (And.intro rfl (And.intro rfl (And.intro rfl True.intro))))) ?_
  refine x_aload_n rfl d_X7_mend_0 ?_
  refine x_iload_n rfl d_X7_mend_1 ?_
  refine x_rdV d_X7_mend_2 lk_7_85 mo_X7_panelAt vi_X7_panelAt (sp_pAt C.1.1 (cW_n C) hp) (o7_o C.1.1) ⟨_, rfl, rfl⟩ rfl ⟨Nat.le_of_ble_eq_true rfl, Nat.le_of_ble_eq_true rfl⟩ rfl rfl (Nat.zero_le _) (Nat.zero_le _) (Nat.le_of_ble_eq_true rfl) rfl ?_
  refine x_astore d_X7_mend_5 (Nat.le_of_ble_eq_true rfl) ?_
  refine x_aload rfl d_X7_mend_7 ?_
  refine x_ifnull d_X7_mend_9 ?_
  refine x_aload rfl d_X7_mend_12 ?_
  refine x_iload_n rfl d_X7_mend_14 ?_
  refine x_iload_n rfl d_X7_mend_15 ?_
  refine x_rdV d_X7_mend_16 lk_7_130 mo_X2_rowWith vi_X2_rowWith (sp_rowWith (cW_q C hp) hr hk) (o2_o (cW_q C hp).1) ⟨_, rfl, rfl⟩ rfl ⟨Nat.le_of_ble_eq_true rfl, Nat.le_of_ble_eq_true rfl⟩ rfl rfl (Nat.zero_le _) (Nat.zero_le _) (Nat.le_of_ble_eq_true rfl) rfl ?_
  refine x_ifnonnull (tgt := 24) d_X7_mend_19 (by decide) ?_
  refine x_aload_n rfl d_X7_mend_24 ?_
  refine x_getf co_all (v := .ref (a + 28)) d_X7_mend_25 fk_7_30 (o7_o C.1.1) rfl ?_
  refine x_aload rfl d_X7_mend_28 ?_
  refine x_iload_n rfl d_X7_mend_30 ?_
  refine x_iload_n rfl d_X7_mend_31 ?_
  refine x_wvV d_X7_mend_32 lk_7_193 mo_X0_trace vi_X0_trace (sp_traceT G hr hk (apW_sub (cW_a C hp) (by omega) (by omega)) (cW_q C hp) HG0 hT) (o0_o HG0) ⟨_, rfl, rfl⟩ rfl ⟨Nat.le_of_ble_eq_true rfl, Nat.le_of_ble_eq_true rfl⟩ (Nat.zero_le _) (Nat.zero_le _) (Nat.le_of_ble_eq_true rfl) rfl (fun h3 hp0 e1 e2 => ?_)
  obtain ⟨F3, E3, H3, I3⟩ := hp0
  have Cf := cF_G C.1 F3 H3
  have CW := cW_o C F3 (nFr_up (by omega) (by omega)) Cf rfl (fun _ => rfl)
  have hsz : E3 1 0 ≤ 480 := by rw [I3.1.2.1]; exact fb_ct_le T0 480
  have hod4 : E3 3 0 ≤ 480 := by rw [I3.1.2.2.1]; exact hod_le _ _ _ _
  have eTW : twn (E3 1 0) (E3 3 0) = twn (fb_ct T0 480) (hod (P p) (R p) T0 480) := by rw [I3.1.2.1, I3.1.2.2.1]
  refine x_aload_n rfl d_X7_mend_35 ?_
  refine x_getf co_all (v := .ref (a + 28)) d_X7_mend_36 fk_7_30 (o7_o Cf.1) rfl ?_
  refine x_rdV d_X7_mend_39 lk_7_201 mo_X0_twines vi_X0_twines (sp_twines H3 hsz hod4) (o0_o H3) ⟨_, rfl, rfl⟩ rfl ⟨Nat.le_of_ble_eq_true rfl, Nat.le_of_ble_eq_true rfl⟩ rfl rfl (Nat.zero_le _) (Nat.zero_le _) (Nat.le_of_ble_eq_true rfl) rfl ?_
  rw [eTW]
  refine x_istore d_X7_mend_42 (Nat.le_of_ble_eq_true rfl) ?_
  refine x_iload rfl d_X7_mend_44 ?_
  refine x_iconst (v := nI 1) (by decide) d_X7_mend_46 ?_
  refine x_icmp_eqN (tgt := 53) d_X7_mend_47 (by decide) (by omega) (by omega) (fun c_1 => ?_) (fun c_1 => by exfalso; exact c_1 h1)
  refine x_aload_n rfl d_X7_mend_53 ?_
  refine x_getf co_all (v := .ref (a + 28)) d_X7_mend_54 fk_7_30 (o7_o Cf.1) rfl ?_
  refine x_aload rfl d_X7_mend_57 ?_
  have hnn : nRd YX0_hasNeedle [.ref (a + 28), .ref (V 0 p)] h3 (.int (nI 1)) := by
    rcases sp_hn H3 (cW_q CW.2 hp) I3 (fun x hx => hTr_in G (by unfold gIn; rw [show (24 * r + k) / 24 = r by omega, show (24 * r + k) % 24 = k by omega]; exact ⟨hr, hk⟩) hT hx) with ⟨z, y⟩ | ⟨z, y⟩
    · exact y
    · exact absurd hnd z
  refine x_rdV d_X7_mend_59 lk_7_204 mo_X0_hasNeedle vi_X0_hasNeedle (hnn) (o0_o H3) ⟨_, rfl, rfl⟩ rfl ⟨Nat.le_of_ble_eq_true rfl, Nat.le_of_ble_eq_true rfl⟩ rfl rfl (Nat.zero_le _) (Nat.zero_le _) (Nat.le_of_ble_eq_true rfl) rfl ?_
  refine x_if_eqN (tgt := 68) d_X7_mend_62 (by decide) (by omega) (fun c_2 => by exfalso; omega) (fun c_2 => ?_)
  refine x_bipush (v := -2) (by decide) d_X7_mend_65 ?_
  exact x_ireturn d_X7_mend_67 rfl rfl F3.1 F3.2.1 (Nat.zero_le _) (Nat.zero_le _) (⟨rfl, CW⟩)
theorem cl_mend {h : nPH} {a b : Nat} {V : Nat → Nat → Nat} {P : Nat → Nat → Nat → Nat} {R : Nat → Nat → Nat → Nat → Nat} {E Y T S : Nat → Nat → Nat} (C : cW h a b V P R E Y T S) {p : Nat} (hp : p < V 1 0) {r : Nat} (hr : r < P p 5 0) {k : Nat} (hk : k < R p r 0 0) (G : gOK (P p 5 0) (R p)) {T0 : Nat → Bool} (hT : hTr (P p) (R p) (24 * r + k) T0) (h1 : twn (fb_ct T0 480) (hod (P p) (R p) T0 480) = 1) (hnd : ¬ ∃ x, x < 480 ∧ T0 x = true ∧ R p (x / 24) 3 (x % 24) = 1) {x0 m : Nat} (B : hBg (P p) (R p) T0 x0) {Rs : Nat → Nat → Nat → Nat → Nat} {Ws : Nat → Nat → Nat → Nat} (hm : m < 2882) (hst : ∀ t, t < m → wkst (P p) (Rs t) (Rs (t + 1)) (Ws t) (Ws (t + 1))) (hend : Ws m 3 0 = 0) (hR0 : Rs 0 = R p) (hW0 : Ws 0 = wPu (u2 (u2 Y 0 0 0) 3 0 0) (100 * (x0 / 24) + x0 % 24)) : nWv YX7_mend [.ref (a), .int (nI (p)), .int (nI (r)), .int (nI (k))] h (some (.int (nI 1))) (fun h2 => kB b h h2 ∧ cW h2 a b V P (uP R p (Rs m)) E (Ws m) T S) := by
  have hn12 := cW_n C
  have hn20 := (cW_q C hp).2.1
  have hrk := ((cW_q C hp).2.2.1 r hr).2.1
  have hpl := hrk.1
  have hkk := hrk.2 k (by omega)
  obtain ⟨G0, HG0⟩ := C.1.2.2.1
  have htl : twn (fb_ct T0 480) (hod (P p) (R p) T0 480) ≤ 480 := twn_le (hod_le _ _ _ _)
  refine nSp_of (by decide +kernel) rfl (Nat.le_of_ble_eq_true rfl) (ls := [some (.ref (a)), some (.int (nI (p))), some (.int (nI (r))), some (.int (nI (k))), none, none]) (by exact (And.intro rfl (And.intro rfl (And.intro rfl (And.intro rfl True.intro))))) ?_
  refine x_aload_n rfl d_X7_mend_0 ?_
  refine x_iload_n rfl d_X7_mend_1 ?_
  refine x_rdV d_X7_mend_2 lk_7_85 mo_X7_panelAt vi_X7_panelAt (sp_pAt C.1.1 (cW_n C) hp) (o7_o C.1.1) ⟨_, rfl, rfl⟩ rfl ⟨Nat.le_of_ble_eq_true rfl, Nat.le_of_ble_eq_true rfl⟩ rfl rfl (Nat.zero_le _) (Nat.zero_le _) (Nat.le_of_ble_eq_true rfl) rfl ?_
  refine x_astore d_X7_mend_5 (Nat.le_of_ble_eq_true rfl) ?_
  refine x_aload rfl d_X7_mend_7 ?_
  refine x_ifnull d_X7_mend_9 ?_
  refine x_aload rfl d_X7_mend_12 ?_
  refine x_iload_n rfl d_X7_mend_14 ?_
  refine x_iload_n rfl d_X7_mend_15 ?_
  refine x_rdV d_X7_mend_16 lk_7_130 mo_X2_rowWith vi_X2_rowWith (sp_rowWith (cW_q C hp) hr hk) (o2_o (cW_q C hp).1) ⟨_, rfl, rfl⟩ rfl ⟨Nat.le_of_ble_eq_true rfl, Nat.le_of_ble_eq_true rfl⟩ rfl rfl (Nat.zero_le _) (Nat.zero_le _) (Nat.le_of_ble_eq_true rfl) rfl ?_
  refine x_ifnonnull (tgt := 24) d_X7_mend_19 (by decide) ?_
  refine x_aload_n rfl d_X7_mend_24 ?_
  refine x_getf co_all (v := .ref (a + 28)) d_X7_mend_25 fk_7_30 (o7_o C.1.1) rfl ?_
  refine x_aload rfl d_X7_mend_28 ?_
  refine x_iload_n rfl d_X7_mend_30 ?_
  refine x_iload_n rfl d_X7_mend_31 ?_
  refine x_wvV d_X7_mend_32 lk_7_193 mo_X0_trace vi_X0_trace (sp_traceT G hr hk (apW_sub (cW_a C hp) (by omega) (by omega)) (cW_q C hp) HG0 hT) (o0_o HG0) ⟨_, rfl, rfl⟩ rfl ⟨Nat.le_of_ble_eq_true rfl, Nat.le_of_ble_eq_true rfl⟩ (Nat.zero_le _) (Nat.zero_le _) (Nat.le_of_ble_eq_true rfl) rfl (fun h3 hp0 e1 e2 => ?_)
  obtain ⟨F3, E3, H3, I3⟩ := hp0
  have Cf := cF_G C.1 F3 H3
  have CW := cW_o C F3 (nFr_up (by omega) (by omega)) Cf rfl (fun _ => rfl)
  have hsz : E3 1 0 ≤ 480 := by rw [I3.1.2.1]; exact fb_ct_le T0 480
  have hod4 : E3 3 0 ≤ 480 := by rw [I3.1.2.2.1]; exact hod_le _ _ _ _
  have eTW : twn (E3 1 0) (E3 3 0) = twn (fb_ct T0 480) (hod (P p) (R p) T0 480) := by rw [I3.1.2.1, I3.1.2.2.1]
  refine x_aload_n rfl d_X7_mend_35 ?_
  refine x_getf co_all (v := .ref (a + 28)) d_X7_mend_36 fk_7_30 (o7_o Cf.1) rfl ?_
  refine x_rdV d_X7_mend_39 lk_7_201 mo_X0_twines vi_X0_twines (sp_twines H3 hsz hod4) (o0_o H3) ⟨_, rfl, rfl⟩ rfl ⟨Nat.le_of_ble_eq_true rfl, Nat.le_of_ble_eq_true rfl⟩ rfl rfl (Nat.zero_le _) (Nat.zero_le _) (Nat.le_of_ble_eq_true rfl) rfl ?_
  rw [eTW]
  refine x_istore d_X7_mend_42 (Nat.le_of_ble_eq_true rfl) ?_
  refine x_iload rfl d_X7_mend_44 ?_
  refine x_iconst (v := nI 1) (by decide) d_X7_mend_46 ?_
  refine x_icmp_eqN (tgt := 53) d_X7_mend_47 (by decide) (by omega) (by omega) (fun c_1 => ?_) (fun c_1 => by exfalso; exact c_1 h1)
  refine x_aload_n rfl d_X7_mend_53 ?_
  refine x_getf co_all (v := .ref (a + 28)) d_X7_mend_54 fk_7_30 (o7_o Cf.1) rfl ?_
  refine x_aload rfl d_X7_mend_57 ?_
  have hnn : nRd YX0_hasNeedle [.ref (a + 28), .ref (V 0 p)] h3 (.int (nI 0)) := by
    rcases sp_hn H3 (cW_q CW.2 hp) I3 (fun x hx => hTr_in G (by unfold gIn; rw [show (24 * r + k) / 24 = r by omega, show (24 * r + k) % 24 = k by omega]; exact ⟨hr, hk⟩) hT hx) with ⟨z, y⟩ | ⟨z, y⟩
    · exact absurd z hnd
    · exact y
  refine x_rdV d_X7_mend_59 lk_7_204 mo_X0_hasNeedle vi_X0_hasNeedle (hnn) (o0_o H3) ⟨_, rfl, rfl⟩ rfl ⟨Nat.le_of_ble_eq_true rfl, Nat.le_of_ble_eq_true rfl⟩ rfl rfl (Nat.zero_le _) (Nat.zero_le _) (Nat.le_of_ble_eq_true rfl) rfl ?_
  refine x_if_eqN (tgt := 68) d_X7_mend_62 (by decide) (by omega) (fun c_2 => ?_) (fun c_2 => by exfalso; omega)
  refine x_aload_n rfl d_X7_mend_68 ?_
  refine x_getf co_all (v := .ref (a + 53)) d_X7_mend_69 fk_7_36 (o7_o Cf.1) rfl ?_
  refine x_aload rfl d_X7_mend_72 ?_
  refine x_aload_n rfl d_X7_mend_74 ?_
  refine x_getf co_all (v := .ref (a + 28)) d_X7_mend_75 fk_7_30 (o7_o Cf.1) rfl ?_
  refine x_rdV d_X7_mend_78 lk_7_208 mo_X0_beginning vi_X0_beginning (sp_bg H3 I3 B) (o0_o H3) ⟨_, rfl, rfl⟩ rfl ⟨Nat.le_of_ble_eq_true rfl, Nat.le_of_ble_eq_true rfl⟩ rfl rfl (Nat.zero_le _) (Nat.zero_le _) (Nat.le_of_ble_eq_true rfl) rfl ?_
  refine x_wvV d_X7_mend_81 lk_7_211 mo_X6_walk vi_X6_walk (sp_walk hm hst hend (apW_sub (cW_a C hp) (y := a + 53) (m := 3) (by omega) (by omega)).1 (apW_sub (cW_a C hp) (y := a + 53) (m := 3) (by omega) (by omega)).2 Cf.2.2.2.1 (by rw [hR0]; exact cW_q CW.2 hp) hW0) (o6_o Cf.2.2.2.1) ⟨_, rfl, rfl⟩ rfl ⟨Nat.le_of_ble_eq_true rfl, Nat.le_of_ble_eq_true rfl⟩ (Nat.zero_le _) (Nat.zero_le _) (Nat.le_of_ble_eq_true rfl) rfl (fun h4 hpw e3 e4 => ?_)
  obtain ⟨F4, W4, H4⟩ := hpw
  have CF4 := cF_kY Cf F4.2.1 (fun q x1 x2 x3 => F4.2.2.2.2 q (fun y => by rcases y with y | ⟨r2, hr2, y⟩; exact x3 y; exact apW_S (cW_a C hp) (Or.inr ⟨r2, hr2, y⟩) ⟨x1, x2⟩)) H4
  have CB := cW_b CW.2 hp F4 (fun q z => by rcases z with z | ⟨r2, hr2, z⟩; exact Or.inl (nFr_up (by omega) (by omega) q z); exact Or.inr (Or.inr ⟨r2, hr2, z⟩)) CF4 W4
  refine x_iconst (v := nI 1) (by decide) d_X7_mend_84 ?_
  exact x_ireturn d_X7_mend_85 rfl rfl (F4.1.trans F3.1) (F4.2.1.trans F3.2.1) (Nat.zero_le _) (Nat.zero_le _) (⟨rfl, CW.1.tr CB.1, CB.2⟩)
