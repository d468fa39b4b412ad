/-! the hole: trace and what it tells -/
def hTr (P : Nat → Nat → Nat) (R : Nat → Nat → Nat → Nat) (s : Nat) (T : Nat → Bool) : Prop := (gsx P R s = 0 → ∀ x, T x = false) ∧ (¬ gsx P R s = 0 → ∀ x, T x = true ↔ gRe (P 5 0) R s x)
theorem hTr_in {P : Nat → Nat → Nat} {R : Nat → Nat → Nat → Nat} {s : Nat} {T : Nat → Bool} (G : gOK (P 5 0) R) (hs : gIn (P 5 0) R s) (h : hTr P R s T) {x : Nat} (hx : T x = true) : gIn (P 5 0) R x := by
  by_cases e : gsx P R s = 0
  · rw [h.1 e x] at hx; cases hx
  · exact gRe_in G hs ((h.2 e x).mp hx)
def hTE (E : Nat → Nat → Nat) (x : Nat) : Bool := decide (x < 480) && decide (E 6 (20 * (x % 24) + x / 24) = 1)
theorem hTE_T {E : Nat → Nat → Nat} {x : Nat} : hTE E x = true ↔ x < 480 ∧ E 6 (20 * (x % 24) + x / 24) = 1 := by simp [hTE]
theorem hTE_o {n s : Nat} {R : Nat → Nat → Nat → Nat} {E : Nat → Nat → Nat} (J : hJ n R s E) : hTo (hTE E) E := fun r k hr hk => by
  have e : hTE E (24 * r + k) = decide (E 6 (20 * k + r) = 1) := by
    unfold hTE
    rw [show (24 * r + k) % 24 = k by omega, show (24 * r + k) / 24 = r by omega, decide_eq_true (show 24 * r + k < 480 by omega), Bool.true_and]
  rw [e]
  rcases J.2.1 r k hr hk with z | ⟨z, -⟩
  · rw [z]; rfl
  · rw [z]; rfl
theorem hTE_re {n s : Nat} {R : Nat → Nat → Nat → Nat} {E : Nat → Nat → Nat} (hn : n ≤ 20) (hpl : ∀ j, j < n → R j 0 0 ≤ 24) (G : gOK n R) (hs : gIn n R s) (J : hJ n R s E) (h0 : E 6 (20 * (s % 24) + s / 24) = 1) (hp : ∀ j, j < E 8 0 → ∀ y, y < 480 → gE n R (24 * (E 7 j / 100) + E 7 j % 100) y → E 6 (20 * (y % 24) + y / 24) = 1) : ∀ x, hTE E x = true ↔ gRe n R s x := by
  have hlt : ∀ x, gIn n R x → x < 480 := fun x hx => by
    have h1 := hx.1
    omega
  intro x
  rw [hTE_T]
  constructor
  · rintro ⟨h1, h2⟩
    rcases J.2.1 (x / 24) (x % 24) (by omega) (by omega) with z | ⟨-, j, hj, h3⟩
    · omega
    · obtain ⟨r, k, g1, g2, -, -, g5, -, g7⟩ := J.1 j hj
      have e1 : r = x / 24 := by omega
      have e2 : k = x % 24 := by omega
      subst e1 e2
      rw [show 24 * (x / 24) + x % 24 = x by omega] at g7
      exact g7
  · intro hre
    refine hre (fun x => x < 480 ∧ E 6 (20 * (x % 24) + x / 24) = 1) ⟨hlt s hs, h0⟩ (fun y z hy e => ?_)
    obtain ⟨hy1, hy2⟩ := hy
    rcases J.2.1 (y / 24) (y % 24) (by omega) (by omega) with q | ⟨-, j, hj, h3⟩
    · omega
    · obtain ⟨r, k, g1, g2, g3, g4, g5, -, g7⟩ := J.1 j hj
      have e1 : r = y / 24 := by omega
      have e2 : k = y % 24 := by omega
      subst e1 e2
      have hz := hlt z (gE_in G (x := y) ⟨g3, g4⟩ e)
      refine ⟨hz, hp j hj z hz ?_⟩
      rw [g5, show 24 * ((100 * (y / 24) + y % 24) / 100) + (100 * (y / 24) + y % 24) % 100 = y by omega]
      exact e
theorem hIs_no {P : Nat → Nat → Nat} {R : Nat → Nat → Nat → Nat} {E : Nat → Nat → Nat} {n : Nat} (h : hCl n E) : hIs P R (fun _ => false) E := by
  have e1 : ∀ n, fb_ct (fun _ => false) n = 0 := fun n => fb_ct_zero.mpr (fun _ _ => rfl)
  have e2 : ∀ f : Nat → Nat, fb_sm (fun x => nb false * f x) 480 = 0 := fun f => Nat.le_zero.mp (Nat.le_trans (fb_sm_bound (c := 0) (fun k _ => by show 0 * f k ≤ 0; omega)) (by omega))
  refine ⟨⟨h.1, ?_, ?_, fun x _ z => by cases z⟩, ?_⟩
  · rw [e1]; exact h.2.1
  · rw [h.2.2.2.1]; exact (e2 _).symm
  · rw [h.2.2.1]
    unfold hen
    rw [e2]
theorem lp_trace {a b j k : Nat} {P : Nat → Nat → Nat} {R : Nat → Nat → Nat → Nat} (G : gOK (P 5 0) R) (hj : j < P 5 0) (hk : k < R j 0 0) (hap : apW a 25 b P) {h0 : nPH} (Wp0 : pW h0 b P R) (hne : ¬ gsx P R (24 * j + k) = 0) : ∀ n i : Nat, i + n = 480 → ∀ (h : nPH) (E : Nat → Nat → Nat), nFr (nIv a 25) h0 h → o0 h a E → hJ (P 5 0) R (24 * j + k) E → E 6 (20 * k + j) = 1 → (∀ i2, i2 < i ∧ i2 < E 8 0 → ∀ y, y < 480 → gE (P 5 0) R (24 * (E 7 i2 / 100) + E 7 i2 % 100) y → E 6 (20 * (y % 24) + y / 24) = 1) → E 8 0 ≤ 480 → nG YX0_trace (nKy YX0_trace h0.1 h0.2.1 (fun v h2 => v = none ∧ nFr (nIv a 25) h0 h2 ∧ ∃ E2 T, o0 h2 a E2 ∧ hIs P R T E2 ∧ hTr P R (24 * j + k) T)) 0 0 23 [some (.ref (a)), some (.ref (b)), some (.int (nI (j))), some (.int (nI (k))), some (.int (nI (i)))] [] h := by
  intro n
  induction n with
  | zero =>
    intro i hi h E F H J S0 A hle
    have Wp := pW_ap Wp0 F hap
    have hpl := fun j hj => (Wp.2.2.1 j hj).2.1.1
    have h480 := hJ_le J
    have hk24 := hpl j hj
    have hn20 := Wp.2.1
    refine x_iload rfl d_X0_trace_23 ?_
    refine x_aload_n rfl d_X0_trace_25 ?_
    refine x_getf co_all (v := .int (nI (E 8 0))) d_X0_trace_26 fk_0_39 (o0_o H) rfl ?_
    refine x_icmp_geN (tgt := 71) d_X0_trace_29 (by decide) (by omega) (by omega) (fun c_1 => ?_) (fun c_1 => by exfalso; omega)
    refine x_aload_n rfl d_X0_trace_71 ?_
    refine x_aload_n rfl d_X0_trace_72 ?_
    have hS : gIn (P 5 0) R (24 * j + k) := by unfold gIn; rw [show (24 * j + k) / 24 = j by omega, show (24 * j + k) % 24 = k by omega]; exact ⟨hj, hk⟩
    have hRE := hTE_re hn20 hpl G hS J (by rw [show (24 * j + k) / 24 = j by omega, show (24 * j + k) % 24 = k by omega]; exact S0) (fun i2 hi2 => A i2 ⟨by omega, hi2⟩)
    refine x_wvV d_X0_trace_73 lk_0_47 mo_X0_listReached vi_X0_listReached (sp_listReached (fun x hx => gRe_in G hS ((hRE x).mp hx)) hap Wp H (hTE_o J) J.2.2.2.1 J.2.2.2.2.1 J.2.2.2.2.2) (o0_o H) ⟨_, rfl, rfl⟩ rfl ⟨Nat.le_of_ble_eq_true rfl, Nat.le_of_ble_eq_true rfl⟩ (Nat.zero_le _) (Nat.zero_le _) (Nat.le_of_ble_eq_true rfl) rfl (fun h3 hp e1 e2 => ?_)
    obtain ⟨F3, E3, H3, I3⟩ := hp
    exact x_return d_X0_trace_76 rfl (F.tr F3).1 (F.tr F3).2.1 (Nat.zero_le _) (Nat.zero_le _) ⟨rfl, F.tr F3, E3, _, H3, I3, fun z => absurd z hne, fun _ => hRE⟩
  | succ n ih =>
    intro i hi h E F H J S0 A hle
    have Wp := pW_ap Wp0 F hap
    have hpl := fun j hj => (Wp.2.2.1 j hj).2.1.1
    have h480 := hJ_le J
    have hk24 := hpl j hj
    have hn20 := Wp.2.1
    refine x_iload rfl d_X0_trace_23 ?_
    refine x_aload_n rfl d_X0_trace_25 ?_
    refine x_getf co_all (v := .int (nI (E 8 0))) d_X0_trace_26 fk_0_39 (o0_o H) rfl ?_
    refine x_icmp_geN (tgt := 71) d_X0_trace_29 (by decide) (by omega) (by omega) (fun c_1 => ?_) (fun c_1 => ?_)
    · refine x_aload_n rfl d_X0_trace_71 ?_
      refine x_aload_n rfl d_X0_trace_72 ?_
      have hS : gIn (P 5 0) R (24 * j + k) := by unfold gIn; rw [show (24 * j + k) / 24 = j by omega, show (24 * j + k) % 24 = k by omega]; exact ⟨hj, hk⟩
      have hRE := hTE_re hn20 hpl G hS J (by rw [show (24 * j + k) / 24 = j by omega, show (24 * j + k) % 24 = k by omega]; exact S0) (fun i2 hi2 => A i2 ⟨by omega, hi2⟩)
      refine x_wvV d_X0_trace_73 lk_0_47 mo_X0_listReached vi_X0_listReached (sp_listReached (fun x hx => gRe_in G hS ((hRE x).mp hx)) hap Wp H (hTE_o J) J.2.2.2.1 J.2.2.2.2.1 J.2.2.2.2.2) (o0_o H) ⟨_, rfl, rfl⟩ rfl ⟨Nat.le_of_ble_eq_true rfl, Nat.le_of_ble_eq_true rfl⟩ (Nat.zero_le _) (Nat.zero_le _) (Nat.le_of_ble_eq_true rfl) rfl (fun h3 hp e1 e2 => ?_)
      obtain ⟨F3, E3, H3, I3⟩ := hp
      exact x_return d_X0_trace_76 rfl (F.tr F3).1 (F.tr F3).2.1 (Nat.zero_le _) (Nat.zero_le _) ⟨rfl, F.tr F3, E3, _, H3, I3, fun z => absurd z hne, fun _ => hRE⟩
    · refine x_iload rfl d_X0_trace_32 ?_
      refine x_sipush (v := nI 480) (by decide) d_X0_trace_34 ?_
      refine x_icmp_geN (tgt := 71) d_X0_trace_37 (by decide) (by omega) (by omega) (fun c_2 => by exfalso; omega) (fun c_2 => ?_)
      obtain ⟨r1, k1, q1, q2, q3, q4, q5, q6, q7⟩ := J.1 i (by omega)
      refine x_aload_n rfl d_X0_trace_40 ?_
      refine x_aload_n rfl d_X0_trace_41 ?_
      refine x_aload_n rfl d_X0_trace_42 ?_
      refine x_getf co_all (v := .ref (a + 24)) d_X0_trace_43 fk_0_23 (o0_o H) rfl ?_
      refine x_iload rfl d_X0_trace_46 ?_
      refine x_iaload d_X0_trace_48 (o0_7 H) (nIx_nI (j := i) (by omega) (by decide)) ?_
      refine x_bipush (v := nI 100) (by decide) d_X0_trace_49 ?_
      rw [q5]
      refine x_idivN d_X0_trace_51 (by decide) (by omega) (by decide) ?_
      rw [show (100 * r1 + k1) / 100 = r1 by omega]
      refine x_aload_n rfl d_X0_trace_52 ?_
      refine x_getf co_all (v := .ref (a + 24)) d_X0_trace_53 fk_0_23 (o0_o H) rfl ?_
      refine x_iload rfl d_X0_trace_56 ?_
      refine x_iaload d_X0_trace_58 (o0_7 H) (nIx_nI (j := i) (by omega) (by decide)) ?_
      refine x_bipush (v := nI 100) (by decide) d_X0_trace_59 ?_
      rw [q5]
      refine x_iremN d_X0_trace_61 (by decide) (by omega) (by decide) ?_
      rw [show (100 * r1 + k1) % 100 = k1 by omega]
      refine x_wvV d_X0_trace_62 lk_0_43 mo_X0_reachFrom vi_X0_reachFrom (sp_reachFrom G q3 q4 q7 hap Wp H J) (o0_o H) ⟨_, rfl, rfl⟩ rfl ⟨Nat.le_of_ble_eq_true rfl, Nat.le_of_ble_eq_true rfl⟩ (Nat.zero_le _) (Nat.zero_le _) (Nat.le_of_ble_eq_true rfl) rfl (fun h3 hp e1 e2 => ?_)
      obtain ⟨F3, E3, H3, J3, L3, X3⟩ := hp
      refine x_iincN (m := 1) d_X0_trace_65 rfl (by decide) (Nat.le_of_ble_eq_true rfl) ?_
      refine x_goto (tgt := 23) d_X0_trace_68 (by decide) ?_
      refine ih (i + 1) (by omega) h3 E3 (F.tr F3) H3 J3 (L3.2.2 _ S0) ?_ (hJ_le J3)
      rintro i2 ⟨hi2, hi3⟩ y hy e
      rcases Nat.lt_succ_iff_lt_or_eq.mp hi2 with z | z
      · rw [L3.2.1 i2 (by omega)] at e
        exact L3.2.2 _ (A i2 ⟨z, by omega⟩ y hy e)
      · subst z
        rw [L3.2.1 i2 (by omega), q5, show 24 * ((100 * r1 + k1) / 100) + (100 * r1 + k1) % 100 = 24 * r1 + k1 by omega] at e
        exact X3 y hy e
theorem sp_trace {a b j k : Nat} {P : Nat → Nat → Nat} {R : Nat → Nat → Nat → Nat} (G : gOK (P 5 0) R) (hj : j < P 5 0) (hk : k < R j 0 0) (hap : apW a 25 b P) {h0 : nPH} (Wp0 : pW h0 b P R) {E0 : Nat → Nat → Nat} (H : o0 h0 a E0) : nWv YX0_trace [.ref a, .ref b, .int (nI j), .int (nI k)] h0 none (fun h2 => nFr (nIv a 25) h0 h2 ∧ ∃ E2 T, o0 h2 a E2 ∧ hIs P R T E2 ∧ hTr P R (24 * j + k) T) := by
  have hk24 := (Wp0.2.2.1 j hj).2.1.1
  have hg48 := gsd_le (P := P) (R := R) (j := j) (i := k) (fun z => (Wp0.2.2.1 _ z).2.1.1)
  have hn20 := Wp0.2.1
  have hgx : gsx P R (24 * j + k) = gsd P R j k := by unfold gsx; rw [show (24 * j + k) / 24 = j by omega, show (24 * j + k) % 24 = k by omega]
  refine nSp_of (by decide +kernel) rfl (Nat.le_of_ble_eq_true rfl) (ls := [some (.ref (a)), some (.ref (b)), some (.int (nI (j))), some (.int (nI (k))), none]) (by exact (And.intro rfl (And.intro rfl (And.intro rfl (And.intro rfl True.intro))))) ?_
  refine x_aload_n rfl d_X0_trace_0 ?_
  refine x_wvV d_X0_trace_1 lk_0_26 mo_X0_clear vi_X0_clear (sp_clear H) (o0_o H) ⟨_, rfl, rfl⟩ rfl ⟨Nat.le_of_ble_eq_true rfl, Nat.le_of_ble_eq_true rfl⟩ (Nat.zero_le _) (Nat.zero_le _) (Nat.le_of_ble_eq_true rfl) rfl (fun h3 hp e1 e2 => ?_)
  obtain ⟨F3, E3, H3, C3⟩ := hp
  have Wp3 := pW_ap Wp0 F3 hap
  refine x_aload_n rfl d_X0_trace_4 ?_
  refine x_iload_n rfl d_X0_trace_5 ?_
  refine x_iload_n rfl d_X0_trace_6 ?_
  refine x_rdV d_X0_trace_7 lk_0_29 mo_X2_goneSidesAt vi_X2_goneSidesAt (sp_gsd Wp3 hj hk) (o2_o Wp3.1) ⟨_, rfl, rfl⟩ rfl ⟨Nat.le_of_ble_eq_true rfl, Nat.le_of_ble_eq_true rfl⟩ rfl rfl (Nat.zero_le _) (Nat.zero_le _) (Nat.le_of_ble_eq_true rfl) rfl ?_
  refine x_if_neN (tgt := 14) d_X0_trace_10 (by decide) (by omega) (fun c_1 => ?_) (fun c_1 => ?_)
  · refine x_aload_n rfl d_X0_trace_14 ?_
    refine x_iload_n rfl d_X0_trace_15 ?_
    refine x_iload_n rfl d_X0_trace_16 ?_
    have J0 : hJ (P 5 0) R (24 * j + k) E3 := ⟨fun i hi => absurd hi (by have := C3.2.2.2.2.1; omega), fun r k hr hk => Or.inl (C3.2.2.2.2.2 r k hr hk (by omega)), fun i i2 _ hi => absurd hi (by have := C3.2.2.2.2.1; omega), C3.1, C3.2.1, C3.2.2.2.1⟩
    refine x_wvV d_X0_trace_17 lk_0_35 mo_X0_reach vi_X0_reach (sp_reach H3 J0 (r := j) (k := k) (by omega) (by omega) hj hk (gRe.z _ _ _)) (o0_o H3) ⟨_, rfl, rfl⟩ rfl ⟨Nat.le_of_ble_eq_true rfl, Nat.le_of_ble_eq_true rfl⟩ (Nat.zero_le _) (Nat.zero_le _) (Nat.le_of_ble_eq_true rfl) rfl (fun h4 hp e1 e2 => ?_)
    obtain ⟨F4, E4, H4, J4, L4, X4⟩ := hp
    have hq0 : E4 8 0 = E4 8 0 := rfl
    refine x_iconst (v := nI 0) (by decide) d_X0_trace_20 ?_
    refine x_istore d_X0_trace_21 (Nat.le_of_ble_eq_true rfl) ?_
    exact lp_trace G hj hk hap Wp0 (by rw [hgx]; exact c_1) 480 0 (by omega) h4 E4 (F3.tr F4) H4 J4 X4 (fun i2 hi2 => absurd hi2.1 (by omega)) (hJ_le J4)
  · exact x_return d_X0_trace_13 rfl (F3).1 (F3).2.1 (Nat.zero_le _) (Nat.zero_le _) (⟨rfl, F3, E3, fun _ => false, H3, hIs_no C3, fun _ _ => rfl, fun z => absurd (by rw [hgx]; exact c_1) z⟩)
def twn (s o : Nat) : Nat := if s = 0 then 0 else if o = 0 then 1 else o / 2
theorem sp_twines {h : nPH} {a : Nat} {E : Nat → Nat → Nat} (H : o0 h a E) (h1 : E 1 0 ≤ 480) (h3 : E 3 0 ≤ 480) : nRd YX0_twines [.ref a] h (.int (nI (twn (E 1 0) (E 3 0)))) := by
  refine nSp_of (by decide +kernel) rfl (Nat.le_of_ble_eq_true rfl) (ls := [some (.ref (a))]) (by exact (And.intro rfl True.intro)) ?_
  refine x_aload_n rfl d_X0_twines_0 ?_
  refine x_getf co_all (v := .int (nI (E 1 0))) d_X0_twines_1 fk_0_55 (o0_o H) rfl ?_
  refine x_if_neN (tgt := 9) d_X0_twines_4 (by decide) (by omega) (fun c_1 => ?_) (fun c_1 => ?_)
  · refine x_aload_n rfl d_X0_twines_9 ?_
    refine x_getf co_all (v := .int (nI (E 3 0))) d_X0_twines_10 fk_0_61 (o0_o H) rfl ?_
    refine x_if_neN (tgt := 20) d_X0_twines_13 (by decide) (by omega) (fun c_2 => ?_) (fun c_2 => ?_)
    · refine x_aload_n rfl d_X0_twines_20 ?_
      refine x_getf co_all (v := .int (nI (E 3 0))) d_X0_twines_21 fk_0_61 (o0_o H) rfl ?_
      refine x_iconst (v := nI 2) (by decide) d_X0_twines_24 ?_
      refine x_idivN d_X0_twines_25 (by omega) (by omega) (by omega) ?_
      exact x_ireturn d_X0_twines_26 rfl rfl rfl rfl (Nat.zero_le _) (Nat.zero_le _) (⟨by unfold twn; rw [if_neg c_1, if_neg c_2], rfl⟩)
    · refine x_iconst (v := nI 1) (by decide) d_X0_twines_16 ?_
      refine x_goto (tgt := 26) d_X0_twines_17 (by decide) ?_
      exact x_ireturn d_X0_twines_26 rfl rfl rfl rfl (Nat.zero_le _) (Nat.zero_le _) (⟨by unfold twn; rw [if_neg c_1, if_pos c_2], rfl⟩)
  · refine x_iconst (v := nI 0) (by decide) d_X0_twines_7 ?_
    exact x_ireturn d_X0_twines_8 rfl rfl rfl rfl (Nat.zero_le _) (Nat.zero_le _) (⟨by unfold twn; rw [if_pos c_1], rfl⟩)

theorem sp_hTellN {h : nPH} {a : Nat} {E : Nat → Nat → Nat} (H : o0 h a E) (h0 : E 0 0 ≤ 1) (h1 : E 1 0 ≤ 480) (h3 : E 3 0 ≤ 480) {i c : Int32} (hn : E 0 0 = 0) : nRd YX0_tell [.ref a, .int i, .int c] h (.int (-1)) := by
  refine nSp_of (by decide +kernel) rfl (Nat.le_of_ble_eq_true rfl) (ls := [some (.ref (a)), some (.int (i)), some (.int (c))]) (by exact (And.intro rfl (And.intro rfl (And.intro rfl True.intro)))) ?_
  refine x_aload_n rfl d_X0_tell_0 ?_
  refine x_getf co_all (v := .int (nI (E 0 0))) d_X0_tell_1 fk_0_51 (o0_o H) rfl ?_
  refine x_if_neN (tgt := 9) d_X0_tell_4 (by decide) (by omega) (fun c_1 => by exfalso; omega) (fun c_1 => ?_)
  refine x_iconst (v := -1) (by decide) d_X0_tell_7 ?_
  exact x_ireturn d_X0_tell_8 rfl rfl rfl rfl (Nat.zero_le _) (Nat.zero_le _) (⟨rfl, rfl⟩)
theorem sp_hTell_0 {h : nPH} {a : Nat} {E : Nat → Nat → Nat} (H : o0 h a E) (h0 : E 0 0 ≤ 1) (h1 : E 1 0 ≤ 480) (h3 : E 3 0 ≤ 480) (hy : ¬ E 0 0 = 0) {j : Nat} (hj : j < E 1 0) : nRd YX0_tell [.ref (a), .int (nI (j)), .int (nI (0))] h (.int (nI (E 4 j))) := by
  refine nSp_of (by decide +kernel) rfl (Nat.le_of_ble_eq_true rfl) (ls := [some (.ref (a)), some (.int (nI (j))), some (.int (nI (0)))]) (by exact (And.intro rfl (And.intro rfl (And.intro rfl True.intro)))) ?_
  refine x_aload_n rfl d_X0_tell_0 ?_
  refine x_getf co_all (v := .int (nI (E 0 0))) d_X0_tell_1 fk_0_51 (o0_o H) rfl ?_
  refine x_if_neN (tgt := 9) d_X0_tell_4 (by decide) (by omega) (fun c_1 => ?_) (fun c_1 => by exfalso; exact hy c_1)
  refine x_iload_n rfl d_X0_tell_9 ?_
  refine x_tableIn (off := 34) (tgt := 44) d_X0_tell_10 (by decide) (by decide) (by decide) (by decide) ?_
  refine x_iload_n rfl d_X0_tell_44 ?_
  refine x_iconst (v := nI 0) (by decide) d_X0_tell_45 ?_
  refine x_aload_n rfl d_X0_tell_46 ?_
  refine x_getf co_all (v := .int (nI (E 1 0))) d_X0_tell_47 fk_0_55 (o0_o H) rfl ?_
  refine x_iconst (v := nI 1) (by decide) d_X0_tell_50 ?_
  refine x_isub d_X0_tell_51 ?_
  refine x_rdSN d_X0_tell_52 lk_0_64 mo_X7_within sc_X7_within (sp_wi (nI (j)) (n := E 1 0) (by omega)) rfl ⟨Nat.le_of_ble_eq_true rfl, Nat.le_of_ble_eq_true rfl⟩ rfl rfl (Nat.zero_le _) (Nat.zero_le _) (Nat.le_of_ble_eq_true rfl) rfl ?_
  have hle := nBi_le (nI (j)) (E 1 0)
  refine x_if_eqN (tgt := 67) d_X0_tell_55 (by decide) (by omega) (fun c_2 => by exfalso; rw [nBi_n (by omega)] at c_2; exact absurd hj (nB_0.mp c_2)) (fun c_2 => ?_)
  refine x_aload_n rfl d_X0_tell_58 ?_
  refine x_getf co_all (v := .ref (a + 1)) d_X0_tell_59 fk_0_9 (o0_o H) rfl ?_
  refine x_iload_n rfl d_X0_tell_62 ?_
  refine x_iaload d_X0_tell_63 (o0_4 H) (nIx_nI (j := j) (by omega) (by decide)) ?_
  refine x_goto (tgt := 68) d_X0_tell_64 (by decide) ?_
  exact x_ireturn d_X0_tell_68 rfl rfl rfl rfl (Nat.zero_le _) (Nat.zero_le _) (⟨rfl, rfl⟩)
theorem sp_hTell_0N {h : nPH} {a : Nat} {E : Nat → Nat → Nat} (H : o0 h a E) (h0 : E 0 0 ≤ 1) (h1 : E 1 0 ≤ 480) (h3 : E 3 0 ≤ 480) (hy : ¬ E 0 0 = 0) {i : Int32} (hj : ¬ nIn i (E 1 0)) : nRd YX0_tell [.ref (a), .int (i), .int (nI (0))] h (.int (-1)) := by
  refine nSp_of (by decide +kernel) rfl (Nat.le_of_ble_eq_true rfl) (ls := [some (.ref (a)), some (.int (i)), some (.int (nI (0)))]) (by exact (And.intro rfl (And.intro rfl (And.intro rfl True.intro)))) ?_
  refine x_aload_n rfl d_X0_tell_0 ?_
  refine x_getf co_all (v := .int (nI (E 0 0))) d_X0_tell_1 fk_0_51 (o0_o H) rfl ?_
  refine x_if_neN (tgt := 9) d_X0_tell_4 (by decide) (by omega) (fun c_1 => ?_) (fun c_1 => by exfalso; exact hy c_1)
  refine x_iload_n rfl d_X0_tell_9 ?_
  refine x_tableIn (off := 34) (tgt := 44) d_X0_tell_10 (by decide) (by decide) (by decide) (by decide) ?_
  refine x_iload_n rfl d_X0_tell_44 ?_
  refine x_iconst (v := nI 0) (by decide) d_X0_tell_45 ?_
  refine x_aload_n rfl d_X0_tell_46 ?_
  refine x_getf co_all (v := .int (nI (E 1 0))) d_X0_tell_47 fk_0_55 (o0_o H) rfl ?_
  refine x_iconst (v := nI 1) (by decide) d_X0_tell_50 ?_
  refine x_isub d_X0_tell_51 ?_
  refine x_rdSN d_X0_tell_52 lk_0_64 mo_X7_within sc_X7_within (sp_wi (i) (n := E 1 0) (by omega)) rfl ⟨Nat.le_of_ble_eq_true rfl, Nat.le_of_ble_eq_true rfl⟩ rfl rfl (Nat.zero_le _) (Nat.zero_le _) (Nat.le_of_ble_eq_true rfl) rfl ?_
  have hle := nBi_le (i) (E 1 0)
  refine x_if_eqN (tgt := 67) d_X0_tell_55 (by decide) (by omega) (fun c_2 => ?_) (fun c_2 => by exfalso; exact c_2 (nBi_F hj))
  refine x_iconst (v := -1) (by decide) d_X0_tell_67 ?_
  exact x_ireturn d_X0_tell_68 rfl rfl rfl rfl (Nat.zero_le _) (Nat.zero_le _) (⟨rfl, rfl⟩)
theorem sp_hTell_1 {h : nPH} {a : Nat} {E : Nat → Nat → Nat} (H : o0 h a E) (h0 : E 0 0 ≤ 1) (h1 : E 1 0 ≤ 480) (h3 : E 3 0 ≤ 480) (hy : ¬ E 0 0 = 0) {j : Nat} (hj : j < E 1 0) : nRd YX0_tell [.ref (a), .int (nI (j)), .int (nI (1))] h (.int (nI (E 5 j))) := by
  refine nSp_of (by decide +kernel) rfl (Nat.le_of_ble_eq_true rfl) (ls := [some (.ref (a)), some (.int (nI (j))), some (.int (nI (1)))]) (by exact (And.intro rfl (And.intro rfl (And.intro rfl True.intro)))) ?_
  refine x_aload_n rfl d_X0_tell_0 ?_
  refine x_getf co_all (v := .int (nI (E 0 0))) d_X0_tell_1 fk_0_51 (o0_o H) rfl ?_
  refine x_if_neN (tgt := 9) d_X0_tell_4 (by decide) (by omega) (fun c_1 => ?_) (fun c_1 => by exfalso; exact hy c_1)
  refine x_iload_n rfl d_X0_tell_9 ?_
  refine x_tableIn (off := 59) (tgt := 69) d_X0_tell_10 (by decide) (by decide) (by decide) (by decide) ?_
  refine x_iload_n rfl d_X0_tell_69 ?_
  refine x_iconst (v := nI 0) (by decide) d_X0_tell_70 ?_
  refine x_aload_n rfl d_X0_tell_71 ?_
  refine x_getf co_all (v := .int (nI (E 1 0))) d_X0_tell_72 fk_0_55 (o0_o H) rfl ?_
  refine x_iconst (v := nI 1) (by decide) d_X0_tell_75 ?_
  refine x_isub d_X0_tell_76 ?_
  refine x_rdSN d_X0_tell_77 lk_0_64 mo_X7_within sc_X7_within (sp_wi (nI (j)) (n := E 1 0) (by omega)) rfl ⟨Nat.le_of_ble_eq_true rfl, Nat.le_of_ble_eq_true rfl⟩ rfl rfl (Nat.zero_le _) (Nat.zero_le _) (Nat.le_of_ble_eq_true rfl) rfl ?_
  have hle := nBi_le (nI (j)) (E 1 0)
  refine x_if_eqN (tgt := 92) d_X0_tell_80 (by decide) (by omega) (fun c_2 => by exfalso; rw [nBi_n (by omega)] at c_2; exact absurd hj (nB_0.mp c_2)) (fun c_2 => ?_)
  refine x_aload_n rfl d_X0_tell_83 ?_
  refine x_getf co_all (v := .ref (a + 2)) d_X0_tell_84 fk_0_15 (o0_o H) rfl ?_
  refine x_iload_n rfl d_X0_tell_87 ?_
  refine x_iaload d_X0_tell_88 (o0_5 H) (nIx_nI (j := j) (by omega) (by decide)) ?_
  refine x_goto (tgt := 93) d_X0_tell_89 (by decide) ?_
  exact x_ireturn d_X0_tell_93 rfl rfl rfl rfl (Nat.zero_le _) (Nat.zero_le _) (⟨rfl, rfl⟩)
theorem sp_hTell_1N {h : nPH} {a : Nat} {E : Nat → Nat → Nat} (H : o0 h a E) (h0 : E 0 0 ≤ 1) (h1 : E 1 0 ≤ 480) (h3 : E 3 0 ≤ 480) (hy : ¬ E 0 0 = 0) {i : Int32} (hj : ¬ nIn i (E 1 0)) : nRd YX0_tell [.ref (a), .int (i), .int (nI (1))] h (.int (-1)) := by
  refine nSp_of (by decide +kernel) rfl (Nat.le_of_ble_eq_true rfl) (ls := [some (.ref (a)), some (.int (i)), some (.int (nI (1)))]) (by exact (And.intro rfl (And.intro rfl (And.intro rfl True.intro)))) ?_
  refine x_aload_n rfl d_X0_tell_0 ?_
  refine x_getf co_all (v := .int (nI (E 0 0))) d_X0_tell_1 fk_0_51 (o0_o H) rfl ?_
  refine x_if_neN (tgt := 9) d_X0_tell_4 (by decide) (by omega) (fun c_1 => ?_) (fun c_1 => by exfalso; exact hy c_1)
  refine x_iload_n rfl d_X0_tell_9 ?_
  refine x_tableIn (off := 59) (tgt := 69) d_X0_tell_10 (by decide) (by decide) (by decide) (by decide) ?_
  refine x_iload_n rfl d_X0_tell_69 ?_
  refine x_iconst (v := nI 0) (by decide) d_X0_tell_70 ?_
  refine x_aload_n rfl d_X0_tell_71 ?_
  refine x_getf co_all (v := .int (nI (E 1 0))) d_X0_tell_72 fk_0_55 (o0_o H) rfl ?_
  refine x_iconst (v := nI 1) (by decide) d_X0_tell_75 ?_
  refine x_isub d_X0_tell_76 ?_
  refine x_rdSN d_X0_tell_77 lk_0_64 mo_X7_within sc_X7_within (sp_wi (i) (n := E 1 0) (by omega)) rfl ⟨Nat.le_of_ble_eq_true rfl, Nat.le_of_ble_eq_true rfl⟩ rfl rfl (Nat.zero_le _) (Nat.zero_le _) (Nat.le_of_ble_eq_true rfl) rfl ?_
  have hle := nBi_le (i) (E 1 0)
  refine x_if_eqN (tgt := 92) d_X0_tell_80 (by decide) (by omega) (fun c_2 => ?_) (fun c_2 => by exfalso; exact c_2 (nBi_F hj))
  refine x_iconst (v := -1) (by decide) d_X0_tell_92 ?_
  exact x_ireturn d_X0_tell_93 rfl rfl rfl rfl (Nat.zero_le _) (Nat.zero_le _) (⟨rfl, rfl⟩)
theorem sp_hTell_2 {h : nPH} {a : Nat} {E : Nat → Nat → Nat} (H : o0 h a E) (h0 : E 0 0 ≤ 1) (h1 : E 1 0 ≤ 480) (h3 : E 3 0 ≤ 480) (hy : ¬ E 0 0 = 0) {i : Int32} : nRd YX0_tell [.ref (a), .int (i), .int (nI (2))] h (.int (nI (E 2 0))) := by
  refine nSp_of (by decide +kernel) rfl (Nat.le_of_ble_eq_true rfl) (ls := [some (.ref (a)), some (.int (i)), some (.int (nI (2)))]) (by exact (And.intro rfl (And.intro rfl (And.intro rfl True.intro)))) ?_
  refine x_aload_n rfl d_X0_tell_0 ?_
  refine x_getf co_all (v := .int (nI (E 0 0))) d_X0_tell_1 fk_0_51 (o0_o H) rfl ?_
  refine x_if_neN (tgt := 9) d_X0_tell_4 (by decide) (by omega) (fun c_1 => ?_) (fun c_1 => by exfalso; exact hy c_1)
  refine x_iload_n rfl d_X0_tell_9 ?_
  refine x_tableIn (off := 84) (tgt := 94) d_X0_tell_10 (by decide) (by decide) (by decide) (by decide) ?_
  refine x_aload_n rfl d_X0_tell_94 ?_
  refine x_getf co_all (v := .int (nI (E 2 0))) d_X0_tell_95 fk_0_58 (o0_o H) rfl ?_
  exact x_ireturn d_X0_tell_98 rfl rfl rfl rfl (Nat.zero_le _) (Nat.zero_le _) (⟨rfl, rfl⟩)
theorem sp_hTell_3 {h : nPH} {a : Nat} {E : Nat → Nat → Nat} (H : o0 h a E) (h0 : E 0 0 ≤ 1) (h1 : E 1 0 ≤ 480) (h3 : E 3 0 ≤ 480) (hy : ¬ E 0 0 = 0) {i : Int32} : nRd YX0_tell [.ref (a), .int (i), .int (nI (3))] h (.int (nI (E 3 0))) := by
  refine nSp_of (by decide +kernel) rfl (Nat.le_of_ble_eq_true rfl) (ls := [some (.ref (a)), some (.int (i)), some (.int (nI (3)))]) (by exact (And.intro rfl (And.intro rfl (And.intro rfl True.intro)))) ?_
  refine x_aload_n rfl d_X0_tell_0 ?_
  refine x_getf co_all (v := .int (nI (E 0 0))) d_X0_tell_1 fk_0_51 (o0_o H) rfl ?_
  refine x_if_neN (tgt := 9) d_X0_tell_4 (by decide) (by omega) (fun c_1 => ?_) (fun c_1 => by exfalso; exact hy c_1)
  refine x_iload_n rfl d_X0_tell_9 ?_
  refine x_tableIn (off := 89) (tgt := 99) d_X0_tell_10 (by decide) (by decide) (by decide) (by decide) ?_
  refine x_aload_n rfl d_X0_tell_99 ?_
  refine x_getf co_all (v := .int (nI (E 3 0))) d_X0_tell_100 fk_0_61 (o0_o H) rfl ?_
  exact x_ireturn d_X0_tell_103 rfl rfl rfl rfl (Nat.zero_le _) (Nat.zero_le _) (⟨rfl, rfl⟩)
theorem sp_hTell_4 {h : nPH} {a : Nat} {E : Nat → Nat → Nat} (H : o0 h a E) (h0 : E 0 0 ≤ 1) (h1 : E 1 0 ≤ 480) (h3 : E 3 0 ≤ 480) (hy : ¬ E 0 0 = 0) {i : Int32} : nRd YX0_tell [.ref (a), .int (i), .int (nI (4))] h (.int (nI (twn (E 1 0) (E 3 0)))) := by
  refine nSp_of (by decide +kernel) rfl (Nat.le_of_ble_eq_true rfl) (ls := [some (.ref (a)), some (.int (i)), some (.int (nI (4)))]) (by exact (And.intro rfl (And.intro rfl (And.intro rfl True.intro)))) ?_
  refine x_aload_n rfl d_X0_tell_0 ?_
  refine x_getf co_all (v := .int (nI (E 0 0))) d_X0_tell_1 fk_0_51 (o0_o H) rfl ?_
  refine x_if_neN (tgt := 9) d_X0_tell_4 (by decide) (by omega) (fun c_1 => ?_) (fun c_1 => by exfalso; exact hy c_1)
  refine x_iload_n rfl d_X0_tell_9 ?_
  refine x_tableIn (off := 94) (tgt := 104) d_X0_tell_10 (by decide) (by decide) (by decide) (by decide) ?_
  refine x_aload_n rfl d_X0_tell_104 ?_
  refine x_rdV d_X0_tell_105 lk_0_81 mo_X0_twines vi_X0_twines (sp_twines H h1 h3) (o0_o H) ⟨_, rfl, rfl⟩ rfl ⟨Nat.le_of_ble_eq_true rfl, Nat.le_of_ble_eq_true rfl⟩ rfl rfl (Nat.zero_le _) (Nat.zero_le _) (Nat.le_of_ble_eq_true rfl) rfl ?_
  exact x_ireturn d_X0_tell_108 rfl rfl rfl rfl (Nat.zero_le _) (Nat.zero_le _) (⟨rfl, rfl⟩)
theorem sp_hTell_o {h : nPH} {a : Nat} {E : Nat → Nat → Nat} (H : o0 h a E) (h0 : E 0 0 ≤ 1) (h1 : E 1 0 ≤ 480) (h3 : E 3 0 ≤ 480) (hy : ¬ E 0 0 = 0) {i c : Int32} (hq : c.toInt < 0 ∨ 4 < c.toInt) : nRd YX0_tell [.ref (a), .int (i), .int (c)] h (.int (-1)) := by
  refine nSp_of (by decide +kernel) rfl (Nat.le_of_ble_eq_true rfl) (ls := [some (.ref (a)), some (.int (i)), some (.int (c))]) (by exact (And.intro rfl (And.intro rfl (And.intro rfl True.intro)))) ?_
  refine x_aload_n rfl d_X0_tell_0 ?_
  refine x_getf co_all (v := .int (nI (E 0 0))) d_X0_tell_1 fk_0_51 (o0_o H) rfl ?_
  refine x_if_neN (tgt := 9) d_X0_tell_4 (by decide) (by omega) (fun c_1 => ?_) (fun c_1 => by exfalso; exact hy c_1)
  refine x_iload_n rfl d_X0_tell_9 ?_
  refine x_tableOut (tgt := 109) d_X0_tell_10 hq (by decide) ?_
  refine x_iconst (v := -1) (by decide) d_X0_tell_109 ?_
  exact x_ireturn d_X0_tell_110 rfl rfl rfl rfl (Nat.zero_le _) (Nat.zero_le _) (⟨rfl, rfl⟩)
def hnd (R : Nat → Nat → Nat → Nat) (E : Nat → Nat → Nat) (n : Nat) : Prop := ∃ i, i < n ∧ R (E 4 i / 100) 3 (E 4 i % 100) = 1
theorem lp_hnY {h : nPH} {a b : Nat} {P : Nat → Nat → Nat} {R : Nat → Nat → Nat → Nat} {E : Nat → Nat → Nat} (H : o0 h a E) (Wp : pW h b P R) (h1 : E 1 0 ≤ 480) (hin : ∀ i, i < E 1 0 → E 4 i < 2000 ∧ E 4 i / 100 < P 5 0 ∧ E 4 i % 100 < R (E 4 i / 100) 0 0) (m : Nat) (hm : m < E 1 0) (hno : ∀ i, i < m → ¬ R (E 4 i / 100) 3 (E 4 i % 100) = 1) (hys : R (E 4 m / 100) 3 (E 4 m % 100) = 1) : ∀ n i : Nat, i + n = m → nG YX0_hasNeedle (nKy YX0_hasNeedle h.1 h.2.1 (fun v h2 => v = some (.int (nI 1)) ∧ h2 = h)) 0 0 2 [some (.ref (a)), some (.ref (b)), some (.int (nI (i))), none, none] [] h := by
  intro n
  induction n with
  | zero =>
    intro i hi
    have e : i = m := by omega
    subst e
    have h24 := fun j hj => (Wp.2.2.1 j hj).2.1.1
    refine x_iload_n rfl d_X0_hasNeedle_2 ?_
    refine x_aload_n rfl d_X0_hasNeedle_3 ?_
    refine x_getf co_all (v := .int (nI (E 1 0))) d_X0_hasNeedle_4 fk_0_55 (o0_o H) rfl ?_
    refine x_icmp_geN (tgt := 60) d_X0_hasNeedle_7 (by decide) (by omega) (by omega) (fun c_1 => by exfalso; omega) (fun c_1 => ?_)
    obtain ⟨g0, g1, g2⟩ := hin i (by omega)
    have g3 := h24 _ g1
    have g4 := ((Wp.2.2.1 _ g1).2.1.2 (E 4 i % 100) (by omega)).2.2.1
    refine x_aload_n rfl d_X0_hasNeedle_10 ?_
    refine x_getf co_all (v := .ref (a + 1)) d_X0_hasNeedle_11 fk_0_9 (o0_o H) rfl ?_
    refine x_iload_n rfl d_X0_hasNeedle_14 ?_
    refine x_iaload d_X0_hasNeedle_15 (o0_4 H) (nIx_nI (j := i) (by omega) (by decide)) ?_
    refine x_bipush (v := nI 100) (by decide) d_X0_hasNeedle_16 ?_
    refine x_iremN d_X0_hasNeedle_18 (by omega) (by omega) (by omega) ?_
    refine x_istore_n d_X0_hasNeedle_19 (Nat.le_of_ble_eq_true rfl) ?_
    refine x_aload_n rfl d_X0_hasNeedle_20 ?_
    refine x_aload_n rfl d_X0_hasNeedle_21 ?_
    refine x_getf co_all (v := .ref (a + 1)) d_X0_hasNeedle_22 fk_0_9 (o0_o H) rfl ?_
    refine x_iload_n rfl d_X0_hasNeedle_25 ?_
    refine x_iaload d_X0_hasNeedle_26 (o0_4 H) (nIx_nI (j := i) (by omega) (by decide)) ?_
    refine x_bipush (v := nI 100) (by decide) d_X0_hasNeedle_27 ?_
    refine x_idivN d_X0_hasNeedle_29 (by omega) (by omega) (by omega) ?_
    refine x_iload_n rfl d_X0_hasNeedle_30 ?_
    refine x_rdV d_X0_hasNeedle_31 lk_0_85 mo_X2_rowWith vi_X2_rowWith (sp_rowWith Wp g1 g2) (o2_o Wp.1) ⟨_, rfl, rfl⟩ rfl ⟨Nat.le_of_ble_eq_true rfl, Nat.le_of_ble_eq_true rfl⟩ rfl rfl (Nat.zero_le _) (Nat.zero_le _) (Nat.le_of_ble_eq_true rfl) rfl ?_
    refine x_astore d_X0_hasNeedle_34 (Nat.le_of_ble_eq_true rfl) ?_
    refine x_aload rfl d_X0_hasNeedle_36 ?_
    refine x_ifnull d_X0_hasNeedle_38 ?_
    refine x_aload rfl d_X0_hasNeedle_41 ?_
    refine x_getf co_all (v := .ref (P 4 (E 4 i / 100) + 3)) d_X0_hasNeedle_43 fk_0_89 (o3_o (Wp.2.2.1 _ g1).1) rfl ?_
    refine x_iload_n rfl d_X0_hasNeedle_46 ?_
    refine x_iaload d_X0_hasNeedle_47 (o3_3 (Wp.2.2.1 _ g1).1) (nIx_nI (j := (E 4 i) % 100) (by omega) (by decide)) ?_
    refine x_iconst (v := nI 1) (by decide) d_X0_hasNeedle_48 ?_
    refine x_icmp_neN (tgt := 54) d_X0_hasNeedle_49 (by decide) (by omega) (by omega) (fun c_2 => by exfalso; exact c_2 hys) (fun c_2 => ?_)
    refine x_iconst (v := nI 1) (by decide) d_X0_hasNeedle_52 ?_
    exact x_ireturn d_X0_hasNeedle_53 rfl (by first | rfl | exact nB_nar _ | exact nB_nar1 (by omega)) rfl rfl (Nat.zero_le _) (Nat.zero_le _) (⟨rfl, rfl⟩)
  | succ n ih =>
    intro i hi
    have h24 := fun j hj => (Wp.2.2.1 j hj).2.1.1
    refine x_iload_n rfl d_X0_hasNeedle_2 ?_
    refine x_aload_n rfl d_X0_hasNeedle_3 ?_
    refine x_getf co_all (v := .int (nI (E 1 0))) d_X0_hasNeedle_4 fk_0_55 (o0_o H) rfl ?_
    refine x_icmp_geN (tgt := 60) d_X0_hasNeedle_7 (by decide) (by omega) (by omega) (fun c_1 => by exfalso; omega) (fun c_1 => ?_)
    obtain ⟨g0, g1, g2⟩ := hin i (by omega)
    have g3 := h24 _ g1
    have g4 := ((Wp.2.2.1 _ g1).2.1.2 (E 4 i % 100) (by omega)).2.2.1
    refine x_aload_n rfl d_X0_hasNeedle_10 ?_
    refine x_getf co_all (v := .ref (a + 1)) d_X0_hasNeedle_11 fk_0_9 (o0_o H) rfl ?_
    refine x_iload_n rfl d_X0_hasNeedle_14 ?_
    refine x_iaload d_X0_hasNeedle_15 (o0_4 H) (nIx_nI (j := i) (by omega) (by decide)) ?_
    refine x_bipush (v := nI 100) (by decide) d_X0_hasNeedle_16 ?_
    refine x_iremN d_X0_hasNeedle_18 (by omega) (by omega) (by omega) ?_
    refine x_istore_n d_X0_hasNeedle_19 (Nat.le_of_ble_eq_true rfl) ?_
    refine x_aload_n rfl d_X0_hasNeedle_20 ?_
    refine x_aload_n rfl d_X0_hasNeedle_21 ?_
    refine x_getf co_all (v := .ref (a + 1)) d_X0_hasNeedle_22 fk_0_9 (o0_o H) rfl ?_
    refine x_iload_n rfl d_X0_hasNeedle_25 ?_
    refine x_iaload d_X0_hasNeedle_26 (o0_4 H) (nIx_nI (j := i) (by omega) (by decide)) ?_
    refine x_bipush (v := nI 100) (by decide) d_X0_hasNeedle_27 ?_
    refine x_idivN d_X0_hasNeedle_29 (by omega) (by omega) (by omega) ?_
    refine x_iload_n rfl d_X0_hasNeedle_30 ?_
    refine x_rdV d_X0_hasNeedle_31 lk_0_85 mo_X2_rowWith vi_X2_rowWith (sp_rowWith Wp g1 g2) (o2_o Wp.1) ⟨_, rfl, rfl⟩ rfl ⟨Nat.le_of_ble_eq_true rfl, Nat.le_of_ble_eq_true rfl⟩ rfl rfl (Nat.zero_le _) (Nat.zero_le _) (Nat.le_of_ble_eq_true rfl) rfl ?_
    refine x_astore d_X0_hasNeedle_34 (Nat.le_of_ble_eq_true rfl) ?_
    refine x_aload rfl d_X0_hasNeedle_36 ?_
    refine x_ifnull d_X0_hasNeedle_38 ?_
    refine x_aload rfl d_X0_hasNeedle_41 ?_
    refine x_getf co_all (v := .ref (P 4 (E 4 i / 100) + 3)) d_X0_hasNeedle_43 fk_0_89 (o3_o (Wp.2.2.1 _ g1).1) rfl ?_
    refine x_iload_n rfl d_X0_hasNeedle_46 ?_
    refine x_iaload d_X0_hasNeedle_47 (o3_3 (Wp.2.2.1 _ g1).1) (nIx_nI (j := (E 4 i) % 100) (by omega) (by decide)) ?_
    refine x_iconst (v := nI 1) (by decide) d_X0_hasNeedle_48 ?_
    refine x_icmp_neN (tgt := 54) d_X0_hasNeedle_49 (by decide) (by omega) (by omega) (fun c_2 => ?_) (fun c_2 => by exfalso; exact hno i (by omega) (by omega))
    refine x_iincN (m := 1) d_X0_hasNeedle_54 rfl (by decide) (Nat.le_of_ble_eq_true rfl) ?_
    refine x_goto (tgt := 2) d_X0_hasNeedle_57 (by decide) ?_
    exact nG.sub (by exact (And.intro rfl (And.intro rfl (And.intro rfl True.intro)))) (ih (i + 1) (by omega))
theorem sp_hnY {h : nPH} {a b : Nat} {P : Nat → Nat → Nat} {R : Nat → Nat → Nat → Nat} {E : Nat → Nat → Nat} (H : o0 h a E) (Wp : pW h b P R) (h1 : E 1 0 ≤ 480) (hin : ∀ i, i < E 1 0 → E 4 i < 2000 ∧ E 4 i / 100 < P 5 0 ∧ E 4 i % 100 < R (E 4 i / 100) 0 0) (m : Nat) (hm : m < E 1 0) (hno : ∀ i, i < m → ¬ R (E 4 i / 100) 3 (E 4 i % 100) = 1) (hys : R (E 4 m / 100) 3 (E 4 m % 100) = 1) : nRd YX0_hasNeedle [.ref a, .ref b] h (.int (nI 1)) := by
  refine nSp_of (by decide +kernel) rfl (Nat.le_of_ble_eq_true rfl) (ls := [some (.ref (a)), some (.ref (b)), none, none, none]) (by exact (And.intro rfl (And.intro rfl True.intro))) ?_
  refine x_iconst (v := nI 0) (by decide) d_X0_hasNeedle_0 ?_
  refine x_istore_n d_X0_hasNeedle_1 (Nat.le_of_ble_eq_true rfl) ?_
  exact nG.sub (by exact (And.intro rfl (And.intro rfl (And.intro rfl True.intro)))) (lp_hnY H Wp h1 hin m hm hno hys m 0 (by omega))
theorem lp_hnN {h : nPH} {a b : Nat} {P : Nat → Nat → Nat} {R : Nat → Nat → Nat → Nat} {E : Nat → Nat → Nat} (H : o0 h a E) (Wp : pW h b P R) (h1 : E 1 0 ≤ 480) (hin : ∀ i, i < E 1 0 → E 4 i < 2000 ∧ E 4 i / 100 < P 5 0 ∧ E 4 i % 100 < R (E 4 i / 100) 0 0) (hno : ∀ i, i < E 1 0 → ¬ R (E 4 i / 100) 3 (E 4 i % 100) = 1) : ∀ n i : Nat, i + n = E 1 0 → nG YX0_hasNeedle (nKy YX0_hasNeedle h.1 h.2.1 (fun v h2 => v = some (.int (nI 0)) ∧ h2 = h)) 0 0 2 [some (.ref (a)), some (.ref (b)), some (.int (nI (i))), none, none] [] h := by
  intro n
  induction n with
  | zero =>
    intro i hi
    refine x_iload_n rfl d_X0_hasNeedle_2 ?_
    refine x_aload_n rfl d_X0_hasNeedle_3 ?_
    refine x_getf co_all (v := .int (nI (E 1 0))) d_X0_hasNeedle_4 fk_0_55 (o0_o H) rfl ?_
    refine x_icmp_geN (tgt := 60) d_X0_hasNeedle_7 (by decide) (by omega) (by omega) (fun c_1 => ?_) (fun c_1 => by exfalso; omega)
    refine x_iconst (v := nI 0) (by decide) d_X0_hasNeedle_60 ?_
    exact x_ireturn d_X0_hasNeedle_61 rfl (by first | rfl | exact nB_nar _ | exact nB_nar1 (by omega)) rfl rfl (Nat.zero_le _) (Nat.zero_le _) (⟨rfl, rfl⟩)
  | succ n ih =>
    intro i hi
    have h24 := fun j hj => (Wp.2.2.1 j hj).2.1.1
    refine x_iload_n rfl d_X0_hasNeedle_2 ?_
    refine x_aload_n rfl d_X0_hasNeedle_3 ?_
    refine x_getf co_all (v := .int (nI (E 1 0))) d_X0_hasNeedle_4 fk_0_55 (o0_o H) rfl ?_
    refine x_icmp_geN (tgt := 60) d_X0_hasNeedle_7 (by decide) (by omega) (by omega) (fun c_1 => by exfalso; omega) (fun c_1 => ?_)
    obtain ⟨g0, g1, g2⟩ := hin i (by omega)
    have g3 := h24 _ g1
    have g4 := ((Wp.2.2.1 _ g1).2.1.2 (E 4 i % 100) (by omega)).2.2.1
    refine x_aload_n rfl d_X0_hasNeedle_10 ?_
    refine x_getf co_all (v := .ref (a + 1)) d_X0_hasNeedle_11 fk_0_9 (o0_o H) rfl ?_
    refine x_iload_n rfl d_X0_hasNeedle_14 ?_
    refine x_iaload d_X0_hasNeedle_15 (o0_4 H) (nIx_nI (j := i) (by omega) (by decide)) ?_
    refine x_bipush (v := nI 100) (by decide) d_X0_hasNeedle_16 ?_
    refine x_iremN d_X0_hasNeedle_18 (by omega) (by omega) (by omega) ?_
    refine x_istore_n d_X0_hasNeedle_19 (Nat.le_of_ble_eq_true rfl) ?_
    refine x_aload_n rfl d_X0_hasNeedle_20 ?_
    refine x_aload_n rfl d_X0_hasNeedle_21 ?_
    refine x_getf co_all (v := .ref (a + 1)) d_X0_hasNeedle_22 fk_0_9 (o0_o H) rfl ?_
    refine x_iload_n rfl d_X0_hasNeedle_25 ?_
    refine x_iaload d_X0_hasNeedle_26 (o0_4 H) (nIx_nI (j := i) (by omega) (by decide)) ?_
    refine x_bipush (v := nI 100) (by decide) d_X0_hasNeedle_27 ?_
    refine x_idivN d_X0_hasNeedle_29 (by omega) (by omega) (by omega) ?_
    refine x_iload_n rfl d_X0_hasNeedle_30 ?_
    refine x_rdV d_X0_hasNeedle_31 lk_0_85 mo_X2_rowWith vi_X2_rowWith (sp_rowWith Wp g1 g2) (o2_o Wp.1) ⟨_, rfl, rfl⟩ rfl ⟨Nat.le_of_ble_eq_true rfl, Nat.le_of_ble_eq_true rfl⟩ rfl rfl (Nat.zero_le _) (Nat.zero_le _) (Nat.le_of_ble_eq_true rfl) rfl ?_
    refine x_astore d_X0_hasNeedle_34 (Nat.le_of_ble_eq_true rfl) ?_
    refine x_aload rfl d_X0_hasNeedle_36 ?_
    refine x_ifnull d_X0_hasNeedle_38 ?_
    refine x_aload rfl d_X0_hasNeedle_41 ?_
    refine x_getf co_all (v := .ref (P 4 (E 4 i / 100) + 3)) d_X0_hasNeedle_43 fk_0_89 (o3_o (Wp.2.2.1 _ g1).1) rfl ?_
    refine x_iload_n rfl d_X0_hasNeedle_46 ?_
    refine x_iaload d_X0_hasNeedle_47 (o3_3 (Wp.2.2.1 _ g1).1) (nIx_nI (j := (E 4 i) % 100) (by omega) (by decide)) ?_
    refine x_iconst (v := nI 1) (by decide) d_X0_hasNeedle_48 ?_
    refine x_icmp_neN (tgt := 54) d_X0_hasNeedle_49 (by decide) (by omega) (by omega) (fun c_2 => ?_) (fun c_2 => by exfalso; exact hno i (by omega) (by omega))
    refine x_iincN (m := 1) d_X0_hasNeedle_54 rfl (by decide) (Nat.le_of_ble_eq_true rfl) ?_
    refine x_goto (tgt := 2) d_X0_hasNeedle_57 (by decide) ?_
    exact nG.sub (by exact (And.intro rfl (And.intro rfl (And.intro rfl True.intro)))) (ih (i + 1) (by omega))
theorem sp_hnN {h : nPH} {a b : Nat} {P : Nat → Nat → Nat} {R : Nat → Nat → Nat → Nat} {E : Nat → Nat → Nat} (H : o0 h a E) (Wp : pW h b P R) (h1 : E 1 0 ≤ 480) (hin : ∀ i, i < E 1 0 → E 4 i < 2000 ∧ E 4 i / 100 < P 5 0 ∧ E 4 i % 100 < R (E 4 i / 100) 0 0) (hno : ∀ i, i < E 1 0 → ¬ R (E 4 i / 100) 3 (E 4 i % 100) = 1) : nRd YX0_hasNeedle [.ref a, .ref b] h (.int (nI 0)) := by
  refine nSp_of (by decide +kernel) rfl (Nat.le_of_ble_eq_true rfl) (ls := [some (.ref (a)), some (.ref (b)), none, none, none]) (by exact (And.intro rfl (And.intro rfl True.intro))) ?_
  refine x_iconst (v := nI 0) (by decide) d_X0_hasNeedle_0 ?_
  refine x_istore_n d_X0_hasNeedle_1 (Nat.le_of_ble_eq_true rfl) ?_
  exact nG.sub (by exact (And.intro rfl (And.intro rfl (And.intro rfl True.intro)))) (lp_hnN H Wp h1 hin hno (E 1 0) 0 (by omega))
theorem lp_bgY {h : nPH} {a : Nat} {E : Nat → Nat → Nat} (H : o0 h a E) (h1 : E 1 0 ≤ 480) (ho : ∀ i, i < E 1 0 → E 5 i ≤ 1) (m : Nat) (hm : m < E 1 0) (hno : ∀ i, i < m → ¬ E 5 i = 1) (hys : E 5 m = 1) : ∀ n i : Nat, i + n = m → nG YX0_beginning (nKy YX0_beginning h.1 h.2.1 (fun v h2 => v = some (.int (nI (E 4 m))) ∧ h2 = h)) 0 0 2 [some (.ref (a)), some (.int (nI (i)))] [] h := by
  intro n
  induction n with
  | zero =>
    intro i hi
    have e : i = m := by omega
    subst e
    have ho1 := ho i hm
    refine x_iload_n rfl d_X0_beginning_2 ?_
    refine x_aload_n rfl d_X0_beginning_3 ?_
    refine x_getf co_all (v := .int (nI (E 1 0))) d_X0_beginning_4 fk_0_55 (o0_o H) rfl ?_
    refine x_icmp_geN (tgt := 33) d_X0_beginning_7 (by decide) (by omega) (by omega) (fun c_1 => by exfalso; omega) (fun c_1 => ?_)
    refine x_aload_n rfl d_X0_beginning_10 ?_
    refine x_getf co_all (v := .ref (a + 2)) d_X0_beginning_11 fk_0_15 (o0_o H) rfl ?_
    refine x_iload_n rfl d_X0_beginning_14 ?_
    refine x_iaload d_X0_beginning_15 (o0_5 H) (nIx_nI (j := i) (by omega) (by decide)) ?_
    refine x_iconst (v := nI 1) (by decide) d_X0_beginning_16 ?_
    refine x_icmp_neN (tgt := 27) d_X0_beginning_17 (by decide) (by omega) (by omega) (fun c_2 => by exfalso; exact c_2 hys) (fun c_2 => ?_)
    refine x_aload_n rfl d_X0_beginning_20 ?_
    refine x_getf co_all (v := .ref (a + 1)) d_X0_beginning_21 fk_0_9 (o0_o H) rfl ?_
    refine x_iload_n rfl d_X0_beginning_24 ?_
    refine x_iaload d_X0_beginning_25 (o0_4 H) (nIx_nI (j := i) (by omega) (by decide)) ?_
    exact x_ireturn d_X0_beginning_26 rfl rfl rfl rfl (Nat.zero_le _) (Nat.zero_le _) (⟨rfl, rfl⟩)
  | succ n ih =>
    intro i hi
    have ho1 := ho i (by omega)
    refine x_iload_n rfl d_X0_beginning_2 ?_
    refine x_aload_n rfl d_X0_beginning_3 ?_
    refine x_getf co_all (v := .int (nI (E 1 0))) d_X0_beginning_4 fk_0_55 (o0_o H) rfl ?_
    refine x_icmp_geN (tgt := 33) d_X0_beginning_7 (by decide) (by omega) (by omega) (fun c_1 => by exfalso; omega) (fun c_1 => ?_)
    refine x_aload_n rfl d_X0_beginning_10 ?_
    refine x_getf co_all (v := .ref (a + 2)) d_X0_beginning_11 fk_0_15 (o0_o H) rfl ?_
    refine x_iload_n rfl d_X0_beginning_14 ?_
    refine x_iaload d_X0_beginning_15 (o0_5 H) (nIx_nI (j := i) (by omega) (by decide)) ?_
    refine x_iconst (v := nI 1) (by decide) d_X0_beginning_16 ?_
    refine x_icmp_neN (tgt := 27) d_X0_beginning_17 (by decide) (by omega) (by omega) (fun c_2 => ?_) (fun c_2 => by exfalso; exact hno i (by omega) (by omega))
    refine x_iincN (m := 1) d_X0_beginning_27 rfl (by decide) (Nat.le_of_ble_eq_true rfl) ?_
    refine x_goto (tgt := 2) d_X0_beginning_30 (by decide) ?_
    exact ih (i + 1) (by omega)
theorem sp_bgY {h : nPH} {a : Nat} {E : Nat → Nat → Nat} (H : o0 h a E) (h1 : E 1 0 ≤ 480) (ho : ∀ i, i < E 1 0 → E 5 i ≤ 1) (m : Nat) (hm : m < E 1 0) (hno : ∀ i, i < m → ¬ E 5 i = 1) (hys : E 5 m = 1) : nRd YX0_beginning [.ref a] h (.int (nI (E 4 m))) := by
  refine nSp_of (by decide +kernel) rfl (Nat.le_of_ble_eq_true rfl) (ls := [some (.ref (a)), none]) (by exact (And.intro rfl True.intro)) ?_
  refine x_iconst (v := nI 0) (by decide) d_X0_beginning_0 ?_
  refine x_istore_n d_X0_beginning_1 (Nat.le_of_ble_eq_true rfl) ?_
  exact lp_bgY H h1 ho m hm hno hys m 0 (by omega)
theorem lp_bgN {h : nPH} {a : Nat} {E : Nat → Nat → Nat} (H : o0 h a E) (h1 : E 1 0 ≤ 480) (ho : ∀ i, i < E 1 0 → E 5 i ≤ 1) (hno : ∀ i, i < E 1 0 → ¬ E 5 i = 1) : ∀ n i : Nat, i + n = E 1 0 → nG YX0_beginning (nKy YX0_beginning h.1 h.2.1 (fun v h2 => v = some (.int (nI (E 4 0))) ∧ h2 = h)) 0 0 2 [some (.ref (a)), some (.int (nI (i)))] [] h := by
  intro n
  induction n with
  | zero =>
    intro i hi
    refine x_iload_n rfl d_X0_beginning_2 ?_
    refine x_aload_n rfl d_X0_beginning_3 ?_
    refine x_getf co_all (v := .int (nI (E 1 0))) d_X0_beginning_4 fk_0_55 (o0_o H) rfl ?_
    refine x_icmp_geN (tgt := 33) d_X0_beginning_7 (by decide) (by omega) (by omega) (fun c_1 => ?_) (fun c_1 => by exfalso; omega)
    refine x_aload_n rfl d_X0_beginning_33 ?_
    refine x_getf co_all (v := .ref (a + 1)) d_X0_beginning_34 fk_0_9 (o0_o H) rfl ?_
    refine x_iconst (v := nI 0) (by decide) d_X0_beginning_37 ?_
    refine x_iaload d_X0_beginning_38 (o0_4 H) (nIx_nI (j := 0) (by omega) (by decide)) ?_
    exact x_ireturn d_X0_beginning_39 rfl rfl rfl rfl (Nat.zero_le _) (Nat.zero_le _) (⟨rfl, rfl⟩)
  | succ n ih =>
    intro i hi
    have ho1 := ho i (by omega)
    refine x_iload_n rfl d_X0_beginning_2 ?_
    refine x_aload_n rfl d_X0_beginning_3 ?_
    refine x_getf co_all (v := .int (nI (E 1 0))) d_X0_beginning_4 fk_0_55 (o0_o H) rfl ?_
    refine x_icmp_geN (tgt := 33) d_X0_beginning_7 (by decide) (by omega) (by omega) (fun c_1 => by exfalso; omega) (fun c_1 => ?_)
    refine x_aload_n rfl d_X0_beginning_10 ?_
    refine x_getf co_all (v := .ref (a + 2)) d_X0_beginning_11 fk_0_15 (o0_o H) rfl ?_
    refine x_iload_n rfl d_X0_beginning_14 ?_
    refine x_iaload d_X0_beginning_15 (o0_5 H) (nIx_nI (j := i) (by omega) (by decide)) ?_
    refine x_iconst (v := nI 1) (by decide) d_X0_beginning_16 ?_
    refine x_icmp_neN (tgt := 27) d_X0_beginning_17 (by decide) (by omega) (by omega) (fun c_2 => ?_) (fun c_2 => by exfalso; exact hno i (by omega) (by omega))
    refine x_iincN (m := 1) d_X0_beginning_27 rfl (by decide) (Nat.le_of_ble_eq_true rfl) ?_
    refine x_goto (tgt := 2) d_X0_beginning_30 (by decide) ?_
    exact ih (i + 1) (by omega)
theorem sp_bgN {h : nPH} {a : Nat} {E : Nat → Nat → Nat} (H : o0 h a E) (h1 : E 1 0 ≤ 480) (ho : ∀ i, i < E 1 0 → E 5 i ≤ 1) (hno : ∀ i, i < E 1 0 → ¬ E 5 i = 1) : nRd YX0_beginning [.ref a] h (.int (nI (E 4 0))) := by
  refine nSp_of (by decide +kernel) rfl (Nat.le_of_ble_eq_true rfl) (ls := [some (.ref (a)), none]) (by exact (And.intro rfl True.intro)) ?_
  refine x_iconst (v := nI 0) (by decide) d_X0_beginning_0 ?_
  refine x_istore_n d_X0_beginning_1 (Nat.le_of_ble_eq_true rfl) ?_
  exact lp_bgN H h1 ho hno (E 1 0) 0 (by omega)
