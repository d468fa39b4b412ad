/-! the hole: what is led to by sides that are gone -/
/-- every knot hangs in knots that are there -/
def gOK (n : Nat) (R : Nat → Nat → Nat → Nat) : Prop := (∀ k, k < R 0 0 0 → R 0 5 k = 0) ∧ ∀ r, r + 1 < n → ∀ k, k < R (r + 1) 0 0 → R (r + 1) 5 k = 0 ∨ R (r + 1) 4 k + R (r + 1) 5 k ≤ R r 0 0
theorem igo_hg {D : Nat → Nat → Nat} {k q : Nat} (h : igo D k q = true) : D 4 k ≤ q ∧ q < D 4 k + D 5 k := by
  unfold igo at h
  rw [Bool.and_eq_true] at h
  exact hgb_T.mp h.1
theorem gOK_in {n : Nat} {R : Nat → Nat → Nat → Nat} (G : gOK n R) {r k q : Nat} (hr : r < n) (hk : k < R r 0 0) (h : igo (R r) k q = true) : 1 ≤ r ∧ q < R (r - 1) 0 0 := by
  have h2 := igo_hg h
  match r, hr, hk, h2 with
  | 0, hr, hk, h2 =>
    have := G.1 k hk
    omega
  | r + 1, hr, hk, h2 =>
    rcases G.2 r hr k hk with e | e
    · omega
    · exact ⟨by omega, by show q < R r 0 0; omega⟩
/-- a side that is gone leads from x to y; knot k of row r is 24 * r + k -/
def gE (n : Nat) (R : Nat → Nat → Nat → Nat) (x y : Nat) : Prop := (x / 24 = y / 24 + 1 ∧ igo (R (x / 24)) (x % 24) (y % 24) = true) ∨ (y / 24 = x / 24 + 1 ∧ y / 24 < n ∧ y % 24 < R (y / 24) 0 0 ∧ igo (R (y / 24)) (y % 24) (x % 24) = true)
/-- led to from s -/
def gRe (n : Nat) (R : Nat → Nat → Nat → Nat) (s x : Nat) : Prop := ∀ Q : Nat → Prop, Q s → (∀ y z, Q y → gE n R y z → Q z) → Q x
theorem gRe.z (n : Nat) (R : Nat → Nat → Nat → Nat) (s : Nat) : gRe n R s s := fun _ h _ => h
theorem gRe.st {n : Nat} {R : Nat → Nat → Nat → Nat} {s x y : Nat} (h : gRe n R s x) (e : gE n R x y) : gRe n R s y := fun Q h1 h2 => h2 x y (h Q h1 h2) e
def gIn (n : Nat) (R : Nat → Nat → Nat → Nat) (x : Nat) : Prop := x / 24 < n ∧ x % 24 < R (x / 24) 0 0
theorem gE_in {n : Nat} {R : Nat → Nat → Nat → Nat} (G : gOK n R) {x y : Nat} (hx : gIn n R x) (e : gE n R x y) : gIn n R y := by
  rcases e with ⟨e1, e2⟩ | ⟨e1, e2, e3, e4⟩
  · have := gOK_in G hx.1 hx.2 e2
    refine ⟨by have := hx.1; omega, ?_⟩
    rw [show y / 24 = x / 24 - 1 by omega]
    exact this.2
  · exact ⟨e2, e3⟩
theorem gRe_in {n : Nat} {R : Nat → Nat → Nat → Nat} (G : gOK n R) {s x : Nat} (hs : gIn n R s) (h : gRe n R s x) : gIn n R x := h (gIn n R) hs (fun _ _ hy e => gE_in G hy e)
theorem gE_up {n : Nat} {R : Nat → Nat → Nat → Nat} {r k q : Nat} (hk : k < 24) (hq : q < 24) (h1 : 1 ≤ r) (h : igo (R r) k q = true) : gE n R (24 * r + k) (24 * (r - 1) + q) := by
  refine Or.inl ⟨by omega, ?_⟩
  rw [show (24 * r + k) / 24 = r by omega, show (24 * r + k) % 24 = k by omega, show (24 * (r - 1) + q) % 24 = q by omega]
  exact h
theorem gE_dn {n : Nat} {R : Nat → Nat → Nat → Nat} {r k q : Nat} (hk : k < 24) (hq : q < 24) (hr : r + 1 < n) (h1 : q < R (r + 1) 0 0) (h : igo (R (r + 1)) q k = true) : gE n R (24 * r + k) (24 * (r + 1) + q) := by
  refine Or.inr ⟨by omega, ?_⟩
  rw [show (24 * (r + 1) + q) / 24 = r + 1 by omega, show (24 * (r + 1) + q) % 24 = q by omega, show (24 * r + k) % 24 = k by omega]
  exact ⟨hr, h1, h⟩
def hJ (n : Nat) (R : Nat → Nat → Nat → Nat) (s : Nat) (E : Nat → Nat → Nat) : Prop :=
  (∀ j, j < E 8 0 → ∃ r k, r < 20 ∧ k < 24 ∧ r < n ∧ k < R r 0 0 ∧ E 7 j = 100 * r + k ∧ E 6 (20 * k + r) = 1 ∧ gRe n R s (24 * r + k)) ∧
  (∀ r k, r < 20 → k < 24 → E 6 (20 * k + r) = 0 ∨ (E 6 (20 * k + r) = 1 ∧ ∃ j, j < E 8 0 ∧ E 7 j = 100 * r + k)) ∧
  (∀ i j, i < j → j < E 8 0 → E 7 i ≠ E 7 j) ∧ E 0 0 = 1 ∧ E 1 0 = 0 ∧ E 3 0 = 0
def hLe (E E2 : Nat → Nat → Nat) : Prop := E 8 0 ≤ E2 8 0 ∧ (∀ j, j < E 8 0 → E2 7 j = E 7 j) ∧ ∀ x, E 6 x = 1 → E2 6 x = 1
theorem hLe.rf (E : Nat → Nat → Nat) : hLe E E := ⟨Nat.le_refl _, fun _ _ => rfl, fun _ h => h⟩
theorem hLe.tr {E E2 E3 : Nat → Nat → Nat} (a : hLe E E2) (b : hLe E2 E3) : hLe E E3 := ⟨Nat.le_trans a.1 b.1, fun j h => (b.2.1 j (Nat.lt_of_lt_of_le h a.1)).trans (a.2.1 j h), fun x h => b.2.2 x (a.2.2 x h)⟩
section HJ
variable {n s : Nat} {R : Nat → Nat → Nat → Nat} {E : Nat → Nat → Nat}
theorem hJ_c (J : hJ n R s E) : (∀ i, i < E 8 0 → 24 * (E 7 i / 100) + E 7 i % 100 < 480) ∧ ∀ i j, i < j → j < E 8 0 → 24 * (E 7 i / 100) + E 7 i % 100 ≠ 24 * (E 7 j / 100) + E 7 j % 100 := by
  refine ⟨fun i hi => ?_, fun i j hij hj => ?_⟩
  · obtain ⟨r, k, h1, h2, -, -, h3, -⟩ := J.1 i hi
    omega
  · obtain ⟨r, k, h1, h2, -, -, h3, -⟩ := J.1 i (by omega)
    obtain ⟨r2, k2, g1, g2, -, -, g3, -⟩ := J.1 j hj
    have := J.2.2.1 i j hij hj
    omega
theorem hJ_le (J : hJ n R s E) : E 8 0 ≤ 480 := fb_holes 480 (E 8 0) (fun i => 24 * (E 7 i / 100) + E 7 i % 100) (hJ_c J).1 (hJ_c J).2
theorem hJ_full (J : hJ n R s E) (h : 480 ≤ E 8 0) {r k : Nat} (hr : r < 20) (hk : k < 24) : E 6 (20 * k + r) = 1 := by
  have e : E 8 0 = 480 := Nat.le_antisymm (hJ_le J) h
  obtain ⟨i, hi, he⟩ := fb_onto (n := 480) (f := fun i => 24 * (E 7 i / 100) + E 7 i % 100) (fun i hi => (hJ_c J).1 i (by omega)) (fun i j h1 h2 => (hJ_c J).2 i j h1 (by omega)) (y := 24 * r + k) (by omega)
  obtain ⟨r2, k2, h1, h2, -, -, h3, h4, -⟩ := J.1 i (by omega)
  have he : 24 * (E 7 i / 100) + E 7 i % 100 = 24 * r + k := he
  have e1 : r2 = r := by omega
  have e2 : k2 = k := by omega
  subst e1 e2
  exact h4
def hPu (E : Nat → Nat → Nat) (r k : Nat) : Nat → Nat → Nat := u2 (u2 (u2 E 6 (20 * k + r) 1) 7 (E 8 0) (100 * r + k)) 8 0 (E 8 0 + 1)
theorem hPu_6 (E : Nat → Nat → Nat) (r k x : Nat) : hPu E r k 6 x = if x = 20 * k + r then 1 else E 6 x := by
  unfold hPu
  rw [u2_ne (by omega), u2_ne (by omega)]
  unfold u2
  simp
theorem hPu_7 (E : Nat → Nat → Nat) (r k x : Nat) : hPu E r k 7 x = if x = E 8 0 then 100 * r + k else E 7 x := by
  unfold hPu
  rw [u2_ne (by omega)]
  unfold u2
  simp
theorem hPu_8 (E : Nat → Nat → Nat) (r k : Nat) : hPu E r k 8 0 = E 8 0 + 1 := u2_eq _ _ _ _
theorem hPu_o (E : Nat → Nat → Nat) (r k f x : Nat) (hf : f < 6) : hPu E r k f x = E f x := by
  unfold hPu
  rw [u2_ne (by omega), u2_ne (by omega), u2_ne (by omega)]
theorem hPu_le {r k : Nat} : hLe E (hPu E r k) := by
  refine ⟨by rw [hPu_8]; omega, fun j hj => ?_, fun x hx => ?_⟩
  · rw [hPu_7, if_neg (by omega)]
  · rw [hPu_6, hx]
    split <;> rfl
theorem hPu_J (J : hJ n R s E) {r k : Nat} (hr : r < 20) (hk : k < 24) (hn : r < n) (hw : k < R r 0 0) (hre : gRe n R s (24 * r + k)) (h0 : E 6 (20 * k + r) = 0) : hJ n R s (hPu E r k) := by
  have L := hPu_le (E := E) (r := r) (k := k)
  refine ⟨fun j hj => ?_, fun r2 k2 hr2 hk2 => ?_, fun i j hij hj => ?_, ?_, ?_, ?_⟩
  · rw [hPu_8] at hj
    by_cases e : j = E 8 0
    · refine ⟨r, k, hr, hk, hn, hw, ?_, ?_, hre⟩
      · rw [hPu_7, if_pos e]
      · rw [hPu_6, if_pos rfl]
    · obtain ⟨r2, k2, h1, h2, h3, h4, h5, h6, h7⟩ := J.1 j (by omega)
      exact ⟨r2, k2, h1, h2, h3, h4, (L.2.1 j (by omega)).trans h5, L.2.2 _ h6, h7⟩
  · rw [hPu_6]
    by_cases e : 20 * k2 + r2 = 20 * k + r
    · rw [if_pos e]
      refine Or.inr ⟨rfl, E 8 0, by rw [hPu_8]; omega, ?_⟩
      rw [hPu_7, if_pos rfl]
      omega
    · rw [if_neg e]
      rcases J.2.1 r2 k2 hr2 hk2 with h | ⟨h, j, hj, h5⟩
      · exact Or.inl h
      · exact Or.inr ⟨h, j, by rw [hPu_8]; omega, (L.2.1 j hj).trans h5⟩
  · rw [hPu_8] at hj
    have hi : E 8 0 ≠ i := by omega
    rw [hPu_7 E r k i, if_neg (Ne.symm hi), hPu_7]
    obtain ⟨r2, k2, h1, h2, h3, h4, h5, h6, h7⟩ := J.1 i (by omega)
    by_cases e : j = E 8 0
    · rw [if_pos e, h5]
      intro z
      have e1 : r2 = r := by omega
      have e2 : k2 = k := by omega
      subst e1 e2
      omega
    · rw [if_neg e]
      exact J.2.2.1 i j hij (by omega)
  · rw [hPu_o _ _ _ _ _ (by decide)]; exact J.2.2.2.1
  · rw [hPu_o _ _ _ _ _ (by decide)]; exact J.2.2.2.2.1
  · rw [hPu_o _ _ _ _ _ (by decide)]; exact J.2.2.2.2.2
end HJ
def apW (x n b : Nat) (P : Nat → Nat → Nat) : Prop := ap x n b 3 ∧ ∀ r, r < P 5 0 → ap x n (P 4 r) 7
theorem pW_ap {h h2 : nPH} {b x n : Nat} {P : Nat → Nat → Nat} {R : Nat → Nat → Nat → Nat} (W : pW h b P R) (F : nFr (nIv x n) h h2) (A : apW x n b P) : pW h2 b P R := pW_fr W F (ap_fr (S := fun _ => True) (ap_sy A.1)) (fun r hr => ap_fr (S := fun _ => True) (ap_sy (A.2 r hr)))
theorem lt1 {p X : Nat → Prop} {q : Nat} (h : ∀ q2, q2 < q → p q2 → X q2) (h1 : p q → X q) : ∀ q2, q2 < q + 1 → p q2 → X q2 := fun q2 hq e => by
  rcases Nat.lt_succ_iff_lt_or_eq.mp hq with z | z
  · exact h q2 z e
  · subst z
    exact h1 e
theorem sp_reach {h : nPH} {a : Nat} {E : Nat → Nat → Nat} (H : o0 h a E) {n s : Nat} {R : Nat → Nat → Nat → Nat} (J : hJ n R s E) {r k : Nat} (hr : r < 20) (hk : k < 24) (hn : r < n) (hw : k < R r 0 0) (hre : gRe n R s (24 * r + k)) : nWv YX0_reach [.ref (a), .int (nI (r)), .int (nI (k))] h none (fun h2 => nFr (nIv a 25) h h2 ∧ ∃ E2, o0 h2 a E2 ∧ hJ n R s E2 ∧ hLe E E2 ∧ E2 6 (20 * k + r) = 1) := by
  have h480 := hJ_le J
  have h61 : E 6 (20 * k + r) ≤ 1 := by rcases J.2.1 r k hr hk with z | z <;> omega
  refine nSp_of (by decide +kernel) rfl (Nat.le_of_ble_eq_true rfl) (ls := [some (.ref (a)), some (.int (nI (r))), some (.int (nI (k)))]) (by exact (And.intro rfl (And.intro rfl (And.intro rfl True.intro)))) ?_
  refine x_iload_n rfl d_X0_reach_0 ?_
  refine x_iconst (v := nI 0) (by decide) d_X0_reach_1 ?_
  refine x_bipush (v := nI 19) (by decide) d_X0_reach_2 ?_
  refine x_rdSN d_X0_reach_4 lk_0_64 mo_X7_within sc_X7_within (sp_within (nI (r)) (nI (0)) (nI (19))) rfl ⟨Nat.le_of_ble_eq_true rfl, Nat.le_of_ble_eq_true rfl⟩ rfl rfl (Nat.zero_le _) (Nat.zero_le _) (Nat.le_of_ble_eq_true rfl) rfl ?_
  rw [nB_T (show nI 0 ≤ nI r ∧ nI r ≤ nI 19 from ⟨(nI_leI (by decide) (by omega)).mpr (by omega), (nI_leI (by omega) (by decide)).mpr (by omega)⟩)]
  refine x_if_eqN (tgt := 20) d_X0_reach_7 (by decide) (by omega) (fun c_1 => by exfalso; omega) (fun c_1 => ?_)
  refine x_iload_n rfl d_X0_reach_10 ?_
  refine x_iconst (v := nI 0) (by decide) d_X0_reach_11 ?_
  refine x_bipush (v := nI 23) (by decide) d_X0_reach_12 ?_
  refine x_rdSN d_X0_reach_14 lk_0_64 mo_X7_within sc_X7_within (sp_within (nI (k)) (nI (0)) (nI (23))) rfl ⟨Nat.le_of_ble_eq_true rfl, Nat.le_of_ble_eq_true rfl⟩ rfl rfl (Nat.zero_le _) (Nat.zero_le _) (Nat.le_of_ble_eq_true rfl) rfl ?_
  rw [nB_T (show nI 0 ≤ nI k ∧ nI k ≤ nI 23 from ⟨(nI_leI (by decide) (by omega)).mpr (by omega), (nI_leI (by omega) (by decide)).mpr (by omega)⟩)]
  refine x_if_neN (tgt := 21) d_X0_reach_17 (by decide) (by omega) (fun c_2 => ?_) (fun c_2 => by exfalso; omega)
  refine x_aload_n rfl d_X0_reach_21 ?_
  refine x_getf co_all (v := .ref (a + 3)) d_X0_reach_22 fk_0_20 (o0_o H) rfl ?_
  refine x_iload_n rfl d_X0_reach_25 ?_
  refine x_aaload d_X0_reach_26 (o0_6 H) rfl (nIx_nI (j := r) (by omega) (by decide)) rfl ?_
  refine x_iload_n rfl d_X0_reach_27 ?_
  refine x_iaload d_X0_reach_28 (o0_6i H (r := (r)) (by omega)) (nIx_nI (j := k) (by omega) (by decide)) ?_
  show nG _ _ _ _ _ _ (.int (nI (E 6 (20 * k + r))) :: _) _
  refine x_if_neN (tgt := 76) d_X0_reach_29 (by decide) (by omega) (fun c_3 => ?_) (fun c_3 => ?_)
  · exact x_return d_X0_reach_76 rfl ((nFr.rf (S := nIv a 25) (h := h))).1 ((nFr.rf (S := nIv a 25) (h := h))).2.1 (Nat.zero_le _) (Nat.zero_le _) (⟨rfl, nFr.rf, E, H, J, hLe.rf E, by first | omega | exact hJ_full J (by omega) hr hk⟩)
  · refine x_aload_n rfl d_X0_reach_32 ?_
    refine x_getf co_all (v := .int (nI (E 8 0))) d_X0_reach_33 fk_0_39 (o0_o H) rfl ?_
    refine x_sipush (v := nI 480) (by decide) d_X0_reach_36 ?_
    refine x_icmp_geN (tgt := 76) d_X0_reach_39 (by decide) (by omega) (by omega) (fun c_4 => ?_) (fun c_4 => ?_)
    · exact x_return d_X0_reach_76 rfl ((nFr.rf (S := nIv a 25) (h := h))).1 ((nFr.rf (S := nIv a 25) (h := h))).2.1 (Nat.zero_le _) (Nat.zero_le _) (⟨rfl, nFr.rf, E, H, J, hLe.rf E, by first | omega | exact hJ_full J (by omega) hr hk⟩)
    · refine x_aload_n rfl d_X0_reach_42 ?_
      refine x_getf co_all (v := .ref (a + 3)) d_X0_reach_43 fk_0_20 (o0_o H) rfl ?_
      refine x_iload_n rfl d_X0_reach_46 ?_
      refine x_aaload d_X0_reach_47 (o0_6 H) rfl (nIx_nI (j := r) (by omega) (by decide)) rfl ?_
      refine x_iload_n rfl d_X0_reach_48 ?_
      refine x_iconst (v := nI 1) (by decide) d_X0_reach_49 ?_
      refine x_iastore d_X0_reach_50 (o0_6i H (r := (r)) (by omega)) (nIx_nI (j := k) (by omega) (by decide)) (Nat.le_trans (o0_B H) (Nat.le_add_right _ _)) ?_
      have H5_0 := o0_ast6 (r) (k) (1) (by omega) H
      have f_6 := o0_f6 (r) (k) (1) (by omega) H ((nFr.rf (S := nIv a 25) (h := h))) (by exact ⟨by omega, by omega⟩)
      refine x_aload_n rfl d_X0_reach_51 ?_
      refine x_getf co_all (v := .ref (a + 24)) d_X0_reach_52 fk_0_23 (o0_o H5_0) rfl ?_
      refine x_aload_n rfl d_X0_reach_55 ?_
      refine x_getf co_all (v := .int (nI (E 8 0))) d_X0_reach_56 fk_0_39 (o0_o H5_0) rfl ?_
      refine x_bipush (v := nI 100) (by decide) d_X0_reach_59 ?_
      refine x_iload_n rfl d_X0_reach_61 ?_
      refine x_imulN d_X0_reach_62 ?_
      refine x_iload_n rfl d_X0_reach_63 ?_
      refine x_iaddN d_X0_reach_64 ?_
      refine x_iastore d_X0_reach_65 (o0_7 H5_0) (nIx_nI (j := E 8 0) (by omega) (by decide)) (Nat.le_trans (o0_B H5_0) (Nat.le_add_right _ _)) ?_
      have H7_0 := o0_ast7 (E 8 0) ((100 * r) + k) H5_0
      have f_8 := o0_f7 (E 8 0) ((100 * r) + k) H5_0 (f_6) (by exact ⟨by omega, by omega⟩)
      refine x_aload_n rfl d_X0_reach_66 ?_
      refine x_dup rfl d_X0_reach_67 ?_
      refine x_getf co_all (v := .int (nI (E 8 0))) d_X0_reach_68 fk_0_39 (o0_o H7_0) rfl ?_
      refine x_iconst (v := nI 1) (by decide) d_X0_reach_71 ?_
      refine x_iaddN d_X0_reach_72 ?_
      refine x_putf co_all d_X0_reach_73 fk_0_39 ft_0_8 (o0_o H7_0) (Nat.le_of_ble_eq_true rfl) rfl rfl (o0_B H7_0) ?_
      have H9_0 := o0_put8 ((E 8 0) + 1) H7_0
      have f_10 := o0_g8 ((E 8 0) + 1) H7_0 (f_8) (by exact ⟨by omega, by omega⟩)
      exact x_return d_X0_reach_76 rfl (f_10).1 (f_10).2.1 (Nat.zero_le _) (Nat.zero_le _) (⟨rfl, f_10, _, H9_0, hPu_J J hr hk hn hw hre (by omega), hPu_le, by show hPu E r k 6 (20 * k + r) = 1; rw [hPu_6, if_pos rfl]⟩)
def hCl (x : Nat) (E : Nat → Nat → Nat) : Prop := E 0 0 = 1 ∧ E 1 0 = 0 ∧ E 2 0 = 0 ∧ E 3 0 = 0 ∧ E 8 0 = 0 ∧ ∀ r k, r < 20 → k < 24 → 24 * r + k < x → E 6 (20 * k + r) = 0
theorem hCl_st {x r k : Nat} {E : Nat → Nat → Nat} (h : hCl x E) (hx : x = 24 * r + k) (hr : r < 20) (hk : k < 24) : hCl (x + 1) (u2 E 6 (20 * k + r) 0) := by
  obtain ⟨h1, h2, h3, h4, h5, h6⟩ := h
  refine ⟨h1, h2, h3, h4, h5, fun r2 k2 hr2 hk2 hx2 => ?_⟩
  by_cases e : 20 * k2 + r2 = 20 * k + r
  · rw [e, u2_eq]
  · rw [u2_ne (by omega)]
    exact h6 r2 k2 hr2 hk2 (by omega)
theorem lp_clear1 {h0 : nPH} {a r : Nat} (hr : r < 20) (K : ∀ (h : nPH) (E : Nat → Nat → Nat), nFr (nIv a 25) h0 h → o0 h a E → hCl (24 * (r + 1)) E → nG YX0_clear (nKy YX0_clear h0.1 h0.2.1 (fun v h2 => v = none ∧ nFr (nIv a 25) h0 h2 ∧ ∃ E2, o0 h2 a E2 ∧ hCl 480 E2)) 0 0 27 [some (.ref (a)), some (.int (nI (r + 1))), none] [] h) : ∀ n k : Nat, k + n = 24 → ∀ (h : nPH) (E : Nat → Nat → Nat), nFr (nIv a 25) h0 h → o0 h a E → hCl (24 * r + k) E → nG YX0_clear (nKy YX0_clear h0.1 h0.2.1 (fun v h2 => v = none ∧ nFr (nIv a 25) h0 h2 ∧ ∃ E2, o0 h2 a E2 ∧ hCl 480 E2)) 0 0 35 [some (.ref (a)), some (.int (nI (r))), some (.int (nI (k)))] [] h := by
  intro n
  induction n with
  | zero =>
    intro k hk h E F H C
    refine x_iload_n rfl d_X0_clear_35 ?_
    refine x_bipush (v := nI 24) (by decide) d_X0_clear_36 ?_
    refine x_icmp_geN (tgt := 56) d_X0_clear_38 (by decide) (by omega) (by omega) (fun c_1 => ?_) (fun c_1 => by exfalso; omega)
    refine x_iincN (m := 1) d_X0_clear_56 rfl (by decide) (Nat.le_of_ble_eq_true rfl) ?_
    refine x_goto (tgt := 27) d_X0_clear_59 (by decide) ?_
    exact nG.sub (by exact (And.intro rfl (And.intro rfl True.intro))) (K h E F H (by rw [show 24 * (r + 1) = 24 * r + k by omega]; exact C))
  | succ n ih =>
    intro k hk h E F H C
    refine x_iload_n rfl d_X0_clear_35 ?_
    refine x_bipush (v := nI 24) (by decide) d_X0_clear_36 ?_
    refine x_icmp_geN (tgt := 56) d_X0_clear_38 (by decide) (by omega) (by omega) (fun c_1 => by exfalso; omega) (fun c_1 => ?_)
    refine x_aload_n rfl d_X0_clear_41 ?_
    refine x_getf co_all (v := .ref (a + 3)) d_X0_clear_42 fk_0_20 (o0_o H) rfl ?_
    refine x_iload_n rfl d_X0_clear_45 ?_
    refine x_aaload d_X0_clear_46 (o0_6 H) rfl (nIx_nI (j := r) (by omega) (by decide)) rfl ?_
    refine x_iload_n rfl d_X0_clear_47 ?_
    refine x_iconst (v := nI 0) (by decide) d_X0_clear_48 ?_
    refine x_iastore d_X0_clear_49 (o0_6i H (r := (r)) (by omega)) (nIx_nI (j := k) (by omega) (by decide)) (Nat.le_trans (o0_B H) (Nat.le_add_right _ _)) ?_
    have H2_0 := o0_ast6 (r) (k) (0) (by omega) H
    have f_3 := o0_f6 (r) (k) (0) (by omega) H (F) (by exact ⟨by omega, by omega⟩)
    refine x_iincN (m := 1) d_X0_clear_50 rfl (by decide) (Nat.le_of_ble_eq_true rfl) ?_
    refine x_goto (tgt := 35) d_X0_clear_53 (by decide) ?_
    exact ih (k + 1) (by omega) _ _ f_3 H2_0 (hCl_st C rfl hr (by omega))
theorem lp_clear {h0 : nPH} {a : Nat} : ∀ n r : Nat, r + n = 20 → ∀ (h : nPH) (E : Nat → Nat → Nat), nFr (nIv a 25) h0 h → o0 h a E → hCl (24 * r) E → nG YX0_clear (nKy YX0_clear h0.1 h0.2.1 (fun v h2 => v = none ∧ nFr (nIv a 25) h0 h2 ∧ ∃ E2, o0 h2 a E2 ∧ hCl 480 E2)) 0 0 27 [some (.ref (a)), some (.int (nI (r))), none] [] h := by
  intro n
  induction n with
  | zero =>
    intro r hr h E F H C
    refine x_iload_n rfl d_X0_clear_27 ?_
    refine x_bipush (v := nI 20) (by decide) d_X0_clear_28 ?_
    refine x_icmp_geN (tgt := 62) d_X0_clear_30 (by decide) (by omega) (by omega) (fun c_1 => ?_) (fun c_1 => by exfalso; omega)
    exact x_return d_X0_clear_62 rfl F.1 F.2.1 (Nat.zero_le _) (Nat.zero_le _) (⟨rfl, F, E, H, by rw [show 480 = 24 * r by omega]; exact C⟩)
  | succ n ih =>
    intro r hr h E F H C
    refine x_iload_n rfl d_X0_clear_27 ?_
    refine x_bipush (v := nI 20) (by decide) d_X0_clear_28 ?_
    refine x_icmp_geN (tgt := 62) d_X0_clear_30 (by decide) (by omega) (by omega) (fun c_1 => by exfalso; omega) (fun c_1 => ?_)
    refine x_iconst (v := nI 0) (by decide) d_X0_clear_33 ?_
    refine x_istore_n d_X0_clear_34 (Nat.le_of_ble_eq_true rfl) ?_
    exact lp_clear1 (by omega) (fun h E F H C => ih (r + 1) (by omega) h E F H C) 24 0 (by omega) h E F H C
theorem sp_clear {h : nPH} {a : Nat} {E : Nat → Nat → Nat} (H : o0 h a E) : nWv YX0_clear [.ref (a)] h none (fun h2 => nFr (nIv a 25) h h2 ∧ ∃ E2, o0 h2 a E2 ∧ hCl 480 E2) := by
  refine nSp_of (by decide +kernel) rfl (Nat.le_of_ble_eq_true rfl) (ls := [some (.ref (a)), none, none]) (by exact (And.intro rfl True.intro)) ?_
  refine x_aload_n rfl d_X0_clear_0 ?_
  refine x_iconst (v := nI 1) (by decide) d_X0_clear_1 ?_
  refine x_putf co_all d_X0_clear_2 fk_0_51 ft_0_0 (o0_o H) (Nat.le_of_ble_eq_true rfl) rfl rfl (o0_B H) ?_
  have H1_0 := o0_put0 (1) H
  have f_2 := o0_g0 (1) H ((nFr.rf (S := nIv a 25) (h := h))) (by exact ⟨by omega, by omega⟩)
  refine x_aload_n rfl d_X0_clear_5 ?_
  refine x_iconst (v := nI 0) (by decide) d_X0_clear_6 ?_
  refine x_putf co_all d_X0_clear_7 fk_0_55 ft_0_1 (o0_o H1_0) (Nat.le_of_ble_eq_true rfl) rfl rfl (o0_B H1_0) ?_
  have H3_0 := o0_put1 (0) H1_0
  have f_4 := o0_g1 (0) H1_0 (f_2) (by exact ⟨by omega, by omega⟩)
  refine x_aload_n rfl d_X0_clear_10 ?_
  refine x_iconst (v := nI 0) (by decide) d_X0_clear_11 ?_
  refine x_putf co_all d_X0_clear_12 fk_0_58 ft_0_2 (o0_o H3_0) (Nat.le_of_ble_eq_true rfl) rfl rfl (o0_B H3_0) ?_
  have H5_0 := o0_put2 (0) H3_0
  have f_6 := o0_g2 (0) H3_0 (f_4) (by exact ⟨by omega, by omega⟩)
  refine x_aload_n rfl d_X0_clear_15 ?_
  refine x_iconst (v := nI 0) (by decide) d_X0_clear_16 ?_
  refine x_putf co_all d_X0_clear_17 fk_0_61 ft_0_3 (o0_o H5_0) (Nat.le_of_ble_eq_true rfl) rfl rfl (o0_B H5_0) ?_
  have H7_0 := o0_put3 (0) H5_0
  have f_8 := o0_g3 (0) H5_0 (f_6) (by exact ⟨by omega, by omega⟩)
  refine x_aload_n rfl d_X0_clear_20 ?_
  refine x_iconst (v := nI 0) (by decide) d_X0_clear_21 ?_
  refine x_putf co_all d_X0_clear_22 fk_0_39 ft_0_8 (o0_o H7_0) (Nat.le_of_ble_eq_true rfl) rfl rfl (o0_B H7_0) ?_
  have H9_0 := o0_put8 (0) H7_0
  have f_10 := o0_g8 (0) H7_0 (f_8) (by exact ⟨by omega, by omega⟩)
  refine x_iconst (v := nI 0) (by decide) d_X0_clear_25 ?_
  refine x_istore_n d_X0_clear_26 (Nat.le_of_ble_eq_true rfl) ?_
  exact nG.sub (by exact (And.intro rfl (And.intro rfl True.intro))) (lp_clear 20 0 (by omega) _ _ f_10 H9_0 ⟨rfl, rfl, rfl, rfl, rfl, fun r k _ _ hx => absurd hx (by omega)⟩)
theorem rf_done {n j k : Nat} {R : Nat → Nat → Nat → Nat} {E : Nat → Nat → Nat} (hk : k < 24) (h1 : (∀ q2, q2 < 24 → igo (R j) k q2 = true → E 6 (20 * q2 + (j - 1)) = 1)) (h2 : j + 1 < n → (∀ q2, q2 < R (j + 1) 0 0 → igo (R (j + 1)) q2 k = true → E 6 (20 * q2 + (j + 1)) = 1)) : ∀ y, y < 480 → gE n R (24 * j + k) y → E 6 (20 * (y % 24) + y / 24) = 1 := by
  intro y hy e
  unfold gE at e
  rw [show (24 * j + k) / 24 = j by omega, show (24 * j + k) % 24 = k by omega] at e
  rcases e with ⟨e1, e2⟩ | ⟨e1, e2, e3, e4⟩
  · rw [show y / 24 = j - 1 by omega]
    exact h1 _ (Nat.mod_lt _ (by decide)) e2
  · rw [e1] at e2 e3 e4 ⊢
    exact h2 e2 _ e3 e4
theorem lp_rf2 {h0 : nPH} {a b s j k : Nat} {P : Nat → Nat → Nat} {R : Nat → Nat → Nat → Nat} {E0 : Nat → Nat → Nat} (G : gOK (P 5 0) R) (hj : j < P 5 0) (hk : k < R j 0 0) (hre : gRe (P 5 0) R s (24 * j + k)) (hap : apW a 25 b P) (hj1 : j + 1 < P 5 0) : ∀ n q : Nat, q + n = R (j + 1) 0 0 → ∀ (h : nPH) (E : Nat → Nat → Nat), nFr (nIv a 25) h0 h → pW h b P R → o0 h a E → hJ (P 5 0) R s E → hLe E0 E → (∀ q2, q2 < 24 → igo (R j) k q2 = true → E 6 (20 * q2 + (j - 1)) = 1) → (∀ q2, q2 < q → igo (R (j + 1)) q2 k = true → E 6 (20 * q2 + (j + 1)) = 1) → nG YX0_reachFrom (nKy YX0_reachFrom h0.1 h0.2.1 (fun v h2 => v = none ∧ nFr (nIv a 25) h0 h2 ∧ ∃ E2, o0 h2 a E2 ∧ hJ (P 5 0) R s E2 ∧ hLe E0 E2 ∧ ∀ y, y < 480 → gE (P 5 0) R (24 * j + k) y → E2 6 (20 * (y % 24) + y / 24) = 1)) 0 0 60 [some (.ref (a)), some (.ref (b)), some (.int (nI (j))), some (.int (nI (k))), some (.ref (P 4 j)), some (.ref (P 4 (j + 1))), some (.int (nI (q)))] [] h := by
  intro n
  induction n with
  | zero =>
    intro q hq h E F Wp H J Lm A1 A2
    have hp1 := (Wp.2.2.1 (j + 1) hj1).2.1.1
    have hp0 := (Wp.2.2.1 j hj).2.1.1
    have hn20 := Wp.2.1
    refine x_aload rfl d_X0_reachFrom_60 ?_
    refine x_ifnull d_X0_reachFrom_62 ?_
    refine x_iload rfl d_X0_reachFrom_65 ?_
    refine x_aload rfl d_X0_reachFrom_67 ?_
    refine x_getf co_all (v := .int (nI ((R (j + 1)) 0 0))) d_X0_reachFrom_69 fk_0_78 (o3_o (Wp.2.2.1 (j + 1) hj1).1) rfl ?_
    refine x_icmp_geN (tgt := 101) d_X0_reachFrom_72 (by decide) (by omega) (by omega) (fun c_1 => ?_) (fun c_1 => by exfalso; omega)
    exact x_return d_X0_reachFrom_101 rfl F.1 F.2.1 (Nat.zero_le _) (Nat.zero_le _) (⟨rfl, F, E, H, J, Lm, rf_done (by omega) A1 (fun _ => by rw [show R (j + 1) 0 0 = q by omega]; exact A2)⟩)
  | succ n ih =>
    intro q hq h E F Wp H J Lm A1 A2
    have hp1 := (Wp.2.2.1 (j + 1) hj1).2.1.1
    have hp0 := (Wp.2.2.1 j hj).2.1.1
    have hn20 := Wp.2.1
    refine x_aload rfl d_X0_reachFrom_60 ?_
    refine x_ifnull d_X0_reachFrom_62 ?_
    refine x_iload rfl d_X0_reachFrom_65 ?_
    refine x_aload rfl d_X0_reachFrom_67 ?_
    refine x_getf co_all (v := .int (nI ((R (j + 1)) 0 0))) d_X0_reachFrom_69 fk_0_78 (o3_o (Wp.2.2.1 (j + 1) hj1).1) rfl ?_
    refine x_icmp_geN (tgt := 101) d_X0_reachFrom_72 (by decide) (by omega) (by omega) (fun c_1 => by exfalso; omega) (fun c_1 => ?_)
    refine x_aload rfl d_X0_reachFrom_75 ?_
    refine x_iload rfl d_X0_reachFrom_77 ?_
    refine x_iload_n rfl d_X0_reachFrom_79 ?_
    refine x_rdV d_X0_reachFrom_80 lk_0_72 mo_X3_isGone vi_X3_isGone (sp_isGone (Wp.2.2.1 (j + 1) hj1).1 (Wp.2.2.1 (j + 1) hj1).2.1 (k := q) (by omega) (q := k) (by omega)) (o3_o (Wp.2.2.1 (j + 1) hj1).1) ⟨_, rfl, rfl⟩ rfl ⟨Nat.le_of_ble_eq_true rfl, Nat.le_of_ble_eq_true rfl⟩ rfl rfl (Nat.zero_le _) (Nat.zero_le _) (Nat.le_of_ble_eq_true rfl) rfl ?_
    have hle := nb_le (igo (R (j + 1)) (q) (k))
    refine x_if_eqN (tgt := 95) d_X0_reachFrom_83 (by decide) (by omega) (fun c_2 => ?_) (fun c_2 => ?_)
    · refine x_iincN (m := 1) d_X0_reachFrom_95 rfl (by decide) (Nat.le_of_ble_eq_true rfl) ?_
      refine x_goto (tgt := 60) d_X0_reachFrom_98 (by decide) ?_
      exact ih (q + 1) (by omega) h E F Wp H J Lm A1 (lt1 A2 (fun e => absurd e (by rw [nb_0.mp c_2]; decide)))
    · refine x_aload_n rfl d_X0_reachFrom_86 ?_
      refine x_iload_n rfl d_X0_reachFrom_87 ?_
      refine x_iconst (v := nI 1) (by decide) d_X0_reachFrom_88 ?_
      refine x_iaddN d_X0_reachFrom_89 ?_
      refine x_iload rfl d_X0_reachFrom_90 ?_
      refine x_wvV d_X0_reachFrom_92 lk_0_35 mo_X0_reach vi_X0_reach (sp_reach H J (r := j + 1) (k := q) (by omega) (by omega) (by omega) (by omega) (hre.st (gE_dn (by omega) (by omega) hj1 (by omega) (nb_n0.mp c_2)))) (o0_o H) ⟨_, rfl, rfl⟩ rfl ⟨Nat.le_of_ble_eq_true rfl, Nat.le_of_ble_eq_true rfl⟩ (Nat.zero_le _) (Nat.zero_le _) (Nat.le_of_ble_eq_true rfl) rfl (fun h3 hp e1 e2 => ?_)
      obtain ⟨F3, E3, H3, J3, L3, X3⟩ := hp
      refine x_iincN (m := 1) d_X0_reachFrom_95 rfl (by decide) (Nat.le_of_ble_eq_true rfl) ?_
      refine x_goto (tgt := 60) d_X0_reachFrom_98 (by decide) ?_
      exact ih (q + 1) (by omega) h3 E3 (F.tr F3) (pW_ap Wp F3 hap) H3 J3 (Lm.tr L3) (fun q2 hq e => L3.2.2 _ (A1 q2 hq e)) (lt1 (fun q2 hq e => L3.2.2 _ (A2 q2 hq e)) (fun _ => X3))
theorem lp_rf1 {h0 : nPH} {a b s j k : Nat} {P : Nat → Nat → Nat} {R : Nat → Nat → Nat → Nat} {E0 : Nat → Nat → Nat} (G : gOK (P 5 0) R) (hj : j < P 5 0) (hk : k < R j 0 0) (hre : gRe (P 5 0) R s (24 * j + k)) (hap : apW a 25 b P) : ∀ n q : Nat, q + n = 24 → ∀ (h : nPH) (E : Nat → Nat → Nat), nFr (nIv a 25) h0 h → pW h b P R → o0 h a E → hJ (P 5 0) R s E → hLe E0 E → (∀ q2, q2 < q → igo (R j) k q2 = true → E 6 (20 * q2 + (j - 1)) = 1) → nG YX0_reachFrom (nKy YX0_reachFrom h0.1 h0.2.1 (fun v h2 => v = none ∧ nFr (nIv a 25) h0 h2 ∧ ∃ E2, o0 h2 a E2 ∧ hJ (P 5 0) R s E2 ∧ hLe E0 E2 ∧ ∀ y, y < 480 → gE (P 5 0) R (24 * j + k) y → E2 6 (20 * (y % 24) + y / 24) = 1)) 0 0 10 [some (.ref (a)), some (.ref (b)), some (.int (nI (j))), some (.int (nI (k))), some (.ref (P 4 j)), some (.int (nI (q))), none] [] h := by
  intro n
  induction n with
  | zero =>
    intro q hq h E F Wp H J Lm A1
    have hp0 := (Wp.2.2.1 j hj).2.1.1
    have hn20 := Wp.2.1
    have e24 : q = 24 := by omega
    subst e24
    by_cases hj1 : j + 1 < P 5 0
    · refine x_aload rfl d_X0_reachFrom_10 ?_
      refine x_ifnull d_X0_reachFrom_12 ?_
      refine x_iload rfl d_X0_reachFrom_15 ?_
      refine x_bipush (v := nI 24) (by decide) d_X0_reachFrom_17 ?_
      refine x_icmp_geN (tgt := 48) d_X0_reachFrom_19 (by decide) (by omega) (by omega) (fun c_1 => ?_) (fun c_1 => by exfalso; omega)
      refine x_aload_n rfl d_X0_reachFrom_48 ?_
      refine x_iload_n rfl d_X0_reachFrom_49 ?_
      refine x_iconst (v := nI 1) (by decide) d_X0_reachFrom_50 ?_
      refine x_iaddN d_X0_reachFrom_51 ?_
      refine x_rdV d_X0_reachFrom_52 lk_0_68 mo_X2_rowAt vi_X2_rowAt (sp_rowAt Wp.1 hn20 hj1) (o2_o Wp.1) ⟨_, rfl, rfl⟩ rfl ⟨Nat.le_of_ble_eq_true rfl, Nat.le_of_ble_eq_true rfl⟩ rfl rfl (Nat.zero_le _) (Nat.zero_le _) (Nat.le_of_ble_eq_true rfl) rfl ?_
      refine x_astore d_X0_reachFrom_55 (Nat.le_of_ble_eq_true rfl) ?_
      refine x_iconst (v := nI 0) (by decide) d_X0_reachFrom_57 ?_
      refine x_istore d_X0_reachFrom_58 (Nat.le_of_ble_eq_true rfl) ?_
      exact lp_rf2 G hj hk hre hap hj1 (R (j + 1) 0 0) 0 (by omega) h E F Wp H J Lm A1 (fun q2 hq => absurd hq (by omega))
    · refine x_aload rfl d_X0_reachFrom_10 ?_
      refine x_ifnull d_X0_reachFrom_12 ?_
      refine x_iload rfl d_X0_reachFrom_15 ?_
      refine x_bipush (v := nI 24) (by decide) d_X0_reachFrom_17 ?_
      refine x_icmp_geN (tgt := 48) d_X0_reachFrom_19 (by decide) (by omega) (by omega) (fun c_1 => ?_) (fun c_1 => by exfalso; omega)
      refine x_aload_n rfl d_X0_reachFrom_48 ?_
      refine x_iload_n rfl d_X0_reachFrom_49 ?_
      refine x_iconst (v := nI 1) (by decide) d_X0_reachFrom_50 ?_
      refine x_iaddN d_X0_reachFrom_51 ?_
      refine x_rdV d_X0_reachFrom_52 lk_0_68 mo_X2_rowAt vi_X2_rowAt (sp_rowAtO Wp.1 hn20 (j := j + 1) (by omega) (by omega)) (o2_o Wp.1) ⟨_, rfl, rfl⟩ rfl ⟨Nat.le_of_ble_eq_true rfl, Nat.le_of_ble_eq_true rfl⟩ rfl rfl (Nat.zero_le _) (Nat.zero_le _) (Nat.le_of_ble_eq_true rfl) rfl ?_
      refine x_astoreN d_X0_reachFrom_55 (Nat.le_of_ble_eq_true rfl) ?_
      refine x_iconst (v := nI 0) (by decide) d_X0_reachFrom_57 ?_
      refine x_istore d_X0_reachFrom_58 (Nat.le_of_ble_eq_true rfl) ?_
      refine x_aloadN rfl d_X0_reachFrom_60 ?_
      refine x_ifnullN (tgt := 101) d_X0_reachFrom_62 (by decide) ?_
      exact x_return d_X0_reachFrom_101 rfl F.1 F.2.1 (Nat.zero_le _) (Nat.zero_le _) (⟨rfl, F, E, H, J, Lm, rf_done (by omega) A1 (fun z => absurd z hj1)⟩)
  | succ n ih =>
    intro q hq h E F Wp H J Lm A1
    have hp0 := (Wp.2.2.1 j hj).2.1.1
    have hn20 := Wp.2.1
    refine x_aload rfl d_X0_reachFrom_10 ?_
    refine x_ifnull d_X0_reachFrom_12 ?_
    refine x_iload rfl d_X0_reachFrom_15 ?_
    refine x_bipush (v := nI 24) (by decide) d_X0_reachFrom_17 ?_
    refine x_icmp_geN (tgt := 48) d_X0_reachFrom_19 (by decide) (by omega) (by omega) (fun c_1 => by exfalso; omega) (fun c_1 => ?_)
    refine x_aload rfl d_X0_reachFrom_22 ?_
    refine x_iload_n rfl d_X0_reachFrom_24 ?_
    refine x_iload rfl d_X0_reachFrom_25 ?_
    refine x_rdV d_X0_reachFrom_27 lk_0_72 mo_X3_isGone vi_X3_isGone (sp_isGone (Wp.2.2.1 (j) hj).1 (Wp.2.2.1 (j) hj).2.1 (k := k) (by omega) (q := q) (by omega)) (o3_o (Wp.2.2.1 j hj).1) ⟨_, rfl, rfl⟩ rfl ⟨Nat.le_of_ble_eq_true rfl, Nat.le_of_ble_eq_true rfl⟩ rfl rfl (Nat.zero_le _) (Nat.zero_le _) (Nat.le_of_ble_eq_true rfl) rfl ?_
    have hle := nb_le (igo (R (j)) (k) (q))
    refine x_if_eqN (tgt := 42) d_X0_reachFrom_30 (by decide) (by omega) (fun c_2 => ?_) (fun c_2 => ?_)
    · refine x_iincN (m := 1) d_X0_reachFrom_42 rfl (by decide) (Nat.le_of_ble_eq_true rfl) ?_
      refine x_goto (tgt := 10) d_X0_reachFrom_45 (by decide) ?_
      exact ih (q + 1) (by omega) h E F Wp H J Lm (lt1 A1 (fun e => absurd e (by rw [nb_0.mp c_2]; decide)))
    · have hg := gOK_in G hj hk (nb_n0.mp c_2)
      refine x_aload_n rfl d_X0_reachFrom_33 ?_
      refine x_iload_n rfl d_X0_reachFrom_34 ?_
      refine x_iconst (v := nI 1) (by decide) d_X0_reachFrom_35 ?_
      refine x_isubN d_X0_reachFrom_36 (by exact hg.1) ?_
      refine x_iload rfl d_X0_reachFrom_37 ?_
      refine x_wvV d_X0_reachFrom_39 lk_0_35 mo_X0_reach vi_X0_reach (sp_reach H J (r := j - 1) (k := q) (by omega) (by omega) (by omega) (hg.2) (hre.st (gE_up (by omega) (by omega) hg.1 (nb_n0.mp c_2)))) (o0_o H) ⟨_, rfl, rfl⟩ rfl ⟨Nat.le_of_ble_eq_true rfl, Nat.le_of_ble_eq_true rfl⟩ (Nat.zero_le _) (Nat.zero_le _) (Nat.le_of_ble_eq_true rfl) rfl (fun h3 hp e1 e2 => ?_)
      obtain ⟨F3, E3, H3, J3, L3, X3⟩ := hp
      refine x_iincN (m := 1) d_X0_reachFrom_42 rfl (by decide) (Nat.le_of_ble_eq_true rfl) ?_
      refine x_goto (tgt := 10) d_X0_reachFrom_45 (by decide) ?_
      exact ih (q + 1) (by omega) h3 E3 (F.tr F3) (pW_ap Wp F3 hap) H3 J3 (Lm.tr L3) (lt1 (fun q2 hq e => L3.2.2 _ (A1 q2 hq e)) (fun _ => X3))
theorem sp_reachFrom {h0 : nPH} {a b s j k : Nat} {P : Nat → Nat → Nat} {R : Nat → Nat → Nat → Nat} {E0 : Nat → Nat → Nat} (G : gOK (P 5 0) R) (hj : j < P 5 0) (hk : k < R j 0 0) (hre : gRe (P 5 0) R s (24 * j + k)) (hap : apW a 25 b P) (Wp : pW h0 b P R) (H : o0 h0 a E0) (J : hJ (P 5 0) R s E0) : nWv YX0_reachFrom [.ref a, .ref b, .int (nI j), .int (nI k)] h0 none (fun h2 => nFr (nIv a 25) h0 h2 ∧ ∃ E2, o0 h2 a E2 ∧ hJ (P 5 0) R s E2 ∧ hLe E0 E2 ∧ ∀ y, y < 480 → gE (P 5 0) R (24 * j + k) y → E2 6 (20 * (y % 24) + y / 24) = 1) := by
  have hp0 := (Wp.2.2.1 j hj).2.1.1
  have hn20 := Wp.2.1
  refine nSp_of (by decide +kernel) rfl (Nat.le_of_ble_eq_true rfl) (ls := [some (.ref (a)), some (.ref (b)), some (.int (nI (j))), some (.int (nI (k))), none, none, none]) (by exact (And.intro rfl (And.intro rfl (And.intro rfl (And.intro rfl True.intro))))) ?_
  refine x_aload_n rfl d_X0_reachFrom_0 ?_
  refine x_iload_n rfl d_X0_reachFrom_1 ?_
  refine x_rdV d_X0_reachFrom_2 lk_0_68 mo_X2_rowAt vi_X2_rowAt (sp_rowAt Wp.1 hn20 hj) (o2_o Wp.1) ⟨_, rfl, rfl⟩ rfl ⟨Nat.le_of_ble_eq_true rfl, Nat.le_of_ble_eq_true rfl⟩ rfl rfl (Nat.zero_le _) (Nat.zero_le _) (Nat.le_of_ble_eq_true rfl) rfl ?_
  refine x_astore d_X0_reachFrom_5 (Nat.le_of_ble_eq_true rfl) ?_
  refine x_iconst (v := nI 0) (by decide) d_X0_reachFrom_7 ?_
  refine x_istore d_X0_reachFrom_8 (Nat.le_of_ble_eq_true rfl) ?_
  exact lp_rf1 G hj hk hre hap 24 0 (by omega) h0 E0 nFr.rf Wp H J (hLe.rf E0) (fun q2 hq => absurd hq (by omega))
