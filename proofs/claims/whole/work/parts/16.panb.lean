/-! the panel: what writes -/
def rCb (E : Nat → Nat → Nat) (i n : Nat) : Nat → Nat → Nat := fun f k => if f = 6 ∧ k < n ∧ hgb E k i = true then sset (E 6 k) (i - E 4 k) else E f k
theorem rCb_0 (E : Nat → Nat → Nat) (i f k : Nat) : rCb E i 0 f k = E f k := by unfold rCb; rw [if_neg (by omega)]
theorem rCb_f {E : Nat → Nat → Nat} {i n f k : Nat} (h : f ≠ 6) : rCb E i n f k = E f k := by unfold rCb; rw [if_neg (by omega)]
theorem rCb_g {E : Nat → Nat → Nat} {i n k : Nat} (h : n ≤ k) : rCb E i n 6 k = E 6 k := by unfold rCb; rw [if_neg (by omega)]
theorem rCb_h (E : Nat → Nat → Nat) (i n k q : Nat) : hgb (rCb E i n) k q = hgb E k q := by unfold hgb; rw [rCb_f (by decide), rCb_f (by decide)]
theorem rCb_w {E : Nat → Nat → Nat} {i n q : Nat} : iwh (rCb E i n) n q = iwh E n q := by unfold iwh; rw [rCb_h, rCb_g (Nat.le_refl _), rCb_f (f := 4) (by decide)]
theorem rCb_s (E : Nat → Nat → Nat) (i n f k : Nat) : rCb E i (n + 1) f k = sto (rCb E i n) 0 n i f k := by
  unfold sto
  rw [rCb_h, rCb_f (f := 4) (by decide), rCb_g (Nat.le_refl n)]
  by_cases hh : hgb E n i = true
  · rw [if_pos hh]
    by_cases e : f = 6 ∧ k = n
    · obtain ⟨rfl, rfl⟩ := e
      rw [u2_eq]
      unfold rCb ssd
      rw [if_pos ⟨rfl, by omega, hh⟩, if_pos rfl]
    · rw [u2_ne e]
      unfold rCb
      by_cases h1 : f = 6 ∧ k < n ∧ hgb E k i = true
      · rw [if_pos h1, if_pos ⟨h1.1, by omega, h1.2.2⟩]
      · rw [if_neg h1, if_neg (fun z => h1 ⟨z.1, by have := z.2.1; omega, z.2.2⟩)]
  · rw [if_neg hh]
    unfold rCb
    by_cases h1 : f = 6 ∧ k < n ∧ hgb E k i = true
    · rw [if_pos h1, if_pos ⟨h1.1, by omega, h1.2.2⟩]
    · rw [if_neg h1, if_neg (fun z => h1 ⟨z.1, by
        have h2 := z.2.1
        rcases Nat.lt_or_ge k n with h3 | h3
        · exact h3
        · have : k = n := by omega
          subst this
          exact absurd z.2.2 hh, z.2.2⟩)]
theorem rOK_Cb {E : Nat → Nat → Nat} (Rk : rOK E) (i : Nat) : ∀ n, rOK (rCb E i n)
  | 0 => by
    have : rCb E i 0 = E := funext fun f => funext fun k => rCb_0 E i f k
    rw [this]; exact Rk
  | n + 1 => by
    have : rCb E i (n + 1) = sto (rCb E i n) 0 n i := funext fun f => funext fun k => rCb_s E i n f k
    rw [this]
    exact rOK_sto (rOK_Cb Rk i n) 0 n i
def rCo (E : Nat → Nat → Nat) (i : Nat) : Nat → Nat → Nat := u2 E 6 i (2 ^ E 5 i - 1)
theorem rOK_Co {E : Nat → Nat → Nat} (Rk : rOK E) (i : Nat) : rOK (rCo E i) := by
  refine ⟨Rk.1, fun k hk => ?_⟩
  obtain ⟨r1, r2, r3, r4, r5, r6⟩ := Rk.2 k hk
  refine ⟨r1, r2, r3, r4, r5, ?_⟩
  show u2 E 6 i _ 6 k < 2 ^ E 5 k
  by_cases e : k = i
  · subst e; rw [u2_eq]; have := Nat.two_pow_pos (E 5 k); omega
  · rw [u2_ne (by omega)]; exact r6
/-- the rows behind 'cut' -/
def rCu (P : Nat → Nat → Nat) (R : Nat → Nat → Nat → Nat) (j i : Nat) : Nat → Nat → Nat → Nat := fun r => if r = j then rCo (R j) i else if r = j + 1 ∧ j + 1 < P 5 0 then rCb (R (j + 1)) i (R (j + 1) 0 0) else R r
def cus (P : Nat → Nat → Nat) (R : Nat → Nat → Nat → Nat) (j i : Nat) : Nat := (R j 5 i - pcn (R j 6 i)) + (if j + 1 < P 5 0 then wbl (R (j + 1)) i (R (j + 1) 0 0) else 0)
def fr2 (P : Nat → Nat → Nat) (j : Nat) : Nat → Prop := fun q => nIv (P 4 j) 7 q ∨ (j + 1 < P 5 0 ∧ nIv (P 4 (j + 1)) 7 q)
theorem pcn_sd {g s : Nat} (h : g < 2 ^ s) (hs : s ≤ 24) : pcn g ≤ s := by
  unfold pcn
  have := fb_ct_split (fun i => g.testBit i) s (24 - s)
  rw [show s + (24 - s) = 24 by omega] at this
  rw [this]
  have h1 := fb_ct_le (fun i => g.testBit i) s
  have h2 : fb_ct (fun k => g.testBit (s + k)) (24 - s) = 0 := fb_ct_zero.mpr fun k hk => Nat.testBit_lt_two_pow (Nat.lt_of_lt_of_le h (Nat.pow_le_pow_right (by decide) (by omega)))
  omega
theorem lp_cut {h0 : nPH} {a : Nat} {P : Nat → Nat → Nat} {R : Nat → Nat → Nat → Nat} {j i : Nat} (hj : j < P 5 0) (hj1 : j + 1 < P 5 0) (hi : i < 24) (Rk : rOK (R (j + 1))) : ∀ n q : Nat, ∀ h : nPH, q + n = R (j + 1) 0 0 → nFr (fr2 P j) h0 h → pW h a P (uR (uR R j (rCo (R j) i)) (j + 1) (rCb (R (j + 1)) i q)) → nG YX2_cutSidesAt (nKy YX2_cutSidesAt h0.1 h0.2.1 (fun v h2 => v = some (.int (nI (cus P R j i))) ∧ nFr (fr2 P j) h0 h2 ∧ pW h2 a P (rCu P R j i))) 0 0 59 [some (.ref (a)), some (.int (nI (j))), some (.int (nI (i))), some (.ref (P 4 j)), some (.int (nI ((R j 5 i - pcn (R j 6 i)) + wbl (R (j + 1)) i q))), some (.ref (P 4 (j + 1))), some (.int (nI (q)))] [] h := by
  have hp2 := Rk.1
  intro n
  induction n with
  | zero =>
    intro q h hq F W
    have HB : o3 h (P 4 (j + 1)) (rCb (R (j + 1)) i q) := by
      have := (W.2.2.1 (j + 1) hj1).1
      rw [uR_eq] at this
      exact this
    have RB : rOK (rCb (R (j + 1)) i q) := rOK_Cb Rk i q
    have e0 : rCb (R (j + 1)) i q 0 0 = R (j + 1) 0 0 := rCb_f (by decide)
    have H := W.1
    have ecu : uR (uR R j (rCo (R j) i)) (j + 1) (rCb (R (j + 1)) i (R (j + 1) 0 0)) = rCu P R j i := by
      funext r
      unfold uR rCu
      by_cases h1 : r = j + 1
      · subst h1; rw [if_pos rfl, if_neg (by omega), if_pos ⟨rfl, hj1⟩]
      · rw [if_neg h1, if_neg (c := r = j + 1 ∧ j + 1 < P 5 0) (fun z => h1 z.1)]
    refine x_aload rfl d_X2_cutSidesAt_59 ?_
    refine x_ifnull d_X2_cutSidesAt_61 ?_
    refine x_iload rfl d_X2_cutSidesAt_64 ?_
    refine x_aload rfl d_X2_cutSidesAt_66 ?_
    refine x_getf co_all (v := .int (nI ((rCb (R (j + 1)) i q) 0 0))) d_X2_cutSidesAt_68 fk_2_70 (o3_o HB) rfl ?_
    refine x_icmp_geN (tgt := 110) d_X2_cutSidesAt_71 (by decide) (by omega) (by omega) (fun c_1 => ?_) (fun c_1 => by exfalso; omega)
    refine x_iload rfl d_X2_cutSidesAt_110 ?_
    exact x_ireturn d_X2_cutSidesAt_112 rfl rfl F.1 F.2.1 (Nat.zero_le _) (Nat.zero_le _) (⟨by unfold cus; rw [if_pos hj1, show R (j + 1) 0 0 = q by omega], F, by rw [← ecu, show R (j + 1) 0 0 = q by omega]; exact W⟩)
  | succ n ih =>
    intro q h hq F W
    have HB : o3 h (P 4 (j + 1)) (rCb (R (j + 1)) i q) := by
      have := (W.2.2.1 (j + 1) hj1).1
      rw [uR_eq] at this
      exact this
    have RB : rOK (rCb (R (j + 1)) i q) := rOK_Cb Rk i q
    have e0 : rCb (R (j + 1)) i q 0 0 = R (j + 1) 0 0 := rCb_f (by decide)
    have H := W.1
    refine x_aload rfl d_X2_cutSidesAt_59 ?_
    refine x_ifnull d_X2_cutSidesAt_61 ?_
    refine x_iload rfl d_X2_cutSidesAt_64 ?_
    refine x_aload rfl d_X2_cutSidesAt_66 ?_
    refine x_getf co_all (v := .int (nI ((rCb (R (j + 1)) i q) 0 0))) d_X2_cutSidesAt_68 fk_2_70 (o3_o HB) rfl ?_
    refine x_icmp_geN (tgt := 110) d_X2_cutSidesAt_71 (by decide) (by omega) (by omega) (fun c_1 => by exfalso; omega) (fun c_1 => ?_)
    refine x_iload rfl d_X2_cutSidesAt_74 ?_
    refine x_aload rfl d_X2_cutSidesAt_76 ?_
    refine x_iload rfl d_X2_cutSidesAt_78 ?_
    refine x_iload_n rfl d_X2_cutSidesAt_80 ?_
    refine x_rdV d_X2_cutSidesAt_81 lk_2_106 mo_X3_isWhole vi_X3_isWhole (sp_isWhole HB RB (k := q) (by omega) (q := i) (by omega)) (o3_o HB) ⟨_, rfl, rfl⟩ rfl ⟨Nat.le_of_ble_eq_true rfl, Nat.le_of_ble_eq_true rfl⟩ rfl rfl (Nat.zero_le _) (Nat.zero_le _) (Nat.le_of_ble_eq_true rfl) rfl ?_
    rw [rCb_w]
    have hle := nb_le (iwh (R (j + 1)) q i)
    refine x_if_eqN (tgt := 91) d_X2_cutSidesAt_84 (by decide) (by omega) (fun c_2 => ?_) (fun c_2 => ?_)
    · refine x_iconst (v := nI 0) (by decide) d_X2_cutSidesAt_91 ?_
      refine x_iaddN d_X2_cutSidesAt_92 ?_
      refine x_istore d_X2_cutSidesAt_93 (Nat.le_of_ble_eq_true rfl) ?_
      refine x_aload rfl d_X2_cutSidesAt_95 ?_
      refine x_iload rfl d_X2_cutSidesAt_97 ?_
      refine x_iload_n rfl d_X2_cutSidesAt_99 ?_
      refine x_iconst (v := nI 0) (by decide) d_X2_cutSidesAt_100 ?_
      refine x_wvV d_X2_cutSidesAt_101 lk_2_109 mo_X3_setSideTo vi_X3_setSideTo (sp_setSideTo HB RB (k := q) (by omega) (q := i) (on := 0) (by omega) (by decide)) (o3_o HB) ⟨_, rfl, rfl⟩ rfl ⟨Nat.le_of_ble_eq_true rfl, Nat.le_of_ble_eq_true rfl⟩ (Nat.zero_le _) (Nat.zero_le _) (Nat.le_of_ble_eq_true rfl) rfl (fun h2 hp e1 e2 => ?_)
      refine x_iincN (m := 1) d_X2_cutSidesAt_104 rfl (by decide) (Nat.le_of_ble_eq_true rfl) ?_
      refine x_goto (tgt := 59) d_X2_cutSidesAt_107 (by decide) ?_
      have ea : ((R j 5 i - pcn (R j 6 i)) + wbl (R (j + 1)) i q) + 0 = (R j 5 i - pcn (R j 6 i)) + wbl (R (j + 1)) i (q + 1) := by
        rw [wbl_s, nb_F (nb_0.mp c_2)]
        omega
      rw [ea]
      have W2 := pW_up W hj1 hp.1 hp.2 (rOK_sto RB 0 q i)
      refine nG.sub (by exact (And.intro rfl (And.intro rfl (And.intro rfl (And.intro rfl (And.intro rfl (And.intro rfl (And.intro rfl True.intro)))))))) (ih (q + 1) h2 (by omega) (F.tr (hp.1.mono (fun z hz => Or.inr ⟨hj1, hz⟩))) (pW_cg W2 (fun r f k => ?_)))
      unfold uR
      by_cases h1 : r = j + 1
      · rw [if_pos h1, if_pos h1]; exact rCb_s _ _ _ _ _
      · rw [if_neg h1, if_neg h1, if_neg h1]
    · refine x_iconst (v := nI 1) (by decide) d_X2_cutSidesAt_87 ?_
      refine x_goto (tgt := 92) d_X2_cutSidesAt_88 (by decide) ?_
      refine x_iaddN d_X2_cutSidesAt_92 ?_
      refine x_istore d_X2_cutSidesAt_93 (Nat.le_of_ble_eq_true rfl) ?_
      refine x_aload rfl d_X2_cutSidesAt_95 ?_
      refine x_iload rfl d_X2_cutSidesAt_97 ?_
      refine x_iload_n rfl d_X2_cutSidesAt_99 ?_
      refine x_iconst (v := nI 0) (by decide) d_X2_cutSidesAt_100 ?_
      refine x_wvV d_X2_cutSidesAt_101 lk_2_109 mo_X3_setSideTo vi_X3_setSideTo (sp_setSideTo HB RB (k := q) (by omega) (q := i) (on := 0) (by omega) (by decide)) (o3_o HB) ⟨_, rfl, rfl⟩ rfl ⟨Nat.le_of_ble_eq_true rfl, Nat.le_of_ble_eq_true rfl⟩ (Nat.zero_le _) (Nat.zero_le _) (Nat.le_of_ble_eq_true rfl) rfl (fun h2 hp e1 e2 => ?_)
      refine x_iincN (m := 1) d_X2_cutSidesAt_104 rfl (by decide) (Nat.le_of_ble_eq_true rfl) ?_
      refine x_goto (tgt := 59) d_X2_cutSidesAt_107 (by decide) ?_
      have ea : ((R j 5 i - pcn (R j 6 i)) + wbl (R (j + 1)) i q) + 1 = (R j 5 i - pcn (R j 6 i)) + wbl (R (j + 1)) i (q + 1) := by
        rw [wbl_s, nb_T (nb_n0.mp c_2)]
        omega
      rw [ea]
      have W2 := pW_up W hj1 hp.1 hp.2 (rOK_sto RB 0 q i)
      refine nG.sub (by exact (And.intro rfl (And.intro rfl (And.intro rfl (And.intro rfl (And.intro rfl (And.intro rfl (And.intro rfl True.intro)))))))) (ih (q + 1) h2 (by omega) (F.tr (hp.1.mono (fun z hz => Or.inr ⟨hj1, hz⟩))) (pW_cg W2 (fun r f k => ?_)))
      unfold uR
      by_cases h1 : r = j + 1
      · rw [if_pos h1, if_pos h1]; exact rCb_s _ _ _ _ _
      · rw [if_neg h1, if_neg h1, if_neg h1]
theorem sp_cut {h : nPH} {a : Nat} {P : Nat → Nat → Nat} {R : Nat → Nat → Nat → Nat} (W : pW h a P R) {j i : Nat} (hj : j < P 5 0) (hi : i < R j 0 0) : nWv YX2_cutSidesAt [.ref a, .int (nI j), .int (nI i)] h (some (.int (nI (cus P R j i)))) (fun h2 => nFr (fr2 P j) h h2 ∧ pW h2 a P (rCu P R j i)) := by
  obtain ⟨H, hn, HR, hap⟩ := id W
  have hpl := (HR j hj).2.1.1
  obtain ⟨r1, r2, r3, r4, r5, r6⟩ := (HR j hj).2.1.2 i (by omega)
  have hps := pcn_sd r6 r5
  have hpw := Nat.two_pow_pos (R j 5 i)
  by_cases hj1 : j + 1 < P 5 0
  · refine nSp_of (by decide +kernel) rfl (Nat.le_of_ble_eq_true rfl) (ls := [some (.ref (a)), some (.int (nI (j))), some (.int (nI (i))), none, none, none, none]) (by exact (And.intro rfl (And.intro rfl (And.intro rfl True.intro)))) ?_
    refine x_aload_n rfl d_X2_cutSidesAt_0 ?_
    refine x_iload_n rfl d_X2_cutSidesAt_1 ?_
    refine x_iload_n rfl d_X2_cutSidesAt_2 ?_
    refine x_rdV d_X2_cutSidesAt_3 lk_2_86 mo_X2_rowWith vi_X2_rowWith (sp_rowWith W hj hi) (o2_o H) ⟨_, rfl, rfl⟩ rfl ⟨Nat.le_of_ble_eq_true rfl, Nat.le_of_ble_eq_true rfl⟩ rfl rfl (Nat.zero_le _) (Nat.zero_le _) (Nat.le_of_ble_eq_true rfl) rfl ?_
    refine x_astore_n d_X2_cutSidesAt_6 (Nat.le_of_ble_eq_true rfl) ?_
    refine x_aload_n rfl d_X2_cutSidesAt_7 ?_
    refine x_ifnonnull (tgt := 13) d_X2_cutSidesAt_8 (by decide) ?_
    refine x_aload_n rfl d_X2_cutSidesAt_13 ?_
    refine x_getf co_all (v := .ref (P 4 j + 5)) d_X2_cutSidesAt_14 fk_2_103 (o3_o (HR j hj).1) rfl ?_
    refine x_iload_n rfl d_X2_cutSidesAt_17 ?_
    refine x_iaload d_X2_cutSidesAt_18 (o3_5 (HR j hj).1) (nIx_nI (j := i) (by omega) (by decide)) ?_
    refine x_aload_n rfl d_X2_cutSidesAt_19 ?_
    refine x_getf co_all (v := .ref (P 4 j + 6)) d_X2_cutSidesAt_20 fk_2_90 (o3_o (HR j hj).1) rfl ?_
    refine x_iload_n rfl d_X2_cutSidesAt_23 ?_
    refine x_iaload d_X2_cutSidesAt_24 (o3_6 (HR j hj).1) (nIx_nI (j := i) (by omega) (by decide)) ?_
    refine x_rdS d_X2_cutSidesAt_25 lk_2_93 mo_J6_bitCount_0f7a4 sc_J6_bitCount_0f7a4 (sp_bits (rOK_6 (HR j hj).2.1 (by omega))) rfl ⟨Nat.le_of_ble_eq_true rfl, Nat.le_of_ble_eq_true rfl⟩ rfl rfl (Nat.zero_le _) (Nat.zero_le _) (Nat.le_of_ble_eq_true rfl) rfl ?_
    refine x_isubN d_X2_cutSidesAt_28 hps ?_
    refine x_istore d_X2_cutSidesAt_29 (Nat.le_of_ble_eq_true rfl) ?_
    refine x_aload_n rfl d_X2_cutSidesAt_31 ?_
    refine x_getf co_all (v := .ref (P 4 j + 6)) d_X2_cutSidesAt_32 fk_2_90 (o3_o (HR j hj).1) rfl ?_
    refine x_iload_n rfl d_X2_cutSidesAt_35 ?_
    refine x_iconst (v := nI 1) (by decide) d_X2_cutSidesAt_36 ?_
    refine x_aload_n rfl d_X2_cutSidesAt_37 ?_
    refine x_getf co_all (v := .ref (P 4 j + 5)) d_X2_cutSidesAt_38 fk_2_103 (o3_o (HR j hj).1) rfl ?_
    refine x_iload_n rfl d_X2_cutSidesAt_41 ?_
    refine x_iaload d_X2_cutSidesAt_42 (o3_5 (HR j hj).1) (nIx_nI (j := i) (by omega) (by decide)) ?_
    refine x_ishl d_X2_cutSidesAt_43 ?_
    rw [nI_shl1 (by omega)]
    refine x_iconst (v := nI 1) (by decide) d_X2_cutSidesAt_44 ?_
    refine x_isubN d_X2_cutSidesAt_45 (by omega) ?_
    refine x_iastore d_X2_cutSidesAt_46 (o3_6 (HR j hj).1) (nIx_nI (j := i) (by omega) (by decide)) (Nat.le_trans (o3_B (HR j hj).1) (Nat.le_add_right _ _)) ?_
    have H1_3 := o3_ast6 (i) (2 ^ R j 5 i - 1) (HR j hj).1
    have f_2 := o3_f6 (i) (2 ^ R j 5 i - 1) (HR j hj).1 ((nFr.rf (S := nIv (P 4 j) 7) (h := h))) (by exact ⟨by omega, by omega⟩)
    refine x_aload_n rfl d_X2_cutSidesAt_47 ?_
    refine x_iload_n rfl d_X2_cutSidesAt_48 ?_
    refine x_iconst (v := nI 1) (by decide) d_X2_cutSidesAt_49 ?_
    refine x_iaddN d_X2_cutSidesAt_50 ?_
    have F2 : nFr (nIv (P 4 j) 7) h _ := f_2
    have W2 := pW_up W hj F2 H1_3 (rOK_Co (HR j hj).2.1 i)
    refine x_rdV d_X2_cutSidesAt_51 lk_2_41 mo_X2_rowAt vi_X2_rowAt (sp_rowAt W2.1 W2.2.1 hj1) (o2_o W2.1) ⟨_, rfl, rfl⟩ rfl ⟨Nat.le_of_ble_eq_true rfl, Nat.le_of_ble_eq_true rfl⟩ rfl rfl (Nat.zero_le _) (Nat.zero_le _) (Nat.le_of_ble_eq_true rfl) rfl ?_
    refine x_astore d_X2_cutSidesAt_54 (Nat.le_of_ble_eq_true rfl) ?_
    refine x_iconst (v := nI 0) (by decide) d_X2_cutSidesAt_56 ?_
    refine x_istore d_X2_cutSidesAt_57 (Nat.le_of_ble_eq_true rfl) ?_
    refine nG.sub (by exact (And.intro rfl (And.intro rfl (And.intro rfl (And.intro rfl (And.intro rfl (And.intro rfl (And.intro rfl True.intro)))))))) (lp_cut hj hj1 (by omega) (HR (j + 1) hj1).2.1 (R (j + 1) 0 0) 0 _ (by omega) (F2.mono (fun z hz => Or.inl hz)) (pW_cg W2 (fun r f k => ?_)))
    unfold uR
    by_cases h1 : r = j + 1
    · subst h1; rw [if_pos rfl, if_neg (by omega)]; exact rCb_0 _ _ _ _
    · rw [if_neg h1]; rfl
  · refine nSp_of (by decide +kernel) rfl (Nat.le_of_ble_eq_true rfl) (ls := [some (.ref (a)), some (.int (nI (j))), some (.int (nI (i))), none, none, none, none]) (by exact (And.intro rfl (And.intro rfl (And.intro rfl True.intro)))) ?_
    refine x_aload_n rfl d_X2_cutSidesAt_0 ?_
    refine x_iload_n rfl d_X2_cutSidesAt_1 ?_
    refine x_iload_n rfl d_X2_cutSidesAt_2 ?_
    refine x_rdV d_X2_cutSidesAt_3 lk_2_86 mo_X2_rowWith vi_X2_rowWith (sp_rowWith W hj hi) (o2_o H) ⟨_, rfl, rfl⟩ rfl ⟨Nat.le_of_ble_eq_true rfl, Nat.le_of_ble_eq_true rfl⟩ rfl rfl (Nat.zero_le _) (Nat.zero_le _) (Nat.le_of_ble_eq_true rfl) rfl ?_
    refine x_astore_n d_X2_cutSidesAt_6 (Nat.le_of_ble_eq_true rfl) ?_
    refine x_aload_n rfl d_X2_cutSidesAt_7 ?_
    refine x_ifnonnull (tgt := 13) d_X2_cutSidesAt_8 (by decide) ?_
    refine x_aload_n rfl d_X2_cutSidesAt_13 ?_
    refine x_getf co_all (v := .ref (P 4 j + 5)) d_X2_cutSidesAt_14 fk_2_103 (o3_o (HR j hj).1) rfl ?_
    refine x_iload_n rfl d_X2_cutSidesAt_17 ?_
    refine x_iaload d_X2_cutSidesAt_18 (o3_5 (HR j hj).1) (nIx_nI (j := i) (by omega) (by decide)) ?_
    refine x_aload_n rfl d_X2_cutSidesAt_19 ?_
    refine x_getf co_all (v := .ref (P 4 j + 6)) d_X2_cutSidesAt_20 fk_2_90 (o3_o (HR j hj).1) rfl ?_
    refine x_iload_n rfl d_X2_cutSidesAt_23 ?_
    refine x_iaload d_X2_cutSidesAt_24 (o3_6 (HR j hj).1) (nIx_nI (j := i) (by omega) (by decide)) ?_
    refine x_rdS d_X2_cutSidesAt_25 lk_2_93 mo_J6_bitCount_0f7a4 sc_J6_bitCount_0f7a4 (sp_bits (rOK_6 (HR j hj).2.1 (by omega))) rfl ⟨Nat.le_of_ble_eq_true rfl, Nat.le_of_ble_eq_true rfl⟩ rfl rfl (Nat.zero_le _) (Nat.zero_le _) (Nat.le_of_ble_eq_true rfl) rfl ?_
    refine x_isubN d_X2_cutSidesAt_28 hps ?_
    refine x_istore d_X2_cutSidesAt_29 (Nat.le_of_ble_eq_true rfl) ?_
    refine x_aload_n rfl d_X2_cutSidesAt_31 ?_
    refine x_getf co_all (v := .ref (P 4 j + 6)) d_X2_cutSidesAt_32 fk_2_90 (o3_o (HR j hj).1) rfl ?_
    refine x_iload_n rfl d_X2_cutSidesAt_35 ?_
    refine x_iconst (v := nI 1) (by decide) d_X2_cutSidesAt_36 ?_
    refine x_aload_n rfl d_X2_cutSidesAt_37 ?_
    refine x_getf co_all (v := .ref (P 4 j + 5)) d_X2_cutSidesAt_38 fk_2_103 (o3_o (HR j hj).1) rfl ?_
    refine x_iload_n rfl d_X2_cutSidesAt_41 ?_
    refine x_iaload d_X2_cutSidesAt_42 (o3_5 (HR j hj).1) (nIx_nI (j := i) (by omega) (by decide)) ?_
    refine x_ishl d_X2_cutSidesAt_43 ?_
    rw [nI_shl1 (by omega)]
    refine x_iconst (v := nI 1) (by decide) d_X2_cutSidesAt_44 ?_
    refine x_isubN d_X2_cutSidesAt_45 (by omega) ?_
    refine x_iastore d_X2_cutSidesAt_46 (o3_6 (HR j hj).1) (nIx_nI (j := i) (by omega) (by decide)) (Nat.le_trans (o3_B (HR j hj).1) (Nat.le_add_right _ _)) ?_
    have H1_3 := o3_ast6 (i) (2 ^ R j 5 i - 1) (HR j hj).1
    have f_2 := o3_f6 (i) (2 ^ R j 5 i - 1) (HR j hj).1 ((nFr.rf (S := nIv (P 4 j) 7) (h := h))) (by exact ⟨by omega, by omega⟩)
    refine x_aload_n rfl d_X2_cutSidesAt_47 ?_
    refine x_iload_n rfl d_X2_cutSidesAt_48 ?_
    refine x_iconst (v := nI 1) (by decide) d_X2_cutSidesAt_49 ?_
    refine x_iaddN d_X2_cutSidesAt_50 ?_
    have F2 : nFr (nIv (P 4 j) 7) h _ := f_2
    have W2 := pW_up W hj F2 H1_3 (rOK_Co (HR j hj).2.1 i)
    refine x_rdV d_X2_cutSidesAt_51 lk_2_41 mo_X2_rowAt vi_X2_rowAt (sp_rowAtO W2.1 W2.2.1 (j := j + 1) (by omega) (by omega)) (o2_o W2.1) ⟨_, rfl, rfl⟩ rfl ⟨Nat.le_of_ble_eq_true rfl, Nat.le_of_ble_eq_true rfl⟩ rfl rfl (Nat.zero_le _) (Nat.zero_le _) (Nat.le_of_ble_eq_true rfl) rfl ?_
    refine x_astoreN d_X2_cutSidesAt_54 (Nat.le_of_ble_eq_true rfl) ?_
    refine x_iconst (v := nI 0) (by decide) d_X2_cutSidesAt_56 ?_
    refine x_istore d_X2_cutSidesAt_57 (Nat.le_of_ble_eq_true rfl) ?_
    refine x_aloadN rfl d_X2_cutSidesAt_59 ?_
    refine x_ifnullN (tgt := 110) d_X2_cutSidesAt_61 (by decide) ?_
    refine x_iload rfl d_X2_cutSidesAt_110 ?_
    exact x_ireturn d_X2_cutSidesAt_112 rfl rfl (f_2).1 (f_2).2.1 (Nat.zero_le _) (Nat.zero_le _) (⟨by unfold cus; rw [if_neg hj1]; rfl, F2.mono (fun z hz => Or.inl hz), pW_cg W2 (fun r f k => by unfold rCu uR; by_cases h1 : r = j <;> simp [h1, hj1, rCo])⟩)
def pAp (P : Nat → Nat → Nat) (z : Nat) : Nat → Nat → Nat := fun f i => if f = 4 ∧ i = P 5 0 then z else if f = 5 then P 5 0 + 1 else P f i
theorem o2_app {h : nPH} {a z : Nat} {P : Nat → Nat → Nat} (H : o2 h a P) : o2 (nSt (nSt h (a + 1) (nAr (.object "NetLoft$Row") 20 (nUp (fun r => if r < P 5 0 then some (P 4 r) else none) (P 5 0) (some z)))) a (nOb 2 (List.set (l2 a P) 5 (.int (nI (P 5 0 + 1)))))) a (pAp P z) := by
  refine ⟨H.1, nAt_eq.trans rfl, ?_, ?_⟩
  · rw [nAt_ne (by omega), nAt_eq]
    congr 4
    funext r
    unfold nUp pAp
    by_cases h1 : r = P 5 0
    · subst h1; simp
    · by_cases h2 : r < P 5 0
      · have : r < P 5 0 + 1 := by omega
        simp [h1, h2, this]
      · have : ¬ r < P 5 0 + 1 := by omega
        simp [h1, h2, this]
  · rw [nAt_ne (by omega), nAt_ne (by omega)]
    exact (o2_6 H).trans rfl
theorem sp_append {h : nPH} {a z : Nat} {P D : Nat → Nat → Nat} (H : o2 h a P) (hn : P 5 0 < 20) (HZ : o3 h z D) : nWv YX2_append [.ref a, .ref z] h none (fun h2 => nFr (nIv a 3) h h2 ∧ o2 h2 a (pAp P z)) := by
  refine nSp_of (by decide +kernel) rfl (Nat.le_of_ble_eq_true rfl) (ls := [some (.ref (a)), some (.ref (z))]) (by exact (And.intro rfl (And.intro rfl True.intro))) ?_
  refine x_aload_n rfl d_X2_append_0 ?_
  refine x_getf co_all (v := .int (nI (P 5 0))) d_X2_append_1 fk_2_34 (o2_o H) rfl ?_
  refine x_bipush (v := nI 20) (by decide) d_X2_append_4 ?_
  refine x_icmp_geN (tgt := 29) d_X2_append_6 (by decide) (by omega) (by omega) (fun c_1 => by exfalso; omega) (fun c_1 => ?_)
  refine x_aload_n rfl d_X2_append_9 ?_
  refine x_getf co_all (v := .ref (a + 1)) d_X2_append_10 fk_2_20 (o2_o H) rfl ?_
  refine x_aload_n rfl d_X2_append_13 ?_
  refine x_getf co_all (v := .int (nI (P 5 0))) d_X2_append_14 fk_2_34 (o2_o H) rfl ?_
  refine x_aload_n rfl d_X2_append_17 ?_
  refine x_aastore d_X2_append_18 (ci := 3) rfl (o2_4 H) (o3_o HZ) (nIx_nI (j := P 5 0) (by omega) (by decide)) (Nat.le_trans (o2_B H) (Nat.le_add_right _ _)) ?_
  have F1 := (nFr.rf (S := nIv a 3) (h := h)).st (e := nAr (.object "NetLoft$Row") 20 (nUp (fun r => if r < P 5 0 then some (P 4 r) else none) (P 5 0) (some z))) (o2_4 H) (show nIv a 3 (a + 1) from ⟨by omega, by omega⟩)
  have e1 : nAt (nSt h (a + 1) (nAr (.object "NetLoft$Row") 20 (nUp (fun r => if r < P 5 0 then some (P 4 r) else none) (P 5 0) (some z)))) a = some (nOb 2 (l2 a P)) := (nAt_ne (by omega)).trans (o2_o H)
  refine x_aload_n rfl d_X2_append_19 ?_
  refine x_dup rfl d_X2_append_20 ?_
  refine x_getf co_all (v := .int (nI (P 5 0))) d_X2_append_21 fk_2_34 e1 rfl ?_
  refine x_iconst (v := nI 1) (by decide) d_X2_append_24 ?_
  refine x_iaddN d_X2_append_25 ?_
  refine x_putf co_all d_X2_append_26 fk_2_34 ft_2_5 e1 (Nat.le_of_ble_eq_true rfl) rfl rfl (by exact o2_B (h := h) H) ?_
  have F2 := F1.st (e := nOb 2 (List.set (l2 a P) 5 (.int (nI (P 5 0 + 1))))) e1 (show nIv a 3 a from ⟨by omega, by omega⟩)
  exact x_return d_X2_append_29 rfl F2.1 F2.2.1 (Nat.zero_le _) (Nat.zero_le _) ⟨rfl, F2, o2_app H⟩
