/-! the panel grows -/
def nGr (S : Nat → Prop) (h h2 : nPH) (N : Nat) : Prop := h2.1 = h.1 ∧ h2.2.1 = h.2.1 ∧ h2.2.2.1 = h.2.2.1 + N ∧ nWF h2 ∧ ∀ q, q < h.2.2.1 → ¬ S q → nAt h2 q = nAt h q
theorem nGr.rf {S : Nat → Prop} {h : nPH} (hw : nWF h) : nGr S h h 0 := ⟨rfl, rfl, rfl, hw, fun _ _ _ => rfl⟩
theorem nGr.tr {S T : Nat → Prop} {h h2 h3 : nPH} {N M : Nat} (a : nGr S h h2 N) (b : nGr T h2 h3 M) (hs : ∀ q, q < h.2.2.1 → T q → S q) : nGr S h h3 (N + M) := ⟨b.1.trans a.1, b.2.1.trans a.2.1, by rw [b.2.2.1, a.2.2.1]; omega, b.2.2.2.1, fun q hq hn => (b.2.2.2.2 q (by have := a.2.2.1; omega) (fun z => hn (hs q hq z))).trans (a.2.2.2.2 q hq hn)⟩
theorem nGr.of {S : Nat → Prop} {h h2 : nPH} (F : nFr S h h2) (hw : nWF h) : nGr S h h2 0 := ⟨F.1, F.2.1, F.2.2.1, F.2.2.2.1 hw, fun q _ hn => F.2.2.2.2 q hn⟩
theorem nGr.mk {S : Nat → Prop} {h h2 : nPH} {n : Nat} (M : nMk h h2 h.2.2.1 n) : nGr S h h2 n := ⟨M.1, M.2.1, M.2.2.1, M.2.2.2.2, fun q hq _ => M.2.2.2.1 q hq⟩
theorem nGr.mono {S T : Nat → Prop} {h h2 : nPH} {N : Nat} (a : nGr S h h2 N) (hs : ∀ q, q < h.2.2.1 → S q → T q) : nGr T h h2 N := ⟨a.1, a.2.1, a.2.2.1, a.2.2.2.1, fun q hq hn => a.2.2.2.2 q hq (fun z => hn (hs q hq z))⟩
theorem o2_lt {h : nPH} {a : Nat} {P : Nat → Nat → Nat} (H : o2 h a P) (hw : nWF h) : a + 3 ≤ h.2.2.1 := by have := hw.lt (o2_6 H); omega
theorem o3_lt {h : nPH} {a : Nat} {P : Nat → Nat → Nat} (H : o3 h a P) (hw : nWF h) : a + 7 ≤ h.2.2.1 := by have := hw.lt (o3_6 H); omega
theorem pW_gr {S : Nat → Prop} {h h2 : nPH} {a N : Nat} {P : Nat → Nat → Nat} {R : Nat → Nat → Nat → Nat} (W : pW h a P R) (hw : nWF h) (G : nGr S h h2 N) (h1 : ∀ q, a ≤ q → q < a + 3 → ¬ S q) (h3 : ∀ r, r < P 5 0 → ∀ q, P 4 r ≤ q → q < P 4 r + 7 → ¬ S q) : pW h2 a P R := by
  have ha := o2_lt W.1 hw
  refine ⟨o2_kept W.1 G.2.1 (fun q g1 g2 => G.2.2.2.2 q (by omega) (h1 q g1 g2)), W.2.1, fun r hr => ?_, W.2.2.2⟩
  have hr2 := o3_lt (W.2.2.1 r hr).1 hw
  exact ⟨o3_kept (W.2.2.1 r hr).1 G.2.1 (fun q g1 g2 => G.2.2.2.2 q (by omega) (h3 r hr q g1 g2)), (W.2.2.1 r hr).2⟩
theorem hgo_lt (E : Nat → Nat → Nat) (i : Nat) : ∀ n, 0 < n → hgo E n i < n := by
  intro n
  induction n with
  | zero => intro h; omega
  | succ n ih =>
    intro _
    unfold hgo
    split
    · omega
    · rcases Nat.eq_zero_or_pos n with h | h
      · subst h; unfold hgo; omega
      · have := ih h; omega
theorem rOK_HG {E D : Nat → Nat → Nat} {t : Nat} (RE : rOK E) (RD : rOK D) (h0 : 0 < E 0 0) : rOK (rHG E t D) := by
  have he := RE.1
  refine ⟨by rw [rHG_00]; exact RD.1, fun k hk => ?_⟩
  obtain ⟨r1, r2, r3, r4, r5, r6⟩ := RD.2 k hk
  unfold rHG
  by_cases h : k < t
  · have hf : fsO E k < E 0 0 := hgo_lt E k _ h0
    have hg := gvB_rg hf
    simp only [if_pos h]
    refine ⟨by simpa using r1, by simpa using r2, by simpa using r3, ?_, ?_, ?_⟩
    · simp; omega
    · simp
      unfold sdO nB
      split
      · rename_i hc; omega
      · omega
    · simp
      exact Nat.two_pow_pos _
  · simp only [if_neg h]
    exact ⟨r1, r2, r3, r4, r5, r6⟩
/-- a row more at z -/
theorem pW_app {h h3 : nPH} {a z : Nat} {P : Nat → Nat → Nat} {R : Nat → Nat → Nat → Nat} {X : Nat → Nat → Nat} (W : pW h a P R) (hw : nWF h) (hz : h.2.2.1 ≤ z) (hn : P 5 0 < 20) (F : ∀ q, q < h.2.2.1 → ¬ nIv a 3 q → nAt h3 q = nAt h q) (hB : h3.2.1 = h.2.1) (H2 : o2 h3 a (pAp P z)) (HX : o3 h3 z X) (RX : rOK X) : pW h3 a (pAp P z) (uR R (P 5 0) X) := by
  have e5 : pAp P z 5 0 = P 5 0 + 1 := by unfold pAp; rw [if_neg (by omega), if_pos rfl]
  have e4 : pAp P z 4 (P 5 0) = z := by unfold pAp; rw [if_pos ⟨rfl, rfl⟩]
  have e4n : ∀ r, r < P 5 0 → pAp P z 4 r = P 4 r := fun r hr => by unfold pAp; rw [if_neg (by omega), if_neg (by decide)]
  have ha := o2_lt W.1 hw
  have hrl : ∀ r, r < P 5 0 → P 4 r + 7 ≤ h.2.2.1 := fun r hr => o3_lt (W.2.2.1 r hr).1 hw
  refine ⟨H2, by omega, fun r hr => ?_, fun r r2 hr hr2 hne => ?_⟩
  · rw [e5] at hr
    by_cases e : r = P 5 0
    · subst e
      rw [e4, uR_eq]
      exact ⟨HX, RX, Or.inl (by omega)⟩
    · have hr' : r < P 5 0 := by omega
      rw [e4n r hr', uR_ne e]
      have := hrl r hr'
      refine ⟨o3_kept (W.2.2.1 r hr').1 hB (fun q g1 g2 => F q (by omega) (ap_fr (S := fun _ => True) (ap_sy (W.2.2.1 r hr').2.2) q g1 g2)), (W.2.2.1 r hr').2⟩
  · rw [e5] at hr hr2
    by_cases e : r = P 5 0
    · subst e
      have hr' : r2 < P 5 0 := by omega
      rw [e4, e4n r2 hr']
      have := hrl r2 hr'
      exact Or.inr (by omega)
    · have hr' : r < P 5 0 := by omega
      rw [e4n r hr']
      by_cases e2 : r2 = P 5 0
      · subst e2
        rw [e4]
        have := hrl r hr'
        exact Or.inl (by omega)
      · have hr2' : r2 < P 5 0 := by omega
        rw [e4n r2 hr2']
        exact W.2.2.2 r r2 hr' hr2' hne
theorem off_b {E : Nat → Nat → Nat} (RE : rOK E) : off E (E 0 0) ≤ 48 := by
  have := RE.1
  have h : fb_sm (fun i => E 2 i) (E 0 0) ≤ E 0 0 * 2 := fb_sm_bound fun k hk => (RE.2 k (by omega)).2.1
  unfold off
  omega
theorem sp_hangRowN {h : nPH} {a : Nat} {P : Nat → Nat → Nat} {R : Nat → Nat → Nat → Nat} (W : pW h a P R) (hw : nWF h) (h1 : 1 ≤ P 5 0) {t : Nat} (ht : t = off (R (P 5 0 - 1)) (R (P 5 0 - 1) 0 0)) (hno : 20 ≤ P 5 0 ∨ ¬ (1 ≤ t ∧ t ≤ 24)) : nRd YX2_hangRow [.ref a] h (.int (-1)) := by
  obtain ⟨H, hn, HR, hap⟩ := id W
  have HL := HR (P 5 0 - 1) (by omega)
  have htb : t < 2 ^ 31 := by have := off_b HL.2.1; omega
  refine nSp_of (by decide +kernel) rfl (Nat.le_of_ble_eq_true rfl) (ls := [some (.ref (a)), none, none, none]) (by exact (And.intro rfl True.intro)) ?_
  refine x_aload_n rfl d_X2_hangRow_0 ?_
  refine x_rdV d_X2_hangRow_1 lk_2_57 mo_X2_lastRow vi_X2_lastRow (sp_lastRow H hn h1) (o2_o H) ⟨_, rfl, rfl⟩ rfl ⟨Nat.le_of_ble_eq_true rfl, Nat.le_of_ble_eq_true rfl⟩ rfl rfl (Nat.zero_le _) (Nat.zero_le _) (Nat.le_of_ble_eq_true rfl) rfl ?_
  refine x_astore_n d_X2_hangRow_4 (Nat.le_of_ble_eq_true rfl) ?_
  refine x_aload_n rfl d_X2_hangRow_5 ?_
  refine x_ifnull d_X2_hangRow_6 ?_
  refine x_aload_n rfl d_X2_hangRow_9 ?_
  refine x_getf co_all (v := .int (nI (P 5 0))) d_X2_hangRow_10 fk_2_34 (o2_o H) rfl ?_
  refine x_bipush (v := nI 20) (by decide) d_X2_hangRow_13 ?_
  refine x_icmp_ltN (tgt := 20) d_X2_hangRow_15 (by decide) (by omega) (by omega) (fun c_1 => ?_) (fun c_1 => ?_)
  · refine x_aload_n rfl d_X2_hangRow_20 ?_
    refine x_rdV d_X2_hangRow_21 lk_2_60 mo_X3_givenInAll vi_X3_givenInAll (sp_given HL.1 HL.2.1) (o3_o HL.1) ⟨_, rfl, rfl⟩ rfl ⟨Nat.le_of_ble_eq_true rfl, Nat.le_of_ble_eq_true rfl⟩ rfl rfl (Nat.zero_le _) (Nat.zero_le _) (Nat.le_of_ble_eq_true rfl) rfl ?_
    rw [show sg (R (P 5 0 - 1)) 2 (R (P 5 0 - 1) 0 0) = t from ht.symm]
    refine x_istore_n d_X2_hangRow_24 (Nat.le_of_ble_eq_true rfl) ?_
    refine x_iload_n rfl d_X2_hangRow_25 ?_
    refine x_iconst (v := nI 1) (by decide) d_X2_hangRow_26 ?_
    refine x_bipush (v := nI 24) (by decide) d_X2_hangRow_27 ?_
    refine x_rdSN d_X2_hangRow_29 lk_2_37 mo_X7_within sc_X7_within (sp_wn (a := t) (b := 1) (c := 24) htb (by decide) (by decide)) rfl ⟨Nat.le_of_ble_eq_true rfl, Nat.le_of_ble_eq_true rfl⟩ rfl rfl (Nat.zero_le _) (Nat.zero_le _) (Nat.le_of_ble_eq_true rfl) rfl ?_
    have hle := nB_le (1 ≤ t ∧ t ≤ 24)
    refine x_if_neN (tgt := 37) d_X2_hangRow_32 (by decide) (by omega) (fun c_2 => by exfalso; exact c_2 (nB_F (by omega))) (fun c_2 => ?_)
    refine x_iconst (v := -1) (by decide) d_X2_hangRow_35 ?_
    exact x_ireturn d_X2_hangRow_36 rfl rfl rfl rfl (Nat.zero_le _) (Nat.zero_le _) (⟨rfl, rfl⟩)
  · refine x_iconst (v := -1) (by decide) d_X2_hangRow_18 ?_
    exact x_ireturn d_X2_hangRow_19 rfl rfl rfl rfl (Nat.zero_le _) (Nat.zero_le _) (⟨rfl, rfl⟩)
theorem sp_hangRow {h : nPH} {a : Nat} {P : Nat → Nat → Nat} {R : Nat → Nat → Nat → Nat} (W : pW h a P R) (hw : nWF h) (h1 : 1 ≤ P 5 0) {t : Nat} (ht : t = off (R (P 5 0 - 1)) (R (P 5 0 - 1) 0 0)) (h20 : P 5 0 < 20) (h1t : 1 ≤ t) (h24 : t ≤ 24) : nWv YX2_hangRow [.ref a] h (some (.int (nI t))) (fun h2 => nGr (nIv a 3) h h2 7 ∧ pW h2 a (pAp P h.2.2.1) (uR R (P 5 0) (rHG (R (P 5 0 - 1)) t (rNew t)))) := by
  obtain ⟨H, hn, HR, hap⟩ := id W
  have HL := HR (P 5 0 - 1) (by omega)
  have htb : t < 2 ^ 31 := by have := off_b HL.2.1; omega
  have h0 : 0 < R (P 5 0 - 1) 0 0 := by
    rcases Nat.eq_zero_or_pos (R (P 5 0 - 1) 0 0) with e | e
    · rw [e] at ht; have : off (R (P 5 0 - 1)) 0 = 0 := rfl; omega
    · exact e
  generalize hzz : h.2.2.1 = z
  refine nSp_of (by decide +kernel) rfl (Nat.le_of_ble_eq_true rfl) (ls := [some (.ref (a)), none, none, none]) (by exact (And.intro rfl True.intro)) ?_
  refine x_aload_n rfl d_X2_hangRow_0 ?_
  refine x_rdV d_X2_hangRow_1 lk_2_57 mo_X2_lastRow vi_X2_lastRow (sp_lastRow H hn h1) (o2_o H) ⟨_, rfl, rfl⟩ rfl ⟨Nat.le_of_ble_eq_true rfl, Nat.le_of_ble_eq_true rfl⟩ rfl rfl (Nat.zero_le _) (Nat.zero_le _) (Nat.le_of_ble_eq_true rfl) rfl ?_
  refine x_astore_n d_X2_hangRow_4 (Nat.le_of_ble_eq_true rfl) ?_
  refine x_aload_n rfl d_X2_hangRow_5 ?_
  refine x_ifnull d_X2_hangRow_6 ?_
  refine x_aload_n rfl d_X2_hangRow_9 ?_
  refine x_getf co_all (v := .int (nI (P 5 0))) d_X2_hangRow_10 fk_2_34 (o2_o H) rfl ?_
  refine x_bipush (v := nI 20) (by decide) d_X2_hangRow_13 ?_
  refine x_icmp_ltN (tgt := 20) d_X2_hangRow_15 (by decide) (by omega) (by omega) (fun c_1 => ?_) (fun c_1 => by exfalso; omega)
  refine x_aload_n rfl d_X2_hangRow_20 ?_
  refine x_rdV d_X2_hangRow_21 lk_2_60 mo_X3_givenInAll vi_X3_givenInAll (sp_given HL.1 HL.2.1) (o3_o HL.1) ⟨_, rfl, rfl⟩ rfl ⟨Nat.le_of_ble_eq_true rfl, Nat.le_of_ble_eq_true rfl⟩ rfl rfl (Nat.zero_le _) (Nat.zero_le _) (Nat.le_of_ble_eq_true rfl) rfl ?_
  rw [show sg (R (P 5 0 - 1)) 2 (R (P 5 0 - 1) 0 0) = t from ht.symm]
  refine x_istore_n d_X2_hangRow_24 (Nat.le_of_ble_eq_true rfl) ?_
  refine x_iload_n rfl d_X2_hangRow_25 ?_
  refine x_iconst (v := nI 1) (by decide) d_X2_hangRow_26 ?_
  refine x_bipush (v := nI 24) (by decide) d_X2_hangRow_27 ?_
  refine x_rdSN d_X2_hangRow_29 lk_2_37 mo_X7_within sc_X7_within (sp_wn (a := t) (b := 1) (c := 24) htb (by decide) (by decide)) rfl ⟨Nat.le_of_ble_eq_true rfl, Nat.le_of_ble_eq_true rfl⟩ rfl rfl (Nat.zero_le _) (Nat.zero_le _) (Nat.le_of_ble_eq_true rfl) rfl ?_
  have hle := nB_le (1 ≤ t ∧ t ≤ 24)
  refine x_if_neN (tgt := 37) d_X2_hangRow_32 (by decide) (by omega) (fun c_2 => ?_) (fun c_2 => by exfalso; rw [nB_T ⟨h1t, h24⟩] at c_2; omega)
  refine x_new co_all d_X2_hangRow_37 nn_2_18 df_3 (Nat.le_of_ble_eq_true rfl) (Nat.le_of_ble_eq_true rfl) ?_
  have B0 := nBld_new hw 3 [.int 0, .null, .null, .null, .null, .null, .null]
  rw [hzz] at B0 ⊢
  refine x_dup rfl d_X2_hangRow_40 ?_
  refine x_iload_n rfl d_X2_hangRow_41 ?_
  refine x_wvI d_X2_hangRow_42 lk_2_64 mo_X3_init ii_X3_init rfl (sp_rowInit B0 h24) rfl ⟨Nat.le_of_ble_eq_true rfl, Nat.le_of_ble_eq_true rfl⟩ (Nat.le_of_ble_eq_true rfl) (Nat.le_of_ble_eq_true rfl) (Nat.le_of_ble_eq_true rfl) rfl (fun h2 hp e1 e2 => ?_)
  obtain ⟨M, HN⟩ := hp
  rw [← hzz] at M
  have M := nMk_new M
  have W2 : pW h2 a P R := pW_gr W hw (nGr.mk (S := fun _ => False) M) (fun _ _ _ z => z) (fun _ _ _ _ _ z => z)
  have hal := o2_lt H hw
  have hrl := o3_lt HL.1 hw
  refine x_astore_n d_X2_hangRow_45 (Nat.le_of_ble_eq_true rfl) ?_
  refine x_aload_n rfl d_X2_hangRow_46 ?_
  refine x_aload_n rfl d_X2_hangRow_47 ?_
  refine x_wvV d_X2_hangRow_48 lk_2_67 mo_X3_hangIn vi_X3_hangIn (sp_hangIn HN (W2.2.2.1 (P 5 0 - 1) (by omega)).1 HL.2.1 (show rNew t 0 0 ≤ 24 from h24) (Or.inl (by omega)) (show off (R (P 5 0 - 1)) (R (P 5 0 - 1) 0 0) = t from ht.symm)) (o3_o HN) ⟨_, rfl, rfl⟩ rfl ⟨Nat.le_of_ble_eq_true rfl, Nat.le_of_ble_eq_true rfl⟩ (Nat.le_of_ble_eq_true rfl) (Nat.le_of_ble_eq_true rfl) (Nat.le_of_ble_eq_true rfl) rfl (fun h3 hp e3 e4 => ?_)
  obtain ⟨F3, H3⟩ := hp
  change o3 h3 z (rHG (R (P 5 0 - 1)) t (rNew t)) at H3
  have W3 : o2 h3 a P := o2_fr W2.1 F3 (fun q g1 g2 g3 => by have := g3.1; omega)
  have hw3 : nWF h3 := F3.2.2.2.1 M.2.2.2.2
  refine x_aload_n rfl d_X2_hangRow_51 ?_
  refine x_aload_n rfl d_X2_hangRow_52 ?_
  refine x_wvV d_X2_hangRow_53 lk_2_53 mo_X2_append vi_X2_append (sp_append W3 h20 H3) (o2_o W3) ⟨_, rfl, rfl⟩ rfl ⟨Nat.le_of_ble_eq_true rfl, Nat.le_of_ble_eq_true rfl⟩ (Nat.le_of_ble_eq_true rfl) (Nat.le_of_ble_eq_true rfl) (Nat.le_of_ble_eq_true rfl) rfl (fun h4 hp e5 e6 => ?_)
  obtain ⟨F4, H4⟩ := hp
  have G : nGr (nIv a 3) h h4 7 := by
    have G2 := ((nGr.mk (S := nIv a 3) M).tr (T := nIv z 7) (nGr.of F3 M.2.2.2.2) (fun q g1 g2 => by have := g2.1; omega)).tr (T := nIv a 3) (nGr.of F4 hw3) (fun q _ g => g)
    exact G2
  refine x_iload_n rfl d_X2_hangRow_56 ?_
  refine x_ireturn d_X2_hangRow_57 rfl rfl G.1 G.2.1 (Nat.le_of_ble_eq_true rfl) (Nat.le_of_ble_eq_true rfl) ⟨rfl, G, ?_⟩
  rw [← hzz]
  refine pW_app W hw (Nat.le_refl _) h20 G.2.2.2.2 G.2.1 (by rw [hzz]; exact H4) (by rw [hzz]; exact o3_fr H3 F4 (fun q g1 g2 g3 => by have := g3.2; omega)) (rOK_HG HL.2.1 (rOK_new h24) h0)
theorem offTE {e z : Nat} (he : 1 ≤ e) (hz : 1 ≤ z) (hz2 : z ≤ 2) (N : Nat) (D : Nat → Nat → Nat) : ∀ n, n ≤ N → 1 ≤ n → off (rTE e z N D) n = shp n e z := by
  have step : ∀ n, n < N → off (rTE e z N D) (n + 1) = off (rTE e z N D) n + gvo (tke e z n) := by
    intro n hn
    rw [off_s]
    unfold rTE
    rw [if_neg (by omega), if_pos ⟨rfl, hn⟩]
  intro n
  induction n with
  | zero => intro h1 h2; omega
  | succ n ih =>
    intro hn _
    rw [step n (by omega)]
    have hd : (n + 1) / e = n / e + if e ∣ n + 1 then 1 else 0 := Nat.succ_div
    rcases Nat.eq_zero_or_pos n with h0 | h0
    · subst h0
      have e0 : off (rTE e z N D) 0 = 0 := rfl
      rw [e0]
      have hdv : 1 / e = if e = 1 then 1 else 0 := by
        split
        · rename_i h; subst h; rfl
        · exact Nat.div_eq_of_lt (by omega)
      have hm : 1 % e = 0 ↔ e = 1 := by
        constructor
        · intro h
          have := Nat.div_add_mod 1 e
          rw [h, hdv] at this
          split at this
          · assumption
          · omega
        · intro h; subst h; rfl
      unfold shp tke gvo
      simp only [Nat.zero_add, hdv, hm]
      rcases (show z = 1 ∨ z = 2 by omega) with rfl | rfl <;> by_cases h : e = 1 <;> simp [h]
    · rw [ih (by omega) h0]
      have hm : (n + 1) % e = 0 ↔ e ∣ n + 1 := (Nat.dvd_iff_mod_eq_zero).symm
      have hle := Nat.div_le_self n e
      unfold shp tke gvo
      simp only [hd, hm]
      rcases (show z = 1 ∨ z = 2 by omega) with rfl | rfl
      · by_cases h : e ∣ n + 1
        · simp [h]; omega
        · simp [h]; omega
      · by_cases h1 : e = 1
        · subst h1; simp [show ¬ n = 0 by omega, shp]
        · have h2 : n / e < n := Nat.div_lt_self h0 (by omega)
          by_cases h : e ∣ n + 1
          · simp [h, h1, show ¬ n = 0 by omega]
          · simp [h, h1]; omega
def shP (P : Nat → Nat → Nat) (z : Nat) : Nat → Nat → Nat → Nat
  | 0 => P
  | i + 1 => pAp (shP P z i) (z + 7 * i)
def shA (e k : Nat) (D : Nat → Nat → Nat) : Nat → Nat → Nat := rTE e k (D 0 0) D
def shN (A : Nat → Nat → Nat) : Nat → Nat → Nat := rHG A (off A (A 0 0)) (rNew (off A (A 0 0)))
def shR (e k m : Nat) (R : Nat → Nat → Nat → Nat) : Nat → Nat → Nat → Nat → Nat
  | 0 => R
  | i + 1 => uR (uR (shR e k m R i) (m + i - 1) (shA e k (shR e k m R i (m + i - 1)))) (m + i) (shN (shA e k (shR e k m R i (m + i - 1))))
theorem shP_5 (P : Nat → Nat → Nat) (z : Nat) : ∀ i, shP P z i 5 0 = P 5 0 + i
  | 0 => rfl
  | i + 1 => by
    show pAp (shP P z i) (z + 7 * i) 5 0 = _
    unfold pAp
    rw [if_neg (by omega), if_pos rfl, shP_5 P z i]
    omega
theorem shP_4 (P : Nat → Nat → Nat) (z : Nat) {r : Nat} : ∀ i, (r < P 5 0 → shP P z i 4 r = P 4 r) ∧ (P 5 0 ≤ r → r < P 5 0 + i → shP P z i 4 r = z + 7 * (r - P 5 0))
  | 0 => ⟨fun _ => rfl, fun h1 h2 => by omega⟩
  | i + 1 => by
    have ih := shP_4 P z (r := r) i
    have e5 := shP_5 P z i
    refine ⟨fun h => ?_, fun h1 h2 => ?_⟩
    · show pAp (shP P z i) (z + 7 * i) 4 r = _
      unfold pAp
      rw [if_neg (by omega), if_neg (by decide)]
      exact ih.1 h
    · show pAp (shP P z i) (z + 7 * i) 4 r = _
      unfold pAp
      by_cases e : r = P 5 0 + i
      · rw [if_pos ⟨rfl, by omega⟩]; congr 2; omega
      · rw [if_neg (by omega), if_neg (by decide)]
        exact ih.2 h1 (by omega)
theorem shA_0 (e k : Nat) (D : Nat → Nat → Nat) : shA e k D 0 0 = D 0 0 := by unfold shA rTE; rw [if_neg (by omega), if_neg (by omega)]
theorem shR_l {e k m : Nat} (he : 1 ≤ e) (hk : 1 ≤ k) (hk2 : k ≤ 2) (hm : 1 ≤ m) {R : Nat → Nat → Nat → Nat} {v n : Nat} (hv : R (m - 1) 0 0 = v) (h0 : 1 ≤ v) (hs : shB v e k n) : ∀ i, i ≤ n → shR e k m R i (m + i - 1) 0 0 = shI v e k i ∧ 1 ≤ shI v e k i
  | 0, _ => ⟨hv, h0⟩
  | i + 1, h => by
    obtain ⟨ih1, ih2⟩ := shR_l he hk hk2 hm hv h0 hs i (by omega)
    refine ⟨?_, (hs i (by omega)).1⟩
    show uR _ (m + i) _ (m + (i + 1) - 1) 0 0 = shp (shI v e k i) e k
    rw [show m + (i + 1) - 1 = m + i by omega, uR_eq]
    show rHG _ _ _ 0 0 = _
    rw [rHG_00]
    show off _ _ = _
    rw [shA_0, ih1]
    unfold shA
    rw [ih1]
    exact offTE he hk hk2 _ _ _ (Nat.le_refl _) ih2
theorem lp_shapeRows {h0 : nPH} {a : Nat} {P : Nat → Nat → Nat} {R : Nat → Nat → Nat → Nat} (h1 : 1 ≤ P 5 0) {n e k : Nat} (hn1 : 1 ≤ n) (hn2 : P 5 0 + n ≤ 20) (he : 1 ≤ e) (he2 : e ≤ 24) (hk : 1 ≤ k) (hk2 : k ≤ 2) (hp0 : 1 ≤ R (P 5 0 - 1) 0 0) (hpl : R (P 5 0 - 1) 0 0 ≤ 24) (hs : shB (R (P 5 0 - 1) 0 0) e k n) (hw0 : nWF h0) (Wa : pW h0 a P R) : ∀ m i : Nat, ∀ h : nPH, ∀ vv : Int32, i + m = n → (i = n → vv = nI (shI (R (P 5 0 - 1) 0 0) e k n)) → nGr (fun q => nIv a 3 q ∨ nIv (P 4 (P 5 0 - 1)) 7 q) h0 h (7 * i) → pW h a (shP P h0.2.2.1 i) (shR e k (P 5 0) R i) → nG YX2_shapeRows (nKy YX2_shapeRows h0.1 h0.2.1 (fun v h2 => v = some (.int (nI (shI (R (P 5 0 - 1) 0 0) e k n))) ∧ nGr (fun q => nIv a 3 q ∨ nIv (P 4 (P 5 0 - 1)) 7 q) h0 h2 (7 * n) ∧ pW h2 a (shP P h0.2.2.1 n) (shR e k (P 5 0) R n))) (7 * i) (151 * i) 6 [some (.ref (a)), some (.int (nI (n))), some (.int (nI (e))), some (.int (nI (k))), some (.int (vv)), some (.int (nI (i))), none] [] h := by
  intro m
  induction m with
  | zero =>
    intro i h vv hi hvv G W
    have ei : i = n := by omega
    subst ei
    have hvv := hvv rfl
    subst hvv
    refine x_iload rfl d_X2_shapeRows_6 ?_
    refine x_iload_n rfl d_X2_shapeRows_8 ?_
    refine x_icmp_geN (tgt := 42) d_X2_shapeRows_9 (by decide) (by omega) (by omega) (fun c_1 => ?_) (fun c_1 => by exfalso; omega)
    refine x_iload rfl d_X2_shapeRows_42 ?_
    exact x_ireturn d_X2_shapeRows_44 rfl rfl G.1 G.2.1 (by show _ ≤ (_ : Nat); simp only [nCe, nSl, YX2_shapeRows]; omega) (by show _ ≤ (_ : Nat); simp only [nCe, nSl, YX2_shapeRows]; omega) (⟨rfl, G, W⟩)
  | succ m ih =>
    intro i h vv hi hvv G W
    obtain ⟨H, hn, HR, hap⟩ := id W
    have e5 := shP_5 P h0.2.2.1 i
    have hw := G.2.2.2.1
    have hl : shP P h0.2.2.1 i 5 0 - 1 < shP P h0.2.2.1 i 5 0 := by omega
    have el : shP P h0.2.2.1 i 5 0 - 1 = P 5 0 + i - 1 := by omega
    have hsr := shR_l he hk hk2 h1 rfl hp0 hs i (by omega)
    have hsb := hs i (by omega)
    have HL := HR _ hl
    rw [el] at HL
    have hD24 := HL.2.1.1
    have hc1 : 7 * i + nCe YX3_turnEvery ≤ (nRm YX2_shapeRows).cells := by show 7 * i + 0 ≤ 133; omega
    have hc2 : 151 * i + nSl YX3_turnEvery ≤ (nRm YX2_shapeRows).slots := by show 151 * i + 0 ≤ 2869; omega
    have hc3 : 7 * i + nCe YX3_turnEvery + nCe YX2_hangRow ≤ (nRm YX2_shapeRows).cells := by show 7 * i + 0 + 7 ≤ 133; omega
    have hc4 : 151 * i + nSl YX3_turnEvery + nSl YX2_hangRow ≤ (nRm YX2_shapeRows).slots := by show 151 * i + 0 + 151 ≤ 2869; omega
    refine x_iload rfl d_X2_shapeRows_6 ?_
    refine x_iload_n rfl d_X2_shapeRows_8 ?_
    refine x_icmp_geN (tgt := 42) d_X2_shapeRows_9 (by decide) (by omega) (by omega) (fun c_1 => by exfalso; omega) (fun c_1 => ?_)
    refine x_aload_n rfl d_X2_shapeRows_12 ?_
    refine x_rdV d_X2_shapeRows_13 lk_2_57 mo_X2_lastRow vi_X2_lastRow (sp_lastRow H hn (by omega)) (o2_o H) ⟨_, rfl, rfl⟩ rfl ⟨Nat.le_of_ble_eq_true rfl, Nat.le_of_ble_eq_true rfl⟩ rfl rfl (by show 7 * i ≤ 133; omega) (by show 151 * i ≤ 2869; omega) (Nat.le_of_ble_eq_true rfl) rfl ?_
    rw [el]
    refine x_astore d_X2_shapeRows_16 (Nat.le_of_ble_eq_true rfl) ?_
    refine x_aload rfl d_X2_shapeRows_18 ?_
    refine x_ifnull d_X2_shapeRows_20 ?_
    refine x_aload rfl d_X2_shapeRows_23 ?_
    refine x_iload_n rfl d_X2_shapeRows_25 ?_
    refine x_iload_n rfl d_X2_shapeRows_26 ?_
    refine x_wvV d_X2_shapeRows_27 lk_2_79 mo_X3_turnEvery vi_X3_turnEvery (sp_turnEvery HL.1 HL.2.1.1 he he2 hk hk2) (o3_o HL.1) ⟨_, rfl, rfl⟩ rfl ⟨Nat.le_of_ble_eq_true rfl, Nat.le_of_ble_eq_true rfl⟩ hc1 hc2 (Nat.le_of_ble_eq_true rfl) rfl (fun h2 hp e1 e2 => ?_)
    obtain ⟨F2, H2⟩ := hp
    change o3 h2 _ (shA e k (shR e k (P 5 0) R i (P 5 0 + i - 1))) at H2
    have RA : rOK (shA e k (shR e k (P 5 0) R i (P 5 0 + i - 1))) := rOK_TE HL.2.1 (by omega)
    have W2 : pW h2 a (shP P h0.2.2.1 i) (uR (shR e k (P 5 0) R i) (P 5 0 + i - 1) (shA e k (shR e k (P 5 0) R i (P 5 0 + i - 1)))) := pW_up W (by omega) F2 H2 RA
    have hw2 : nWF h2 := F2.2.2.2.1 hw
    have eA : (shA e k (shR e k (P 5 0) R i (P 5 0 + i - 1))) 0 0 = shI (R (P 5 0 - 1) 0 0) e k i := (shA_0 _ _ _).trans hsr.1
    have eo : off (shA e k (shR e k (P 5 0) R i (P 5 0 + i - 1))) ((shA e k (shR e k (P 5 0) R i (P 5 0 + i - 1))) 0 0) = shI (R (P 5 0 - 1) 0 0) e k (i + 1) := by
      rw [eA]
      show off (rTE e k _ _) _ = shp _ e k
      rw [hsr.1]
      exact offTE he hk hk2 _ _ _ (Nat.le_refl _) hsr.2
    have ez : h2.2.2.1 = h0.2.2.1 + 7 * i := F2.2.2.1.trans G.2.2.1
    refine x_aload_n rfl d_X2_shapeRows_30 ?_
    refine x_wvV d_X2_shapeRows_31 lk_2_83 mo_X2_hangRow vi_X2_hangRow (sp_hangRow (t := shI (R (P 5 0 - 1) 0 0) e k (i + 1)) W2 hw2 (by omega) (by rw [el, uR_eq]; exact eo.symm) (by omega) hsb.1 hsb.2) (o2_o W2.1) ⟨_, rfl, rfl⟩ rfl ⟨Nat.le_of_ble_eq_true rfl, Nat.le_of_ble_eq_true rfl⟩ hc3 hc4 (Nat.le_of_ble_eq_true rfl) rfl (fun h3 hp e3 e4 => ?_)
    obtain ⟨G3, W3⟩ := hp
    have G4 : nGr (fun q => nIv a 3 q ∨ nIv (P 4 (P 5 0 - 1)) 7 q) h0 h3 (7 * (i + 1)) := by
      have := (G.tr (T := nIv (shP P h0.2.2.1 i 4 (P 5 0 + i - 1)) 7) (nGr.of F2 hw) (fun q g1 g2 => ?_)).tr (T := nIv a 3) G3 (fun q _ g => Or.inl g)
      · rw [show 7 * i + 0 + 7 = 7 * (i + 1) by omega] at this; exact this
      · rcases Nat.eq_zero_or_pos i with hi0 | hi0
        · subst hi0; exact Or.inr g2
        · have := (shP_4 P h0.2.2.1 (r := P 5 0 + i - 1) i).2 (by omega) (by omega)
          rw [this] at g2
          have := g2.1
          omega
    have W4 : pW h3 a (shP P h0.2.2.1 (i + 1)) (shR e k (P 5 0) R (i + 1)) := by
      rw [ez] at W3
      refine pW_cg W3 (fun r f q => ?_)
      rw [el, e5, uR_eq, ← eo]
      rfl
    refine x_istore d_X2_shapeRows_34 (Nat.le_of_ble_eq_true rfl) ?_
    refine x_iincN (m := 1) d_X2_shapeRows_36 rfl (by decide) (Nat.le_of_ble_eq_true rfl) ?_
    refine x_goto (tgt := 6) d_X2_shapeRows_39 (by decide) ?_
    refine nG.eq rfl rfl rfl (show _ = 7 * (i + 1) from ?_) (show _ = 151 * (i + 1) from ?_) (nG.sub (by exact (And.intro rfl (And.intro rfl (And.intro rfl (And.intro rfl (And.intro rfl (And.intro rfl True.intro))))))) (ih (i + 1) h3 (nI (shI (R (P 5 0 - 1) 0 0) e k (i + 1))) (by omega) (fun z => by rw [z]) G4 W4))
    · show 7 * i + 0 + 7 = _; omega
    · show 151 * i + 0 + 151 = _; omega
theorem sp_shapeRows {h : nPH} {a : Nat} {P : Nat → Nat → Nat} {R : Nat → Nat → Nat → Nat} (h1 : 1 ≤ P 5 0) {n e k : Nat} (hn1 : 1 ≤ n) (hn2 : P 5 0 + n ≤ 20) (he : 1 ≤ e) (he2 : e ≤ 24) (hk : 1 ≤ k) (hk2 : k ≤ 2) (hp0 : 1 ≤ R (P 5 0 - 1) 0 0) (hpl : R (P 5 0 - 1) 0 0 ≤ 24) (hs : shB (R (P 5 0 - 1) 0 0) e k n) (hw : nWF h) (W : pW h a P R) : nWv YX2_shapeRows [.ref a, .int (nI n), .int (nI e), .int (nI k)] h (some (.int (nI (shI (R (P 5 0 - 1) 0 0) e k n)))) (fun h2 => nGr (fun q => nIv a 3 q ∨ nIv (P 4 (P 5 0 - 1)) 7 q) h h2 (7 * n) ∧ pW h2 a (shP P h.2.2.1 n) (shR e k (P 5 0) R n)) := by
  refine nSp_of (by decide +kernel) rfl (Nat.le_of_ble_eq_true rfl) (ls := [some (.ref (a)), some (.int (nI (n))), some (.int (nI (e))), some (.int (nI (k))), none, none, none]) (by exact (And.intro rfl (And.intro rfl (And.intro rfl (And.intro rfl True.intro))))) ?_
  refine x_iconst (v := -1) (by decide) d_X2_shapeRows_0 ?_
  refine x_istore d_X2_shapeRows_1 (Nat.le_of_ble_eq_true rfl) ?_
  refine x_iconst (v := nI 0) (by decide) d_X2_shapeRows_3 ?_
  refine x_istore d_X2_shapeRows_4 (Nat.le_of_ble_eq_true rfl) ?_
  exact nG.sub (by exact (And.intro rfl (And.intro rfl (And.intro rfl (And.intro rfl (And.intro rfl (And.intro rfl True.intro))))))) (lp_shapeRows h1 hn1 hn2 he he2 hk hk2 hp0 hpl hs hw W n 0 h (-1) (by omega) (fun z => by omega) (nGr.rf hw) W)
