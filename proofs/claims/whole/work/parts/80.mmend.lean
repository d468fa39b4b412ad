/-! one twine, the model: mend -/
theorem hod_ev {P : Nat → Nat → Nat} {R : Nat → Nat → Nat → Nat} {T : Nat → Bool} (hn : P 5 0 ≤ 20) (hok : ∀ r, r < P 5 0 → rOK (R r)) (G : gOK (P 5 0) R) (hin : ∀ x, T x = true → gIn (P 5 0) R x) (hcl : ∀ x y, T x = true → gE (P 5 0) R x y → T y = true) : hod P R T 480 % 2 = 0 := by
  have hhs := hen_ls hn hok G hin hcl
  have e1 : hen P R T 480 % 2 = hod P R T 480 % 2 := by
    unfold hen hod
    rw [fb_mod, fb_mod (fun x => nb (T x) * (gsx P R x % 2))]
    have e2 : fb_sm (fun k => nb (T k) * gsx P R k % 2) 480 = fb_sm (fun k => nb (T k) * (gsx P R k % 2) % 2) 480 := fb_sm_cong (fun k _ => by
      rcases z : T k with _ | _
      · show (0 * _) % 2 = (0 * _) % 2
        rw [Nat.zero_mul, Nat.zero_mul]
      · show (1 * _) % 2 = (1 * _) % 2
        rw [Nat.one_mul, Nat.one_mul, Nat.mod_mod])
    rw [e2]
  omega
theorem hre_of {P : Nat → Nat → Nat} {R : Nat → Nat → Nat → Nat} {T : Nat → Bool} (K : kP P R) {s : Nat} (hs : gIn (P 5 0) R s) (hT : hTr P R s T) {x0 : Nat} (hx0 : T x0 = true) : ∀ y, T y = true → gRe (P 5 0) R x0 y := fun y hy => by
  have hne : ¬ gsx P R s = 0 := fun z => by
    have := hT.1 z y
    rw [hy] at this
    cases this
  have hsx : gRe (P 5 0) R s x0 := (hT.2 hne x0).mp hx0
  have hsy : gRe (P 5 0) R s y := (hT.2 hne y).mp hy
  have key : ∀ z, gRe (P 5 0) R s z → gIn (P 5 0) R z ∧ gRe (P 5 0) R z s := fun z hz => hz (fun w => gIn (P 5 0) R w ∧ gRe (P 5 0) R w s) ⟨hs, gRe.z _ _ _⟩ (fun u w hu e => ⟨gE_in K.2.2.2.1 hu.1 e, fun Q q1 q2 => hu.2 Q (q2 w u q1 (gE_sy hu.1 e)) q2⟩)
  exact fun Q q1 q2 => hsy Q ((key x0 hsx).2 Q q1 q2) q2
theorem nV_p (d : Nat) : nI d + Int32.ofInt (-1) = nV d := by
  unfold nV
  rw [Int32.sub_eq_add_neg]
  rfl
theorem cS_at {f : Nat → Nat} : ∀ {L : List Nat}, cS f L → ∀ i, i < L.length → f (L.length - 1 - i) = nmK (L.getD i 0)
  | [], _, i, h => absurd h (Nat.not_lt_zero i)
  | v :: l, ⟨h1, h2⟩, 0, _ => by
    rw [List.length_cons, Nat.add_sub_cancel, Nat.sub_zero]
    exact h1
  | v :: l, ⟨h1, h2⟩, i + 1, h => by
    rw [List.length_cons] at h
    have := cS_at h2 i (by omega)
    rw [List.length_cons, show l.length + 1 - 1 - (i + 1) = l.length - 1 - i by omega]
    exact this
theorem rW_y {M N V : Nat → Nat → Nat} {P : Nat → Nat → Nat → Nat} {R : Nat → Nat → Nat → Nat → Nat} {E Y T S : Nat → Nat → Nat} (W : rW M V P R E Y T S) (h : ∀ f j, f < 28 ∨ 29 < f → N f j = M f j) : ∃ Y3, rW N V P R E Y3 T S := by
  refine ⟨fun f i => if f = 0 then N 28 0 else N 29 (N 28 0 - 1 - i), rW_out W (fun f i h1 h2 => h f i (by omega)) (h 1 0 (by decide)) rfl ⟨(h 16 0 (by decide)).trans W.1.2.1, fun i hi => (h 17 i (by decide)).trans (W.1.2.2 i hi)⟩ ?_ ⟨rfl, fun i hi => ?_⟩ ?_ ?_⟩
  · rw [h 22 0 (by decide), h 23 0 (by decide), h 24 0 (by decide), h 25 0 (by decide)]
    exact ⟨W.2.2.1.1, fun z => ⟨(W.2.2.1.2 z).1, (W.2.2.1.2 z).2.1, (W.2.2.1.2 z).2.2.1, fun i hi => by rw [h 26 i (by decide), h 27 i (by decide)]; exact (W.2.2.1.2 z).2.2.2 i hi⟩⟩
  · change i < N 28 0 at hi
    show N 29 i = N 29 (N 28 0 - 1 - (N 28 0 - 1 - i))
    rw [show N 28 0 - 1 - (N 28 0 - 1 - i) = i by omega]
  · rw [h 31 0 (by decide), h 32 0 (by decide), h 33 0 (by decide)]
    exact W.2.2.2.2.1
  · exact ⟨(h 34 0 (by decide)).trans W.2.2.2.2.2.1, fun i hi => (h 35 i (by decide)).trans (W.2.2.2.2.2.2 i hi)⟩
theorem rW_yY {M V : Nat → Nat → Nat} {P : Nat → Nat → Nat → Nat} {R : Nat → Nat → Nat → Nat → Nat} {E Y T S Y2 : Nat → Nat → Nat} (W : rW M V P R E Y T S) (h1 : M 28 0 = Y2 0 0) (h2 : ∀ i, i < Y2 0 0 → M 29 i = Y2 1 (Y2 0 0 - 1 - i)) : rW M V P R E Y2 T S := ⟨W.1, W.2.1, W.2.2.1, ⟨h1, h2⟩, W.2.2.2.2⟩
/-- rows that are the same where there are knots -/
theorem rW_same {M V : Nat → Nat → Nat} {P : Nat → Nat → Nat → Nat} {R : Nat → Nat → Nat → Nat → Nat} {E Y T S : Nat → Nat → Nat} {p : Nat} {Ra Rb : Nat → Nat → Nat → Nat} (W : rW M V P (uP R p Ra) E Y T S) (K : kP (P p) Ra) (h : ∀ r, r < P p 5 0 → ∀ f k, k < 24 → Rb r f k = Ra r f k) : rW M V P (uP R p Rb) E Y T S := by
  refine ⟨W.1, fun p2 hp2 => ?_, W.2.2⟩
  by_cases e : p2 = p
  · subst e
    have Z := W.2.1 p2 hp2
    rw [uP_eq] at Z ⊢
    obtain ⟨⟨z1, z2, z3, z4, z5, z6, z7⟩, z8⟩ := Z
    refine ⟨⟨z1, z2, z3, z4, z5, fun k hk => ?_, fun r hr => ?_⟩, z8⟩
    · rw [h 0 K.1 0 0 (by decide)] at hk
      exact z6 k hk
    · obtain ⟨y1, y2, y3, y4⟩ := z7 r hr
      have h24 := (K.2.2.1 r hr).1
      have e0 := h r hr 0 0 (by decide)
      rw [e0]
      refine ⟨⟨e0.trans y1.1, fun k hk => ?_⟩, y2, y3, y4⟩
      rw [e0] at hk
      have hk24 : k < 24 := by omega
      rw [h r hr 1 k hk24, h r hr 2 k hk24, h r hr 3 k hk24, h r hr 4 k hk24, h r hr 5 k hk24, h r hr 6 k hk24]
      exact y1.2 k hk
  · have Z := W.2.1 p2 hp2
    rw [uP_ne e] at Z ⊢
    exact Z
theorem md_6 {P : Nat → Nat → Nat} {R0 R : Nat → Nat → Nat → Nat} {T : Nat → Bool} (H : mdH P R0 T) (M : mdR (P 5 0) R0 R T) (hz : ∀ a b, gb (P 5 0) R T a b = false) {r k : Nat} (hk : k < 24) (ht : T (24 * r + k) = true) : R r 6 k = 0 := by
  have K := kP_md H.1 M
  have hin := (md_T H M ht).1
  have h0 := pcx_0 (n := P 5 0) M.2.1 K.2.2.2.1 hin (fun v hv => by
    have := hz (24 * r + k) v
    rw [gb_T.mpr ⟨ht, hv⟩] at this
    cases this)
  unfold pcx at h0
  have hr := hin.1
  rw [show (24 * r + k) / 24 = r by omega] at h0 hr
  rw [show (24 * r + k) % 24 = k by omega] at h0
  have ho := (M.2.1 r hr).2 k hk
  refine Nat.eq_of_testBit_eq fun c => ?_
  rw [Nat.zero_testBit]
  by_cases hc : c < 24
  · exact fb_ct_zero.mp h0 c hc
  · exact bit_hi ho.2.2.2.2.2 (by omega)
theorem md_same {P : Nat → Nat → Nat} {R0 Ra Rb : Nat → Nat → Nat → Nat} {T : Nat → Bool} (H : mdH P R0 T) (Ma : mdR (P 5 0) R0 Ra T) (ha : ∀ a b, gb (P 5 0) Ra T a b = false) (Mb : mdR (P 5 0) R0 Rb T) (hb : ∀ a b, gb (P 5 0) Rb T a b = false) (r f k : Nat) (hk : k < 24) : Rb r f k = Ra r f k := by
  by_cases e : f = 6
  · subst e
    rcases z : T (24 * r + k) with _ | _
    · rw [Ma.2.2.1 r k z hk, Mb.2.2.1 r k z hk]
    · rw [md_6 H Ma ha hk z, md_6 H Mb hb hk z]
  · rw [Ma.1 r f k e, Mb.1 r f k e]
/-- what the class's walk says: the way -/
theorem wk_way {P : Nat → Nat → Nat} {R Rm : Nat → Nat → Nat → Nat} {T : Nat → Bool} {Wm : Nat → Nat → Nat} {x0 s : Nat} (K : kP P R) (hs : gIn (P 5 0) R s) (hT : hTr P R s T) (hx0 : T x0 = true) (Q : wkQ (P 5 0) R T (gb (P 5 0) R T) x0 (lsT R T) Rm Wm) : mdH P R T ∧ mdR (P 5 0) R Rm T ∧ (∀ a b, gb (P 5 0) Rm T a b = false) ∧ ∃ l : List Nat, mdI P R R T (x0 :: l) ∧ Wm 0 0 = l.length + 1 ∧ cS (Wm 1) (x0 :: l) ∧ lsT R T = l.length ∧ l.length ≤ 1140 := by
  obtain ⟨q1, q2, l, q3, q4, q5, q6, q7, q8, q9⟩ := Q
  have hin : ∀ x, T x = true → gIn (P 5 0) R x := fun x hx => hTr_in K.2.2.2.1 hs hT hx
  have hcl := hTr_cl hT
  have hre := hre_of K hs hT hx0
  have hall : ∀ y, T y = true → y ∈ x0 :: l := fun y hy => (hre y hy (fun u => T u = true ∧ u ∈ x0 :: l) ⟨hx0, by simp⟩ (fun u w hu e => by
    have hTw : T w = true := hcl u w hu.1 e
    rcases (q5 u w).mp (gb_T.mpr ⟨hu.1, e⟩) with z | z
    · rw [q6 u hu.2 w] at z; cases z
    · exact ⟨hTw, (cE_mem z).2⟩)).2
  have hz : ∀ a b, gb (P 5 0) Rm T a b = false := fun a b => by
    rcases z : gb (P 5 0) Rm T a b with _ | _
    · rfl
    · rw [q6 a (hall a (gb_T.mp z).1) b] at z
      cases z
  refine ⟨⟨K, hin⟩, q2, hz, l, ⟨⟨fun _ _ _ _ => rfl, K.2.2.1, fun _ _ _ _ => rfl, hcl⟩, q3, q4, fun a b => ?_, by rw [List.length_cons, q9]⟩, q7, q8, q9.symm, by rw [q9]; exact ls_1140 K hin⟩
  rw [q5 a b, hz a b]
  exact ⟨fun z => z.elim (fun y => by cases y) id, Or.inr⟩
/-- where the model begins -/
theorem hBg_c {P : Nat → Nat → Nat} {R : Nat → Nat → Nat → Nat} {T : Nat → Bool} {x : Nat} (B : hBg P R T x) : (hod P R T 480 = 0 ∨ gsx P R x % 2 = 1) ∧ ∀ d, d < x → T d = true → ¬ hod P R T 480 = 0 ∧ ¬ gsx P R d % 2 = 1 := by
  obtain ⟨b1, b2, b3 | b3⟩ := B
  · refine ⟨Or.inr b3.1, fun d hd ht => ⟨fun z => ?_, b3.2 d hd ht⟩⟩
    have := fb_sm_zero z x b1
    rw [nb_T b2, b3.1] at this
    cases this
  · refine ⟨Or.inl ?_, fun d hd ht => ?_⟩
    · have : hod P R T 480 = fb_sm (fun _ => 0) 480 := fb_sm_cong (fun k hk => by
        rcases z : T k with _ | _
        · exact Nat.zero_mul _
        · have := b3.1 k hk z
          rw [show gsx P R k % 2 = 0 by omega, Nat.mul_zero])
      rw [this, fb_sm_z]
    · rw [b3.2 d hd] at ht
      cases ht
theorem md_mendP {h : nPH} {b : Nat} {M V : Nat → Nat → Nat} {P : Nat → Nat → Nat → Nat} {R : Nat → Nat → Nat → Nat → Nat} {E Y T S : Nat → Nat → Nat} (H : o8 h b M) (W : rW M V P R E Y T S) (O : kO V P R) {p : Int32} (hp : ¬ nIn p (V 1 0)) {r k : Int32} : nRd YX8_mend [.ref (b), .int (p), .int (r), .int (k)] h (.int (-1)) := by
  refine nSp_of (by decide +kernel) rfl (Nat.le_of_ble_eq_true rfl) (ls := [some (.ref (b)), some (.int (p)), some (.int (r)), some (.int (k)), none, none, none, none]) (by exact (And.intro rfl (And.intro rfl (And.intro rfl (And.intro rfl True.intro))))) ?_
  refine x_aload_n rfl d_X8_mend_0 ?_
  refine x_iload_n rfl d_X8_mend_1 ?_
  refine x_iload_n rfl d_X8_mend_2 ?_
  refine x_iload_n rfl d_X8_mend_3 ?_
  refine x_rdV d_X8_mend_4 lk_8_118 mo_X8_isKnot vi_X8_isKnot (sp_isKnotP H (rW_n W O) (rW_x W hp)) (o8_o H) ⟨_, rfl, rfl⟩ rfl ⟨Nat.le_of_ble_eq_true rfl, Nat.le_of_ble_eq_true rfl⟩ rfl rfl (Nat.zero_le _) (Nat.zero_le _) (Nat.le_of_ble_eq_true rfl) rfl ?_
  refine x_if_neN (tgt := 12) d_X8_mend_7 (by decide) (by omega) (fun c_1 => by exfalso; omega) (fun c_1 => ?_)
  refine x_iconst (v := -1) (by decide) d_X8_mend_10 ?_
  exact x_ireturn d_X8_mend_11 rfl rfl rfl rfl (Nat.zero_le _) (Nat.zero_le _) (⟨rfl, rfl⟩)
theorem md_mendO {h : nPH} {b : Nat} {M V : Nat → Nat → Nat} {P : Nat → Nat → Nat → Nat} {R : Nat → Nat → Nat → Nat → Nat} {E Y T S : Nat → Nat → Nat} (H : o8 h b M) (W : rW M V P R E Y T S) (O : kO V P R) {p : Nat} (hp : p < V 1 0) {r k : Int32} (hO : rOff (P p 5 0) (R p) r k) : nRd YX8_mend [.ref (b), .int (nI (p)), .int (r), .int (k)] h (.int (-1)) := by
  obtain ⟨p1, p2, p3, p4, p5, p6, p7, p8⟩ := rW_p W O hp
  refine nSp_of (by decide +kernel) rfl (Nat.le_of_ble_eq_true rfl) (ls := [some (.ref (b)), some (.int (nI (p))), some (.int (r)), some (.int (k)), none, none, none, none]) (by exact (And.intro rfl (And.intro rfl (And.intro rfl (And.intro rfl True.intro))))) ?_
  refine x_aload_n rfl d_X8_mend_0 ?_
  refine x_iload_n rfl d_X8_mend_1 ?_
  refine x_iload_n rfl d_X8_mend_2 ?_
  refine x_iload_n rfl d_X8_mend_3 ?_
  refine x_rdV d_X8_mend_4 lk_8_118 mo_X8_isKnot vi_X8_isKnot (sp_isKnotO H W O hp hO) (o8_o H) ⟨_, rfl, rfl⟩ rfl ⟨Nat.le_of_ble_eq_true rfl, Nat.le_of_ble_eq_true rfl⟩ rfl rfl (Nat.zero_le _) (Nat.zero_le _) (Nat.le_of_ble_eq_true rfl) rfl ?_
  refine x_if_neN (tgt := 12) d_X8_mend_7 (by decide) (by omega) (fun c_1 => by exfalso; omega) (fun c_1 => ?_)
  refine x_iconst (v := -1) (by decide) d_X8_mend_10 ?_
  exact x_ireturn d_X8_mend_11 rfl rfl rfl rfl (Nat.zero_le _) (Nat.zero_le _) (⟨rfl, rfl⟩)
theorem md_mendT {h : nPH} {b : Nat} {M V : Nat → Nat → Nat} {P : Nat → Nat → Nat → Nat} {R : Nat → Nat → Nat → Nat → Nat} {E Y T S : Nat → Nat → Nat} (H : o8 h b M) (W : rW M V P R E Y T S) (O : kO V P R) {p : Nat} (hp : p < V 1 0) {r : Nat} (hr : r < P p 5 0) {k : Nat} (hk : k < R p r 0 0) {T0 : Nat → Bool} (hT : hTr (P p) (R p) (24 * r + k) T0) (h1 : ¬ twn (fb_ct T0 480) (hod (P p) (R p) T0 480) = 1) : nWv YX8_mend [.ref b, .int (nI p), .int (nI r), .int (nI k)] h (some (.int (nI (twn (fb_ct T0 480) (hod (P p) (R p) T0 480))))) (fun h2 => nFr (nIv b 24) h h2 ∧ ∃ M2, o8 h2 b M2 ∧ rW M2 V P R E Y T S) := by
  obtain ⟨p1, p2, p3, p4, p5, p6, p7, p8⟩ := rW_p W O hp
  obtain ⟨r1, r2, r3, r4, r5, r6⟩ := rW_r W O hp hr
  obtain ⟨k1, k2, k3, k4, k5, k6, k7, k8, k9⟩ := rW_k W O hp hr hk
  have hin : gIn (P p 5 0) (R p) (24 * r + k) := by unfold gIn; rw [show (24 * r + k) / 24 = r by omega, show (24 * r + k) % 24 = k by omega]; exact ⟨hr, hk⟩
  have hTin : ∀ x, T0 x = true → gIn (P p 5 0) (R p) x := fun x hx => hTr_in p7.2.2.2.1 hin hT hx
  have hev := hod_ev (P := P p) (by omega) p7.2.2.1 p7.2.2.2.1 hTin (hTr_cl hT)
  have hcl4 := fb_ct_le T0 480
  have hol := hod_le2 (P p) (R p) T0 480
  have hle : twn (fb_ct T0 480) (hod (P p) (R p) T0 480) ≤ 480 := by unfold twn; split; omega; split <;> omega
  have h2 : ¬ fb_ct T0 480 = 0 → ¬ twn (fb_ct T0 480) (hod (P p) (R p) T0 480) ≤ 1 := fun z y => by
    apply h1
    unfold twn at y ⊢
    rw [if_neg z] at y ⊢
    split
    · rfl
    · rename_i q
      rw [if_neg q] at y
      omega
  refine nSp_of (by decide +kernel) rfl (Nat.le_of_ble_eq_true rfl) (ls := [some (.ref (b)), some (.int (nI (p))), some (.int (nI (r))), some (.int (nI (k))), none, none, none, none]) (by exact (And.intro rfl (And.intro rfl (And.intro rfl (And.intro rfl True.intro))))) ?_
  refine x_aload_n rfl d_X8_mend_0 ?_
  refine x_iload_n rfl d_X8_mend_1 ?_
  refine x_iload_n rfl d_X8_mend_2 ?_
  refine x_iload_n rfl d_X8_mend_3 ?_
  refine x_rdV d_X8_mend_4 lk_8_118 mo_X8_isKnot vi_X8_isKnot (sp_isKnot H p2 p1 r1 p5 k1 (by omega)) (o8_o H) ⟨_, rfl, rfl⟩ rfl ⟨Nat.le_of_ble_eq_true rfl, Nat.le_of_ble_eq_true rfl⟩ rfl rfl (Nat.zero_le _) (Nat.zero_le _) (Nat.le_of_ble_eq_true rfl) rfl ?_
  refine x_if_neN (tgt := 12) d_X8_mend_7 (by decide) (by omega) (fun c_1 => ?_) (fun c_1 => by exfalso; omega)
  refine x_aload_n rfl d_X8_mend_12 ?_
  refine x_iload_n rfl d_X8_mend_13 ?_
  refine x_iload_n rfl d_X8_mend_14 ?_
  refine x_iload_n rfl d_X8_mend_15 ?_
  refine x_wvV d_X8_mend_16 lk_8_158 mo_X8_spreads vi_X8_spreads (sp_mspr H W O hp hr hk hT) (o8_o H) ⟨_, rfl, rfl⟩ rfl ⟨Nat.le_of_ble_eq_true rfl, Nat.le_of_ble_eq_true rfl⟩ (Nat.zero_le _) (Nat.zero_le _) (Nat.le_of_ble_eq_true rfl) rfl (fun h3 hq_ e3a e3b => ?_)
  obtain ⟨F3, M3, H3, I3⟩ := hq_
  have W3 := rW_sp W I3.1
  refine x_aload_n rfl d_X8_mend_19 ?_
  refine x_getf co_all (v := .int (nI (M3 20 0))) d_X8_mend_20 fk_8_152 (o8_o H3) rfl ?_
  rw [I3.2.2.1]
  refine x_if_neN (tgt := 28) d_X8_mend_23 (by decide) (by omega) (fun c_0 => ?_) (fun c_0 => ?_)
  · refine x_aload_n rfl d_X8_mend_28 ?_
    refine x_iload_n rfl d_X8_mend_29 ?_
    refine x_rdV d_X8_mend_30 lk_8_172 mo_X8_oddOnes vi_X8_oddOnes (sp_modd H3 W3 O hp hTin I3.2.1) (o8_o H3) ⟨_, rfl, rfl⟩ rfl ⟨Nat.le_of_ble_eq_true rfl, Nat.le_of_ble_eq_true rfl⟩ rfl rfl (Nat.zero_le _) (Nat.zero_le _) (Nat.le_of_ble_eq_true rfl) rfl ?_
    refine x_istore d_X8_mend_33 (Nat.le_of_ble_eq_true rfl) ?_
    refine x_aload_n rfl d_X8_mend_35 ?_
    refine x_getf co_all (v := .int (nI (M3 20 0))) d_X8_mend_36 fk_8_152 (o8_o H3) rfl ?_
    rw [I3.2.2.1]
    refine x_iload rfl d_X8_mend_39 ?_
    refine x_rdS d_X8_mend_41 lk_8_178 mo_X8_twines sc_X8_twines (sp_mtwn (by omega) (by omega)) rfl ⟨Nat.le_of_ble_eq_true rfl, Nat.le_of_ble_eq_true rfl⟩ rfl rfl (Nat.zero_le _) (Nat.zero_le _) (Nat.le_of_ble_eq_true rfl) rfl ?_
    refine x_istore d_X8_mend_44 (Nat.le_of_ble_eq_true rfl) ?_
    refine x_iload rfl d_X8_mend_46 ?_
    refine x_iconst (v := nI 1) (by decide) d_X8_mend_48 ?_
    refine x_icmp_leN (tgt := 55) d_X8_mend_49 (by decide) (by omega) (by omega) (fun c_t => by exfalso; exact h2 c_0 c_t) (fun c_t => ?_)
    refine x_iload rfl d_X8_mend_52 ?_
    exact x_ireturn d_X8_mend_54 rfl rfl (F3).1 (F3).2.1 (Nat.zero_le _) (Nat.zero_le _) (⟨rfl, F3, M3, H3, W3⟩)
  · refine x_iconst (v := nI 0) (by decide) d_X8_mend_26 ?_
    exact x_ireturn d_X8_mend_27 rfl rfl (F3).1 (F3).2.1 (Nat.zero_le _) (Nat.zero_le _) (⟨by rw [show twn (fb_ct T0 480) (hod (P p) (R p) T0 480) = 0 from if_pos c_0], F3, M3, H3, W3⟩)
theorem lp_mn {h h0 : nPH} {Post : Option Value → nPH → Prop} {b r k od n : Nat} {M V : Nat → Nat → Nat} {P : Nat → Nat → Nat → Nat} {R : Nat → Nat → Nat → Nat → Nat} {E Y T S : Nat → Nat → Nat} (F : nFr (nIv b 24) h0 h) (H : o8 h b M) (W : rW M V P R E Y T S) (O : kO V P R) {p : Nat} (hp : p < V 1 0) {T0 : Nat → Bool} (hTin : ∀ x, T0 x = true → gIn (P p 5 0) (R p) x) (e18 : ∀ x, x < 480 → M 18 x = nb (T0 x)) (hnd : ¬ ∃ x, x < 480 ∧ T0 x = true ∧ R p (x / 24) 3 (x % 24) = 1) (kk : nG YX8_mend (nKy YX8_mend h0.1 h0.2.1 Post) 0 0 107 [some (.ref (b)), some (.int (nI (p))), some (.int (nI (r))), some (.int (nI (k))), some (.int (nI (od))), some (.int (nI (n))), none, none] [] h) : ∀ d i : Nat, i + d = 480 → nG YX8_mend (nKy YX8_mend h0.1 h0.2.1 Post) 0 0 58 [some (.ref (b)), some (.int (nI (p))), some (.int (nI (r))), some (.int (nI (k))), some (.int (nI (od))), some (.int (nI (n))), some (.int (nI (i))), none] [] h := by
  intro d
  induction d with
  | zero =>
    intro i hi
    refine x_iload rfl d_X8_mend_58 ?_
    refine x_sipush (v := nI 480) (by decide) d_X8_mend_60 ?_
    refine x_icmp_geN (tgt := 107) d_X8_mend_63 (by decide) (by omega) (by omega) (fun c_1 => ?_) (fun c_1 => by exfalso; omega)
    exact nG.sub (by exact (And.intro rfl (And.intro rfl (And.intro rfl (And.intro rfl (And.intro rfl (And.intro rfl True.intro))))))) kk
  | succ d ih =>
    intro i hi
    obtain ⟨p1, p2, p3, p4, p5, p6, p7, p8⟩ := rW_p W O hp
    have x18 := e18 i (by omega)
    have xnb := nb_le (T0 i)
    refine x_iload rfl d_X8_mend_58 ?_
    refine x_sipush (v := nI 480) (by decide) d_X8_mend_60 ?_
    refine x_icmp_geN (tgt := 107) d_X8_mend_63 (by decide) (by omega) (by omega) (fun c_1 => by exfalso; omega) (fun c_1 => ?_)
    refine x_aload_n rfl d_X8_mend_66 ?_
    refine x_getf co_all (v := .ref (b + 16)) d_X8_mend_67 fk_8_60 (o8_o H) rfl ?_
    refine x_iload rfl d_X8_mend_70 ?_
    refine x_baload d_X8_mend_72 (o8_18 H) (nIx_nI (j := i) (by omega) (by decide)) ?_
    refine x_if_eqN (tgt := 101) d_X8_mend_73 (by decide) (by omega) (fun c_in => ?_) (fun c_in => ?_)
    · refine x_iincN (m := 1) d_X8_mend_101 rfl (by decide) (Nat.le_of_ble_eq_true rfl) ?_
      refine x_goto (tgt := 58) d_X8_mend_104 (by decide) ?_
      refine nG.eq (ls2 := [some (.ref (b)), some (.int (nI (p))), some (.int (nI (r))), some (.int (nI (k))), some (.int (nI (od))), some (.int (nI (n))), some (.int (nI (i + 1))), none]) rfl rfl rfl rfl rfl ?_
      exact ih (i + 1) (by omega)
    · have hTi : T0 i = true := nb_n0.mp (by rw [← x18]; exact c_in)
      obtain ⟨hi1, hi2⟩ := hTin i hTi
      obtain ⟨k1, k2, k3, k4, k5, k6, k7, k8, k9⟩ := rW_k W O hp hi1 hi2
      have kn := ((p7.2.2.1 (i / 24) hi1).2 (i % 24) (by omega)).2.2.1
      refine x_aload_n rfl d_X8_mend_76 ?_
      refine x_getf co_all (v := .ref (b + 14)) d_X8_mend_77 fk_8_54 (o8_o H) rfl ?_
      refine x_iload_n rfl d_X8_mend_80 ?_
      refine x_iload rfl d_X8_mend_81 ?_
      refine x_bipush (v := nI 24) (by decide) d_X8_mend_83 ?_
      refine x_idivN d_X8_mend_85 (by omega) (by omega) (by omega) ?_
      refine x_iload rfl d_X8_mend_86 ?_
      refine x_bipush (v := nI 24) (by decide) d_X8_mend_88 ?_
      refine x_iremN d_X8_mend_90 (by omega) (by omega) (by omega) ?_
      refine x_rdS d_X8_mend_91 lk_8_99 mo_X8_at sc_X8_at (sp_at) rfl ⟨Nat.le_of_ble_eq_true rfl, Nat.le_of_ble_eq_true rfl⟩ rfl rfl (Nat.zero_le _) (Nat.zero_le _) (Nat.le_of_ble_eq_true rfl) rfl ?_
      refine x_baload d_X8_mend_94 (o8_15 H) (nIx_nI (j := 24 * (20 * p + (i / 24)) + (i % 24)) (by omega) (by decide)) ?_
      rw [← k5]
      refine x_if_eqN (tgt := 101) d_X8_mend_95 (by decide) (by omega) (fun c_3 => ?_) (fun c_3 => by exfalso; exact hnd ⟨i, by omega, hTi, by omega⟩)
      refine x_iincN (m := 1) d_X8_mend_101 rfl (by decide) (Nat.le_of_ble_eq_true rfl) ?_
      refine x_goto (tgt := 58) d_X8_mend_104 (by decide) ?_
      refine nG.eq (ls2 := [some (.ref (b)), some (.int (nI (p))), some (.int (nI (r))), some (.int (nI (k))), some (.int (nI (od))), some (.int (nI (n))), some (.int (nI (i + 1))), none]) rfl rfl rfl rfl rfl ?_
      exact ih (i + 1) (by omega)
theorem lp_mnY {h h0 : nPH} {Post : Option Value → nPH → Prop} {b r k od n : Nat} {M V : Nat → Nat → Nat} {P : Nat → Nat → Nat → Nat} {R : Nat → Nat → Nat → Nat → Nat} {E Y T S : Nat → Nat → Nat} (F : nFr (nIv b 24) h0 h) (H : o8 h b M) (W : rW M V P R E Y T S) (O : kO V P R) {p : Nat} (hp : p < V 1 0) {T0 : Nat → Bool} (hTin : ∀ x, T0 x = true → gIn (P p 5 0) (R p) x) (e18 : ∀ x, x < 480 → M 18 x = nb (T0 x)) (hP : Post (some (.int (-2))) h) : ∀ d i : Nat, i + d = 480 → (∃ x, i ≤ x ∧ x < 480 ∧ T0 x = true ∧ R p (x / 24) 3 (x % 24) = 1) → nG YX8_mend (nKy YX8_mend h0.1 h0.2.1 Post) 0 0 58 [some (.ref (b)), some (.int (nI (p))), some (.int (nI (r))), some (.int (nI (k))), some (.int (nI (od))), some (.int (nI (n))), some (.int (nI (i))), none] [] h := by
  intro d
  induction d with
  | zero =>
    rintro i hi ⟨x, x1, x2, -⟩
    omega
  | succ d ih =>
    intro i hi hx
    obtain ⟨p1, p2, p3, p4, p5, p6, p7, p8⟩ := rW_p W O hp
    have x18 := e18 i (by omega)
    have xnb := nb_le (T0 i)
    refine x_iload rfl d_X8_mend_58 ?_
    refine x_sipush (v := nI 480) (by decide) d_X8_mend_60 ?_
    refine x_icmp_geN (tgt := 107) d_X8_mend_63 (by decide) (by omega) (by omega) (fun c_1 => by exfalso; omega) (fun c_1 => ?_)
    refine x_aload_n rfl d_X8_mend_66 ?_
    refine x_getf co_all (v := .ref (b + 16)) d_X8_mend_67 fk_8_60 (o8_o H) rfl ?_
    refine x_iload rfl d_X8_mend_70 ?_
    refine x_baload d_X8_mend_72 (o8_18 H) (nIx_nI (j := i) (by omega) (by decide)) ?_
    refine x_if_eqN (tgt := 101) d_X8_mend_73 (by decide) (by omega) (fun c_in => ?_) (fun c_in => ?_)
    · refine x_iincN (m := 1) d_X8_mend_101 rfl (by decide) (Nat.le_of_ble_eq_true rfl) ?_
      refine x_goto (tgt := 58) d_X8_mend_104 (by decide) ?_
      refine nG.eq (ls2 := [some (.ref (b)), some (.int (nI (p))), some (.int (nI (r))), some (.int (nI (k))), some (.int (nI (od))), some (.int (nI (n))), some (.int (nI (i + 1))), none]) rfl rfl rfl rfl rfl ?_
      refine ih (i + 1) (by omega) ?_
      obtain ⟨x, y1, y2, y3, y4⟩ := hx
      refine ⟨x, ?_, y2, y3, y4⟩
      rcases Nat.lt_or_eq_of_le y1 with z | z
      · exact z
      · subst z
        first | (rw [nb_T y3] at x18; omega) | omega
    · have hTi : T0 i = true := nb_n0.mp (by rw [← x18]; exact c_in)
      obtain ⟨hi1, hi2⟩ := hTin i hTi
      obtain ⟨k1, k2, k3, k4, k5, k6, k7, k8, k9⟩ := rW_k W O hp hi1 hi2
      have kn := ((p7.2.2.1 (i / 24) hi1).2 (i % 24) (by omega)).2.2.1
      refine x_aload_n rfl d_X8_mend_76 ?_
      refine x_getf co_all (v := .ref (b + 14)) d_X8_mend_77 fk_8_54 (o8_o H) rfl ?_
      refine x_iload_n rfl d_X8_mend_80 ?_
      refine x_iload rfl d_X8_mend_81 ?_
      refine x_bipush (v := nI 24) (by decide) d_X8_mend_83 ?_
      refine x_idivN d_X8_mend_85 (by omega) (by omega) (by omega) ?_
      refine x_iload rfl d_X8_mend_86 ?_
      refine x_bipush (v := nI 24) (by decide) d_X8_mend_88 ?_
      refine x_iremN d_X8_mend_90 (by omega) (by omega) (by omega) ?_
      refine x_rdS d_X8_mend_91 lk_8_99 mo_X8_at sc_X8_at (sp_at) rfl ⟨Nat.le_of_ble_eq_true rfl, Nat.le_of_ble_eq_true rfl⟩ rfl rfl (Nat.zero_le _) (Nat.zero_le _) (Nat.le_of_ble_eq_true rfl) rfl ?_
      refine x_baload d_X8_mend_94 (o8_15 H) (nIx_nI (j := 24 * (20 * p + (i / 24)) + (i % 24)) (by omega) (by decide)) ?_
      rw [← k5]
      refine x_if_eqN (tgt := 101) d_X8_mend_95 (by decide) (by omega) (fun c_3 => ?_) (fun c_3 => ?_)
      · refine x_iincN (m := 1) d_X8_mend_101 rfl (by decide) (Nat.le_of_ble_eq_true rfl) ?_
        refine x_goto (tgt := 58) d_X8_mend_104 (by decide) ?_
        refine nG.eq (ls2 := [some (.ref (b)), some (.int (nI (p))), some (.int (nI (r))), some (.int (nI (k))), some (.int (nI (od))), some (.int (nI (n))), some (.int (nI (i + 1))), none]) rfl rfl rfl rfl rfl ?_
        refine ih (i + 1) (by omega) ?_
        obtain ⟨x, y1, y2, y3, y4⟩ := hx
        refine ⟨x, ?_, y2, y3, y4⟩
        rcases Nat.lt_or_eq_of_le y1 with z | z
        · exact z
        · subst z
          first | (rw [nb_T y3] at x18; omega) | omega
      · refine x_bipush (v := -2) (by decide) d_X8_mend_98 ?_
        exact x_ireturn d_X8_mend_100 rfl rfl F.1 F.2.1 (Nat.zero_le _) (Nat.zero_le _) (hP)
theorem lp_mh {h h0 : nPH} {Post : Option Value → nPH → Prop} {b r k od n : Nat} {M V : Nat → Nat → Nat} {P : Nat → Nat → Nat → Nat} {R : Nat → Nat → Nat → Nat → Nat} {E Y T S : Nat → Nat → Nat} (F : nFr (nIv b 24) h0 h) (H : o8 h b M) (W : rW M V P R E Y T S) (O : kO V P R) {p : Nat} (hp : p < V 1 0) {T0 : Nat → Bool} (hTin : ∀ x, T0 x = true → gIn (P p 5 0) (R p) x) (e18 : ∀ x, x < 480 → M 18 x = nb (T0 x)) {x0 : Nat} (hod4 : od < 2000) (hx0 : x0 < 480) (hc0 : T0 x0 = true) (hc1 : od = 0 ∨ gsx (P p) (R p) x0 % 2 = 1) (hc2 : ∀ d, d < x0 → T0 d = true → ¬ od = 0 ∧ ¬ gsx (P p) (R p) d % 2 = 1) (kk : nG YX8_mend (nKy YX8_mend h0.1 h0.2.1 Post) 0 0 166 [some (.ref (b)), some (.int (nI (p))), some (.int (nI (r))), some (.int (nI (k))), some (.int (nI (od))), some (.int (nI (n))), some (.int (nI (x0))), none] [] h) : ∀ j : Nat, j ≤ 480 → ∀ hv : Int32, (j ≤ x0 → hv = nI x0) → nG YX8_mend (nKy YX8_mend h0.1 h0.2.1 Post) 0 0 115 [some (.ref (b)), some (.int (nI (p))), some (.int (nI (r))), some (.int (nI (k))), some (.int (nI (od))), some (.int (nI (n))), some (.int (hv)), some (.int (nV j))] [] h := by
  intro j
  induction j with
  | zero =>
    intro hj hv hh
    rw [nV_0]
    refine x_iload rfl d_X8_mend_115 ?_
    refine x_if_lt (tgt := 166) d_X8_mend_117 (by decide) (fun c_l => ?_) (fun c_l => by exfalso; exact absurd (by decide) c_l)
    rw [hh (Nat.zero_le _)]
    exact nG.sub (by exact (And.intro rfl (And.intro rfl (And.intro rfl (And.intro rfl (And.intro rfl (And.intro rfl (And.intro rfl True.intro)))))))) kk
  | succ d ih =>
    intro hj hv hh
    rw [nV_s]
    obtain ⟨p1, p2, p3, p4, p5, p6, p7, p8⟩ := rW_p W O hp
    have x18 := e18 d (by omega)
    have xnb := nb_le (T0 d)
    refine x_iload rfl d_X8_mend_115 ?_
    refine x_if_ltN (tgt := 166) d_X8_mend_117 (by decide) (by omega) (fun c_1 => by exfalso; omega) (fun c_1 => ?_)
    refine x_aload_n rfl d_X8_mend_120 ?_
    refine x_getf co_all (v := .ref (b + 16)) d_X8_mend_121 fk_8_60 (o8_o H) rfl ?_
    refine x_iload rfl d_X8_mend_124 ?_
    refine x_baload d_X8_mend_126 (o8_18 H) (nIx_nI (j := d) (by omega) (by decide)) ?_
    refine x_if_eqN (tgt := 160) d_X8_mend_127 (by decide) (by omega) (fun c_in => ?_) (fun c_in => ?_)
    · skip
      refine x_iinc d_X8_mend_160 rfl (Nat.le_of_ble_eq_true rfl) ?_
      refine x_goto (tgt := 115) d_X8_mend_163 (by decide) ?_
      rw [nV_p]
      exact ih (by omega) _ (fun z => hh (by rcases Nat.lt_or_eq_of_le z with y | y; { exact y }; { exfalso; rw [← y] at hc0 hc1; first | (rw [nb_T hc0] at x18; omega) | omega }))
    · have hTi : T0 d = true := nb_n0.mp (by rw [← x18]; exact c_in)
      obtain ⟨hi1, hi2⟩ := hTin d hTi
      rw [← p4] at hi1
      have egs := rW_gs W O hp (show d / 24 < P p 5 0 by omega) hi2
      change mgs M p (d / 24) (d % 24) = gsx (P p) (R p) d at egs
      have hgl := gsd_le (P := P p) (R := R p) (j := d / 24) (i := d % 24) (fun h => (p7.2.2.1 (d / 24 + 1) h).1)
      change gsx (P p) (R p) d ≤ 48 at hgl
      refine x_iload rfl d_X8_mend_130 ?_
      refine x_if_eqN (tgt := 156) d_X8_mend_132 (by decide) (by omega) (fun c_o => ?_) (fun c_o => ?_)
      · refine x_iload rfl d_X8_mend_156 ?_
        refine x_istore d_X8_mend_158 (Nat.le_of_ble_eq_true rfl) ?_
        skip
        refine x_iinc d_X8_mend_160 rfl (Nat.le_of_ble_eq_true rfl) ?_
        refine x_goto (tgt := 115) d_X8_mend_163 (by decide) ?_
        rw [nV_p]
        exact ih (by omega) _ (fun z => by rcases Nat.lt_or_eq_of_le z with y | y; { exfalso; first | (have := hc2 d y hTi; omega) }; { rw [y] })
      · refine x_aload_n rfl d_X8_mend_135 ?_
        refine x_iload_n rfl d_X8_mend_136 ?_
        refine x_iload rfl d_X8_mend_137 ?_
        refine x_bipush (v := nI 24) (by decide) d_X8_mend_139 ?_
        refine x_idivN d_X8_mend_141 (by omega) (by omega) (by omega) ?_
        refine x_iload rfl d_X8_mend_142 ?_
        refine x_bipush (v := nI 24) (by decide) d_X8_mend_144 ?_
        refine x_iremN d_X8_mend_146 (by omega) (by omega) (by omega) ?_
        refine x_rdV d_X8_mend_147 lk_8_149 mo_X8_goneAt vi_X8_goneAt (sp_mgs H p3 (r := d / 24) hi1 (k := d % 24) (by omega) p8) (o8_o H) ⟨_, rfl, rfl⟩ rfl ⟨Nat.le_of_ble_eq_true rfl, Nat.le_of_ble_eq_true rfl⟩ rfl rfl (Nat.zero_le _) (Nat.zero_le _) (Nat.le_of_ble_eq_true rfl) rfl ?_
        rw [egs]
        refine x_iconst (v := nI 2) (by decide) d_X8_mend_150 ?_
        refine x_iremN d_X8_mend_151 (by omega) (by omega) (by omega) ?_
        refine x_iconst (v := nI 1) (by decide) d_X8_mend_152 ?_
        refine x_icmp_neN (tgt := 160) d_X8_mend_153 (by decide) (by omega) (by omega) (fun c_g => ?_) (fun c_g => ?_)
        · skip
          refine x_iinc d_X8_mend_160 rfl (Nat.le_of_ble_eq_true rfl) ?_
          refine x_goto (tgt := 115) d_X8_mend_163 (by decide) ?_
          rw [nV_p]
          exact ih (by omega) _ (fun z => hh (by rcases Nat.lt_or_eq_of_le z with y | y; { exact y }; { exfalso; rw [← y] at hc0 hc1; first | (rw [nb_T hc0] at x18; omega) | omega }))
        · refine x_iload rfl d_X8_mend_156 ?_
          refine x_istore d_X8_mend_158 (Nat.le_of_ble_eq_true rfl) ?_
          skip
          refine x_iinc d_X8_mend_160 rfl (Nat.le_of_ble_eq_true rfl) ?_
          refine x_goto (tgt := 115) d_X8_mend_163 (by decide) ?_
          rw [nV_p]
          exact ih (by omega) _ (fun z => by rcases Nat.lt_or_eq_of_le z with y | y; { exfalso; first | (have := hc2 d y hTi; omega) }; { rw [y] })
theorem lp_mw {h0 : nPH} {Post : Option Value → nPH → Prop} {b r k od n : Nat} {V : Nat → Nat → Nat} {P : Nat → Nat → Nat → Nat} {R : Nat → Nat → Nat → Nat → Nat} {E T S : Nat → Nat → Nat} (O : kO V P R) {p : Nat} (hp : p < V 1 0) {T0 : Nat → Bool} (HH : mdH (P p) (R p) T0) {L0 : List Nat} (hL0 : L0.length ≤ 1141) (hP : ∀ (h2 : nPH) (M2 : Nat → Nat → Nat) (Rc : Nat → Nat → Nat → Nat) (x : Nat) (Yc : Nat → Nat → Nat), nFr (nIv b 24) h0 h2 → o8 h2 b M2 → mdI (P p) (R p) Rc T0 [x] → rW M2 V P (uP R p Rc) E Yc T S → M2 28 0 = L0.length → (∀ i, i < L0.length → M2 29 i = nmK (L0.getD i 0)) → Post (some (.int (nI 1))) h2) : ∀ (l : List Nat) (x : Nat) (pre : List Nat) (Rc : Nat → Nat → Nat → Nat) (Yc M : Nat → Nat → Nat) (h : nPH) (left : Nat), left = l.length → mdI (P p) (R p) Rc T0 (x :: l) → L0 = pre ++ x :: l → nFr (nIv b 24) h0 h → o8 h b M → rW M V P (uP R p Rc) E Yc T S → M 28 0 = pre.length + 1 ∧ (∀ i, i ≤ pre.length → M 29 i = nmK (L0.getD i 0)) → nG YX8_mend (nKy YX8_mend h0.1 h0.2.1 Post) 0 0 197 [some (.ref (b)), some (.int (nI (p))), some (.int (nI (r))), some (.int (nI (k))), some (.int (nI (od))), some (.int (nI (n))), some (.int (nI (x))), some (.int (nI (left)))] [] h := by
  intro l
  induction l with
  | nil =>
    intro x pre Rc Yc M h left hl I hL F H W J
    rw [List.length_nil] at hl
    have e1 : L0.length = pre.length + 1 := by rw [hL]; simp
    refine x_iload rfl d_X8_mend_197 ?_
    refine x_if_leN (tgt := 252) d_X8_mend_199 (by decide) (by omega) (fun c_1 => ?_) (fun c_1 => by exfalso; omega)
    refine x_iconst (v := nI 1) (by decide) d_X8_mend_252 ?_
    exact x_ireturn d_X8_mend_253 rfl rfl F.1 F.2.1 (Nat.zero_le _) (Nat.zero_le _) (hP _ M Rc x Yc F H I W (J.1.trans e1.symm) (fun i hi => J.2 i (by omega)))
  | cons s l ih =>
    intro x pre Rc Yc M h left hl I hL F H W J
    rw [List.length_cons] at hl
    have e1 : L0.length = pre.length + 1 + (l.length + 1) := by rw [hL]; simp; omega
    obtain ⟨j, hj⟩ : ∃ j, x / 24 = j := ⟨_, rfl⟩
    obtain ⟨i, hi⟩ : ∃ i, x % 24 = i := ⟨_, rfl⟩
    have ex : x = 24 * j + i := by omega
    have hi24 : i < 24 := by omega
    subst ex
    have O2 : kO V P (uP R p Rc) := kO_row O (fun _ => kP_md HH.1 I.1)
    obtain ⟨t1, t2, t3, t4⟩ := mdI_T I
    have s480 := (md_T HH I.1 t2).2
    have eg : L0.getD (pre.length + 1) 0 = s := by rw [hL]; simp [List.getD_eq_getElem?_getD]
    refine x_iload rfl d_X8_mend_197 ?_
    refine x_if_leN (tgt := 252) d_X8_mend_199 (by decide) (by omega) (fun c_1 => by exfalso; omega) (fun c_1 => ?_)
    refine x_aload_n rfl d_X8_mend_202 ?_
    refine x_iload_n rfl d_X8_mend_203 ?_
    refine x_iload rfl d_X8_mend_204 ?_
    refine x_iload rfl d_X8_mend_206 ?_
    refine x_wvV d_X8_mend_208 lk_8_184 mo_X8_goesOn vi_X8_goesOn (sp_mgon H W O2 hp HH (by rw [uP_eq]; exact I) hi24 hl (by omega)) (o8_o H) ⟨_, rfl, rfl⟩ rfl ⟨Nat.le_of_ble_eq_true rfl, Nat.le_of_ble_eq_true rfl⟩ (Nat.zero_le _) (Nat.zero_le _) (Nat.le_of_ble_eq_true rfl) rfl (fun h4 hq_ e4a e4b => ?_)
    obtain ⟨G4, jj, ii, qq, M4, D, hjj, H4, W4⟩ := hq_
    have F4 := F.tr G4
    rw [uP_eq] at D
    rw [uuP, uP_eq] at W4
    have I4 := ti_yes HH I D hjj
    have e28 : M4 28 0 = pre.length + 1 := (W4.2.2.2.1.1.trans W.2.2.2.1.1.symm).trans J.1
    have e29 : ∀ i, i ≤ pre.length → M4 29 i = nmK (L0.getD i 0) := fun i hi => by
      have a1 := W4.2.2.2.1
      have a2 := W.2.2.2.1
      rw [a1.2 i (by omega), ← a2.2 i (by omega)]
      exact J.2 i hi
    refine x_istore d_X8_mend_211 (Nat.le_of_ble_eq_true rfl) ?_
    refine x_iincD (m := 1) d_X8_mend_213 rfl (by decide) (by omega) (Nat.le_of_ble_eq_true rfl) ?_
    refine x_aload_n rfl d_X8_mend_216 ?_
    refine x_getf co_all (v := .ref (b + 20)) d_X8_mend_217 fk_8_72 (o8_o H4) rfl ?_
    refine x_aload_n rfl d_X8_mend_220 ?_
    refine x_getf co_all (v := .int (nI (M4 28 0))) d_X8_mend_221 fk_8_181 (o8_o H4) rfl ?_
    rw [e28]
    refine x_bipush (v := nI 100) (by decide) d_X8_mend_224 ?_
    refine x_iload rfl d_X8_mend_226 ?_
    refine x_bipush (v := nI 24) (by decide) d_X8_mend_228 ?_
    refine x_idivN d_X8_mend_230 (by omega) (by omega) (by omega) ?_
    refine x_imulN d_X8_mend_231 ?_
    refine x_iload rfl d_X8_mend_232 ?_
    refine x_bipush (v := nI 24) (by decide) d_X8_mend_234 ?_
    refine x_iremN d_X8_mend_236 (by omega) (by omega) (by omega) ?_
    refine x_iaddN d_X8_mend_237 ?_
    refine x_iastore d_X8_mend_238 (o8_29 H4) (nIx_nI (j := pre.length + 1) (by omega) (by decide)) (Nat.le_trans (o8_B H4) (Nat.le_add_right _ _)) ?_
    have H2_8 := o8_ast29 (pre.length + 1) ((100 * (s / 24)) + (s % 24)) H4
    have f_3 := o8_f29 (pre.length + 1) ((100 * (s / 24)) + (s % 24)) H4 (F4) (by exact ⟨by omega, by omega⟩)
    refine x_aload_n rfl d_X8_mend_239 ?_
    refine x_dup rfl d_X8_mend_240 ?_
    refine x_getf co_all (v := .int (nI (M4 28 0))) d_X8_mend_241 fk_8_181 (o8_o H2_8) rfl ?_
    skip
    refine x_iconst (v := nI 1) (by decide) d_X8_mend_244 ?_
    refine x_iaddN d_X8_mend_245 ?_
    refine x_putf co_all d_X8_mend_246 fk_8_181 ft_8_28 (o8_o H2_8) (Nat.le_of_ble_eq_true rfl) rfl rfl (o8_B H2_8) ?_
    have H4_8 := o8_put28 ((M4 28 0) + 1) H2_8
    have f_5 := o8_g28 ((M4 28 0) + 1) H2_8 (f_3) (by exact ⟨by omega, by omega⟩)
    refine x_goto (tgt := 197) d_X8_mend_249 (by decide) ?_
    obtain ⟨Y5, W5⟩ := rW_y W4 (N := (u2 (u2 M4 29 (pre.length + 1) ((100 * (s / 24)) + (s % 24))) 28 (0) ((M4 28 0) + 1))) (fun f j hf => by rw [u2_ne (by omega), u2_ne (by omega)])
    refine nG.eq (ls2 := [some (.ref (b)), some (.int (nI (p))), some (.int (nI (r))), some (.int (nI (k))), some (.int (nI (od))), some (.int (nI (n))), some (.int (nI (s))), some (.int (nI (left - 1)))]) rfl rfl rfl rfl rfl ?_
    refine ih s (pre ++ [24 * j + i]) (tiR Rc jj ii qq) Y5 _ _ (left - 1) (by omega) I4 (by rw [hL, List.append_assoc]; rfl) f_5 H4_8 W5 ⟨?_, fun i2 hi2 => ?_⟩
    · rw [u2_eq, List.length_append]
      rw [e28]
      rfl
    · rw [List.length_append] at hi2
      change i2 ≤ pre.length + 1 at hi2
      rw [u2_ne (by omega)]
      by_cases e : i2 = pre.length + 1
      · rw [e, u2_eq, eg]
        rfl
      · rw [u2_ne (by omega)]
        exact e29 i2 (by omega)
theorem md_mendN {h : nPH} {b : Nat} {M V : Nat → Nat → Nat} {P : Nat → Nat → Nat → Nat} {R : Nat → Nat → Nat → Nat → Nat} {E Y T S : Nat → Nat → Nat} (H : o8 h b M) (W : rW M V P R E Y T S) (O : kO V P R) {p : Nat} (hp : p < V 1 0) {r : Nat} (hr : r < P p 5 0) {k : Nat} (hk : k < R p r 0 0) {T0 : Nat → Bool} (hT : hTr (P p) (R p) (24 * r + k) T0) (h1 : twn (fb_ct T0 480) (hod (P p) (R p) T0 480) = 1) (hnd : ∃ x, x < 480 ∧ T0 x = true ∧ R p (x / 24) 3 (x % 24) = 1) : nWv YX8_mend [.ref b, .int (nI p), .int (nI r), .int (nI k)] h (some (.int (-2))) (fun h2 => nFr (nIv b 24) h h2 ∧ ∃ M2, o8 h2 b M2 ∧ rW M2 V P R E Y T S) := by
  obtain ⟨p1, p2, p3, p4, p5, p6, p7, p8⟩ := rW_p W O hp
  obtain ⟨r1, r2, r3, r4, r5, r6⟩ := rW_r W O hp hr
  obtain ⟨k1, k2, k3, k4, k5, k6, k7, k8, k9⟩ := rW_k W O hp hr hk
  have hin : gIn (P p 5 0) (R p) (24 * r + k) := by unfold gIn; rw [show (24 * r + k) / 24 = r by omega, show (24 * r + k) % 24 = k by omega]; exact ⟨hr, hk⟩
  have hTin : ∀ x, T0 x = true → gIn (P p 5 0) (R p) x := fun x hx => hTr_in p7.2.2.2.1 hin hT hx
  have hev := hod_ev (P := P p) (by omega) p7.2.2.1 p7.2.2.2.1 hTin (hTr_cl hT)
  have hcl4 := fb_ct_le T0 480
  have hol := hod_le2 (P p) (R p) T0 480
  have hne : ¬ fb_ct T0 480 = 0 := fun z => by rw [show twn (fb_ct T0 480) (hod (P p) (R p) T0 480) = 0 from if_pos z] at h1; omega
  refine nSp_of (by decide +kernel) rfl (Nat.le_of_ble_eq_true rfl) (ls := [some (.ref (b)), some (.int (nI (p))), some (.int (nI (r))), some (.int (nI (k))), none, none, none, none]) (by exact (And.intro rfl (And.intro rfl (And.intro rfl (And.intro rfl True.intro))))) ?_
  refine x_aload_n rfl d_X8_mend_0 ?_
  refine x_iload_n rfl d_X8_mend_1 ?_
  refine x_iload_n rfl d_X8_mend_2 ?_
  refine x_iload_n rfl d_X8_mend_3 ?_
  refine x_rdV d_X8_mend_4 lk_8_118 mo_X8_isKnot vi_X8_isKnot (sp_isKnot H p2 p1 r1 p5 k1 (by omega)) (o8_o H) ⟨_, rfl, rfl⟩ rfl ⟨Nat.le_of_ble_eq_true rfl, Nat.le_of_ble_eq_true rfl⟩ rfl rfl (Nat.zero_le _) (Nat.zero_le _) (Nat.le_of_ble_eq_true rfl) rfl ?_
  refine x_if_neN (tgt := 12) d_X8_mend_7 (by decide) (by omega) (fun c_1 => ?_) (fun c_1 => by exfalso; omega)
  refine x_aload_n rfl d_X8_mend_12 ?_
  refine x_iload_n rfl d_X8_mend_13 ?_
  refine x_iload_n rfl d_X8_mend_14 ?_
  refine x_iload_n rfl d_X8_mend_15 ?_
  refine x_wvV d_X8_mend_16 lk_8_158 mo_X8_spreads vi_X8_spreads (sp_mspr H W O hp hr hk hT) (o8_o H) ⟨_, rfl, rfl⟩ rfl ⟨Nat.le_of_ble_eq_true rfl, Nat.le_of_ble_eq_true rfl⟩ (Nat.zero_le _) (Nat.zero_le _) (Nat.le_of_ble_eq_true rfl) rfl (fun h3 hq_ e3a e3b => ?_)
  obtain ⟨F3, M3, H3, I3⟩ := hq_
  have W3 := rW_sp W I3.1
  refine x_aload_n rfl d_X8_mend_19 ?_
  refine x_getf co_all (v := .int (nI (M3 20 0))) d_X8_mend_20 fk_8_152 (o8_o H3) rfl ?_
  rw [I3.2.2.1]
  refine x_if_neN (tgt := 28) d_X8_mend_23 (by decide) (by omega) (fun c_0 => ?_) (fun c_0 => by exfalso; omega)
  refine x_aload_n rfl d_X8_mend_28 ?_
  refine x_iload_n rfl d_X8_mend_29 ?_
  refine x_rdV d_X8_mend_30 lk_8_172 mo_X8_oddOnes vi_X8_oddOnes (sp_modd H3 W3 O hp hTin I3.2.1) (o8_o H3) ⟨_, rfl, rfl⟩ rfl ⟨Nat.le_of_ble_eq_true rfl, Nat.le_of_ble_eq_true rfl⟩ rfl rfl (Nat.zero_le _) (Nat.zero_le _) (Nat.le_of_ble_eq_true rfl) rfl ?_
  refine x_istore d_X8_mend_33 (Nat.le_of_ble_eq_true rfl) ?_
  refine x_aload_n rfl d_X8_mend_35 ?_
  refine x_getf co_all (v := .int (nI (M3 20 0))) d_X8_mend_36 fk_8_152 (o8_o H3) rfl ?_
  rw [I3.2.2.1]
  refine x_iload rfl d_X8_mend_39 ?_
  refine x_rdS d_X8_mend_41 lk_8_178 mo_X8_twines sc_X8_twines (sp_mtwn (by omega) (by omega)) rfl ⟨Nat.le_of_ble_eq_true rfl, Nat.le_of_ble_eq_true rfl⟩ rfl rfl (Nat.zero_le _) (Nat.zero_le _) (Nat.le_of_ble_eq_true rfl) rfl ?_
  refine x_istore d_X8_mend_44 (Nat.le_of_ble_eq_true rfl) ?_
  refine x_iload rfl d_X8_mend_46 ?_
  refine x_iconst (v := nI 1) (by decide) d_X8_mend_48 ?_
  refine x_icmp_leN (tgt := 55) d_X8_mend_49 (by decide) (by omega) (by omega) (fun c_t => ?_) (fun c_t => by exfalso; omega)
  refine x_iconst (v := nI 0) (by decide) d_X8_mend_55 ?_
  refine x_istore d_X8_mend_56 (Nat.le_of_ble_eq_true rfl) ?_
  refine nG.eq (ls2 := [some (.ref (b)), some (.int (nI (p))), some (.int (nI (r))), some (.int (nI (k))), some (.int (nI (hod (P p) (R p) T0 480))), some (.int (nI (twn (fb_ct T0 480) (hod (P p) (R p) T0 480)))), some (.int (nI (0))), none]) rfl rfl rfl rfl rfl ?_
  refine lp_mnY F3 H3 W3 O hp hTin I3.2.1 ⟨rfl, F3, M3, H3, W3⟩ 480 0 (Nat.zero_add _) ?_
  obtain ⟨x, y⟩ := hnd
  exact ⟨x, Nat.zero_le _, y⟩
theorem md_mend {h : nPH} {b : Nat} {M V : Nat → Nat → Nat} {P : Nat → Nat → Nat → Nat} {R : Nat → Nat → Nat → Nat → Nat} {E Y T S : Nat → Nat → Nat} (H : o8 h b M) (W : rW M V P R E Y T S) (O : kO V P R) {p : Nat} (hp : p < V 1 0) {r : Nat} (hr : r < P p 5 0) {k : Nat} (hk : k < R p r 0 0) {T0 : Nat → Bool} (hT : hTr (P p) (R p) (24 * r + k) T0) (h1 : twn (fb_ct T0 480) (hod (P p) (R p) T0 480) = 1) (hnd : ¬ ∃ x, x < 480 ∧ T0 x = true ∧ R p (x / 24) 3 (x % 24) = 1) {x0 : Nat} (B : hBg (P p) (R p) T0 x0) {Rm : Nat → Nat → Nat → Nat} {Wm : Nat → Nat → Nat} (Q : wkQ (P p 5 0) (R p) T0 (gb (P p 5 0) (R p) T0) x0 (lsT (R p) T0) Rm Wm) : nWv YX8_mend [.ref b, .int (nI p), .int (nI r), .int (nI k)] h (some (.int (nI 1))) (fun h2 => nFr (nIv b 24) h h2 ∧ ∃ M2, o8 h2 b M2 ∧ rW M2 V P (uP R p Rm) E Wm T S) := by
  obtain ⟨p1, p2, p3, p4, p5, p6, p7, p8⟩ := rW_p W O hp
  obtain ⟨r1, r2, r3, r4, r5, r6⟩ := rW_r W O hp hr
  obtain ⟨k1, k2, k3, k4, k5, k6, k7, k8, k9⟩ := rW_k W O hp hr hk
  have hin : gIn (P p 5 0) (R p) (24 * r + k) := by unfold gIn; rw [show (24 * r + k) / 24 = r by omega, show (24 * r + k) % 24 = k by omega]; exact ⟨hr, hk⟩
  have hTin : ∀ x, T0 x = true → gIn (P p 5 0) (R p) x := fun x hx => hTr_in p7.2.2.2.1 hin hT hx
  have hev := hod_ev (P := P p) (by omega) p7.2.2.1 p7.2.2.2.1 hTin (hTr_cl hT)
  have hcl4 := fb_ct_le T0 480
  have hol := hod_le2 (P p) (R p) T0 480
  have hne : ¬ fb_ct T0 480 = 0 := fun z => by rw [show twn (fb_ct T0 480) (hod (P p) (R p) T0 480) = 0 from if_pos z] at h1; omega
  have hBc := hBg_c B
  obtain ⟨HH, Mm, hzm, l, I0, q0, qS, ql, ql2⟩ := wk_way p7 hin hT B.2.1 Q
  have x480 := B.1
  refine nSp_of (by decide +kernel) rfl (Nat.le_of_ble_eq_true rfl) (ls := [some (.ref (b)), some (.int (nI (p))), some (.int (nI (r))), some (.int (nI (k))), none, none, none, none]) (by exact (And.intro rfl (And.intro rfl (And.intro rfl (And.intro rfl True.intro))))) ?_
  refine x_aload_n rfl d_X8_mend_0 ?_
  refine x_iload_n rfl d_X8_mend_1 ?_
  refine x_iload_n rfl d_X8_mend_2 ?_
  refine x_iload_n rfl d_X8_mend_3 ?_
  refine x_rdV d_X8_mend_4 lk_8_118 mo_X8_isKnot vi_X8_isKnot (sp_isKnot H p2 p1 r1 p5 k1 (by omega)) (o8_o H) ⟨_, rfl, rfl⟩ rfl ⟨Nat.le_of_ble_eq_true rfl, Nat.le_of_ble_eq_true rfl⟩ rfl rfl (Nat.zero_le _) (Nat.zero_le _) (Nat.le_of_ble_eq_true rfl) rfl ?_
  refine x_if_neN (tgt := 12) d_X8_mend_7 (by decide) (by omega) (fun c_1 => ?_) (fun c_1 => by exfalso; omega)
  refine x_aload_n rfl d_X8_mend_12 ?_
  refine x_iload_n rfl d_X8_mend_13 ?_
  refine x_iload_n rfl d_X8_mend_14 ?_
  refine x_iload_n rfl d_X8_mend_15 ?_
  refine x_wvV d_X8_mend_16 lk_8_158 mo_X8_spreads vi_X8_spreads (sp_mspr H W O hp hr hk hT) (o8_o H) ⟨_, rfl, rfl⟩ rfl ⟨Nat.le_of_ble_eq_true rfl, Nat.le_of_ble_eq_true rfl⟩ (Nat.zero_le _) (Nat.zero_le _) (Nat.le_of_ble_eq_true rfl) rfl (fun h3 hq_ e3a e3b => ?_)
  obtain ⟨F3, M3, H3, I3⟩ := hq_
  have W3 := rW_sp W I3.1
  refine x_aload_n rfl d_X8_mend_19 ?_
  refine x_getf co_all (v := .int (nI (M3 20 0))) d_X8_mend_20 fk_8_152 (o8_o H3) rfl ?_
  rw [I3.2.2.1]
  refine x_if_neN (tgt := 28) d_X8_mend_23 (by decide) (by omega) (fun c_0 => ?_) (fun c_0 => by exfalso; omega)
  refine x_aload_n rfl d_X8_mend_28 ?_
  refine x_iload_n rfl d_X8_mend_29 ?_
  refine x_rdV d_X8_mend_30 lk_8_172 mo_X8_oddOnes vi_X8_oddOnes (sp_modd H3 W3 O hp hTin I3.2.1) (o8_o H3) ⟨_, rfl, rfl⟩ rfl ⟨Nat.le_of_ble_eq_true rfl, Nat.le_of_ble_eq_true rfl⟩ rfl rfl (Nat.zero_le _) (Nat.zero_le _) (Nat.le_of_ble_eq_true rfl) rfl ?_
  refine x_istore d_X8_mend_33 (Nat.le_of_ble_eq_true rfl) ?_
  refine x_aload_n rfl d_X8_mend_35 ?_
  refine x_getf co_all (v := .int (nI (M3 20 0))) d_X8_mend_36 fk_8_152 (o8_o H3) rfl ?_
  rw [I3.2.2.1]
  refine x_iload rfl d_X8_mend_39 ?_
  refine x_rdS d_X8_mend_41 lk_8_178 mo_X8_twines sc_X8_twines (sp_mtwn (by omega) (by omega)) rfl ⟨Nat.le_of_ble_eq_true rfl, Nat.le_of_ble_eq_true rfl⟩ rfl rfl (Nat.zero_le _) (Nat.zero_le _) (Nat.le_of_ble_eq_true rfl) rfl ?_
  refine x_istore d_X8_mend_44 (Nat.le_of_ble_eq_true rfl) ?_
  refine x_iload rfl d_X8_mend_46 ?_
  refine x_iconst (v := nI 1) (by decide) d_X8_mend_48 ?_
  refine x_icmp_leN (tgt := 55) d_X8_mend_49 (by decide) (by omega) (by omega) (fun c_t => ?_) (fun c_t => by exfalso; omega)
  refine x_iconst (v := nI 0) (by decide) d_X8_mend_55 ?_
  refine x_istore d_X8_mend_56 (Nat.le_of_ble_eq_true rfl) ?_
  refine nG.eq (ls2 := [some (.ref (b)), some (.int (nI (p))), some (.int (nI (r))), some (.int (nI (k))), some (.int (nI (hod (P p) (R p) T0 480))), some (.int (nI (twn (fb_ct T0 480) (hod (P p) (R p) T0 480)))), some (.int (nI (0))), none]) rfl rfl rfl rfl rfl ?_
  refine lp_mn F3 H3 W3 O hp hTin I3.2.1 hnd ?_ 480 0 (Nat.zero_add _)
  refine x_iconst (v := -1) (by decide) d_X8_mend_107 ?_
  refine x_istore d_X8_mend_108 (Nat.le_of_ble_eq_true rfl) ?_
  refine x_sipush (v := nI 479) (by decide) d_X8_mend_110 ?_
  refine x_istore d_X8_mend_113 (Nat.le_of_ble_eq_true rfl) ?_
  refine nG.eq (ls2 := [some (.ref (b)), some (.int (nI (p))), some (.int (nI (r))), some (.int (nI (k))), some (.int (nI (hod (P p) (R p) T0 480))), some (.int (nI (twn (fb_ct T0 480) (hod (P p) (R p) T0 480)))), some (.int (-1)), some (.int (nV 480))]) (by rw [show nI 479 = nV 480 from (nV_s 479).symm]; rfl) rfl rfl rfl rfl ?_
  refine lp_mh F3 H3 W3 O hp hTin I3.2.1 (x0 := x0) (by omega) x480 B.2.1 hBc.1 hBc.2 ?_ 480 (Nat.le_refl _) (-1) (fun z => by omega)
  refine x_aload_n rfl d_X8_mend_166 ?_
  refine x_getf co_all (v := .int (nI (M3 21 0))) d_X8_mend_167 fk_8_155 (o8_o H3) rfl ?_
  rw [I3.2.2.2]
  refine x_istore d_X8_mend_170 (Nat.le_of_ble_eq_true rfl) ?_
  refine x_aload_n rfl d_X8_mend_172 ?_
  refine x_iconst (v := nI 1) (by decide) d_X8_mend_173 ?_
  refine x_putf co_all d_X8_mend_174 fk_8_181 ft_8_28 (o8_o H3) (Nat.le_of_ble_eq_true rfl) rfl rfl (o8_B H3) ?_
  have H101_8 := o8_put28 (1) H3
  have f_102 := o8_g28 (1) H3 (F3) (by exact ⟨by omega, by omega⟩)
  refine x_aload_n rfl d_X8_mend_177 ?_
  refine x_getf co_all (v := .ref (b + 20)) d_X8_mend_178 fk_8_72 (o8_o H101_8) rfl ?_
  refine x_iconst (v := nI 0) (by decide) d_X8_mend_181 ?_
  refine x_bipush (v := nI 100) (by decide) d_X8_mend_182 ?_
  refine x_iload rfl d_X8_mend_184 ?_
  refine x_bipush (v := nI 24) (by decide) d_X8_mend_186 ?_
  refine x_idivN d_X8_mend_188 (by omega) (by omega) (by omega) ?_
  refine x_imulN d_X8_mend_189 ?_
  refine x_iload rfl d_X8_mend_190 ?_
  refine x_bipush (v := nI 24) (by decide) d_X8_mend_192 ?_
  refine x_iremN d_X8_mend_194 (by omega) (by omega) (by omega) ?_
  refine x_iaddN d_X8_mend_195 ?_
  refine x_iastore d_X8_mend_196 (o8_29 H101_8) (nIx_nI (j := 0) (by omega) (by decide)) (Nat.le_trans (o8_B H101_8) (Nat.le_add_right _ _)) ?_
  have H103_8 := o8_ast29 (0) ((100 * (x0 / 24)) + (x0 % 24)) H101_8
  have f_104 := o8_f29 (0) ((100 * (x0 / 24)) + (x0 % 24)) H101_8 (f_102) (by exact ⟨by omega, by omega⟩)
  obtain ⟨Y5, W5⟩ := rW_y W3 (N := (u2 (u2 M3 28 (0) (1)) 29 (0) ((100 * (x0 / 24)) + (x0 % 24)))) (fun f j hf => by rw [u2_ne (by omega), u2_ne (by omega)])
  refine nG.eq (ls2 := [some (.ref (b)), some (.int (nI (p))), some (.int (nI (r))), some (.int (nI (k))), some (.int (nI (hod (P p) (R p) T0 480))), some (.int (nI (twn (fb_ct T0 480) (hod (P p) (R p) T0 480)))), some (.int (nI (x0))), some (.int (nI (lsT (R p) T0)))]) rfl rfl rfl rfl rfl ?_
  refine lp_mw O hp HH (L0 := x0 :: l) (by rw [List.length_cons]; omega) ?_ l x0 [] (R p) Y5 _ _ _ ql I0 rfl f_104 H103_8 (by rw [uPs]; exact W5) ⟨?_, fun i hi => ?_⟩
  · intro h2 M2 Rc x Yc F2 H2 I2 W2 j1 j2
    refine ⟨rfl, F2, M2, H2, ?_⟩
    refine rW_yY (rW_same W2 (kP_md HH.1 I2.1) (fun r2 _ f k2 hk2 => md_same HH I2.1 (fun a b => ?_) Mm hzm r2 f k2 hk2)) (by rw [j1, q0]; rfl) (fun i hi => ?_)
    · rcases z : gb (P p 5 0) Rc T0 a b with _ | _
      · rfl
      · exact ((I2.2.2.2.1 a b).mp z).elim
    · rw [q0] at hi ⊢
      rw [j2 i (by rw [List.length_cons]; exact hi)]
      exact (cS_at qS i (by rw [List.length_cons]; exact hi)).symm
  · rw [u2_ne (by omega), u2_eq]
    rfl
  · have e : i = 0 := by simpa using hi
    rw [e, u2_eq]
    rfl
