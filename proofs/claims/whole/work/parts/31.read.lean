/-! the loft: what it reads -/
theorem nI_ne2 {n : Nat} (h : n < 2 ^ 31) : ¬ nI n = -2 := fun e => by
  have := congrArg Int32.toInt e
  rw [nI_toInt h] at this
  have h2 : (-2 : Int32).toInt = -2 := by decide
  omega
theorem sp_pAt {h : nPH} {a : Nat} {V : Nat → Nat → Nat} (H : o7 h a V) (hn : V 1 0 ≤ 12) {p : Nat} (hp : p < V 1 0) : nRd YX7_panelAt [.ref (a), .int (nI (p))] h (.ref (V 0 p)) := by
  refine nSp_of (by decide +kernel) rfl (Nat.le_of_ble_eq_true rfl) (ls := [some (.ref (a)), some (.int (nI (p)))]) (by exact (And.intro rfl (And.intro rfl True.intro))) ?_
  refine x_iload_n rfl d_X7_panelAt_0 ?_
  refine x_iconst (v := nI 0) (by decide) d_X7_panelAt_1 ?_
  refine x_aload_n rfl d_X7_panelAt_2 ?_
  refine x_getf co_all (v := .int (nI (V 1 0))) d_X7_panelAt_3 fk_7_61 (o7_o H) rfl ?_
  refine x_iconst (v := nI 1) (by decide) d_X7_panelAt_6 ?_
  refine x_isub d_X7_panelAt_7 ?_
  refine x_rdS d_X7_panelAt_8 lk_7_64 mo_X7_within sc_X7_within (sp_wi (nI (p)) (n := V 1 0) (by omega)) rfl ⟨Nat.le_of_ble_eq_true rfl, Nat.le_of_ble_eq_true rfl⟩ rfl rfl (Nat.zero_le _) (Nat.zero_le _) (Nat.le_of_ble_eq_true rfl) rfl ?_
  have hle := nBi_le (nI (p)) (V 1 0)
  refine x_if_eqN (tgt := 23) d_X7_panelAt_11 (by decide) (by omega) (fun c_1 => by exfalso; rw [nBi_n (by omega)] at c_1; exact absurd hp (nB_0.mp c_1)) (fun c_1 => ?_)
  refine x_aload_n rfl d_X7_panelAt_14 ?_
  refine x_getf co_all (v := .ref (a + 1)) d_X7_panelAt_15 fk_7_11 (o7_o H) rfl ?_
  refine x_iload_n rfl d_X7_panelAt_18 ?_
  refine x_aaload d_X7_panelAt_19 (o7_0 H) rfl (nIx_nI (j := p) (by omega) (by decide)) (if_pos hp) ?_
  refine x_goto (tgt := 24) d_X7_panelAt_20 (by decide) ?_
  exact x_areturn d_X7_panelAt_24 rfl (Or.inl ⟨_, rfl⟩) (Or.inr ⟨_, rfl⟩) rfl rfl (Nat.zero_le _) (Nat.zero_le _) (⟨rfl, rfl⟩)
theorem sp_pAtN {h : nPH} {a : Nat} {V : Nat → Nat → Nat} (H : o7 h a V) (hn : V 1 0 ≤ 12) {p : Int32} (hp : ¬ nIn p (V 1 0)) : nRd YX7_panelAt [.ref (a), .int (p)] h (.null) := by
  refine nSp_of (by decide +kernel) rfl (Nat.le_of_ble_eq_true rfl) (ls := [some (.ref (a)), some (.int (p))]) (by exact (And.intro rfl (And.intro rfl True.intro))) ?_
  refine x_iload_n rfl d_X7_panelAt_0 ?_
  refine x_iconst (v := nI 0) (by decide) d_X7_panelAt_1 ?_
  refine x_aload_n rfl d_X7_panelAt_2 ?_
  refine x_getf co_all (v := .int (nI (V 1 0))) d_X7_panelAt_3 fk_7_61 (o7_o H) rfl ?_
  refine x_iconst (v := nI 1) (by decide) d_X7_panelAt_6 ?_
  refine x_isub d_X7_panelAt_7 ?_
  refine x_rdS d_X7_panelAt_8 lk_7_64 mo_X7_within sc_X7_within (sp_wi (p) (n := V 1 0) (by omega)) rfl ⟨Nat.le_of_ble_eq_true rfl, Nat.le_of_ble_eq_true rfl⟩ rfl rfl (Nat.zero_le _) (Nat.zero_le _) (Nat.le_of_ble_eq_true rfl) rfl ?_
  have hle := nBi_le (p) (V 1 0)
  refine x_if_eqN (tgt := 23) d_X7_panelAt_11 (by decide) (by omega) (fun c_1 => ?_) (fun c_1 => by exfalso; exact c_1 (nBi_F hp))
  refine x_null d_X7_panelAt_23 ?_
  exact x_areturn d_X7_panelAt_24 rfl (Or.inl ⟨_, rfl⟩) (Or.inl rfl) rfl rfl (Nat.zero_le _) (Nat.zero_le _) (⟨rfl, rfl⟩)
def rOff (n : Nat) (R : Nat → Nat → Nat → Nat) (r k : Int32) : Prop := ∀ r2 k2 : Nat, r = nI r2 → r2 < n → k = nI k2 → k2 < R r2 0 0 → False
theorem sp_rowWithO {h : nPH} {a : Nat} {P : Nat → Nat → Nat} {R : Nat → Nat → Nat → Nat} (W : pW h a P R) {r k : Int32} (hO : rOff (P 5 0) R r k) : nRd YX2_rowWith [.ref a, .int r, .int k] h .null := by
  by_cases h1 : nIn r (P 5 0)
  · have hn := W.2.1
    obtain ⟨r2, h2, rfl⟩ := nIn_of h1 (by omega)
    have hp := (W.2.2.1 r2 h2).2.1.1
    by_cases h3 : nIn k (R r2 0 0)
    · obtain ⟨k2, h4, rfl⟩ := nIn_of h3 (by omega)
      exact (hO r2 k2 rfl h2 rfl h4).elim
    · exact sp_rowWithK W h2 h3
  · exact sp_rowWithN W h1
theorem cl_meshes {h : nPH} {a b : Nat} {V : Nat → Nat → Nat} {P : Nat → Nat → Nat → Nat} {R : Nat → Nat → Nat → Nat → Nat} {E Y T S : Nat → Nat → Nat} (C : cW h a b V P R E Y T S) {p : Nat} (hp : p < V 1 0) {r : Nat} (hr : r < P p 5 0) : nRd YX7_meshes [.ref (a), .int (nI (p)), .int (nI (r))] h (.int (nI (R p r 0 0))) := by
  have hn12 := cW_n C
  have hn20 := (cW_q C hp).2.1
  have hrk := ((cW_q C hp).2.2.1 r hr).2.1
  have hpl := hrk.1
  refine nSp_of (by decide +kernel) rfl (Nat.le_of_ble_eq_true rfl) (ls := [some (.ref (a)), some (.int (nI (p))), some (.int (nI (r))), none, none]) (by exact (And.intro rfl (And.intro rfl (And.intro rfl True.intro)))) ?_
  refine x_aload_n rfl d_X7_meshes_0 ?_
  refine x_iload_n rfl d_X7_meshes_1 ?_
  refine x_rdV d_X7_meshes_2 lk_7_85 mo_X7_panelAt vi_X7_panelAt (sp_pAt C.1.1 (cW_n C) hp) (o7_o C.1.1) ⟨_, rfl, rfl⟩ rfl ⟨Nat.le_of_ble_eq_true rfl, Nat.le_of_ble_eq_true rfl⟩ rfl rfl (Nat.zero_le _) (Nat.zero_le _) (Nat.le_of_ble_eq_true rfl) rfl ?_
  refine x_astore_n d_X7_meshes_5 (Nat.le_of_ble_eq_true rfl) ?_
  refine x_aload_n rfl d_X7_meshes_6 ?_
  refine x_ifnonnull (tgt := 14) d_X7_meshes_7 (by decide) ?_
  refine x_aload_n rfl d_X7_meshes_14 ?_
  refine x_iload_n rfl d_X7_meshes_15 ?_
  refine x_rdV d_X7_meshes_16 lk_7_123 mo_X2_rowAt vi_X2_rowAt (sp_rowAt (cW_q C hp).1 hn20 hr) (o2_o (cW_q C hp).1) ⟨_, rfl, rfl⟩ rfl ⟨Nat.le_of_ble_eq_true rfl, Nat.le_of_ble_eq_true rfl⟩ rfl rfl (Nat.zero_le _) (Nat.zero_le _) (Nat.le_of_ble_eq_true rfl) rfl ?_
  refine x_astore d_X7_meshes_19 (Nat.le_of_ble_eq_true rfl) ?_
  refine x_aload rfl d_X7_meshes_21 ?_
  refine x_ifnonnull (tgt := 30) d_X7_meshes_23 (by decide) ?_
  refine x_aload rfl d_X7_meshes_30 ?_
  refine x_getf co_all (v := .int (nI ((R p r) 0 0))) d_X7_meshes_32 fk_7_127 (o3_o ((cW_q C hp).2.2.1 r hr).1) rfl ?_
  exact x_ireturn d_X7_meshes_35 rfl rfl rfl rfl (Nat.zero_le _) (Nat.zero_le _) (⟨rfl, rfl⟩)
theorem cl_meshesP {h : nPH} {a b : Nat} {V : Nat → Nat → Nat} {P : Nat → Nat → Nat → Nat} {R : Nat → Nat → Nat → Nat → Nat} {E Y T S : Nat → Nat → Nat} (C : cW h a b V P R E Y T S) {p : Int32} (hp : ¬ nIn p (V 1 0)) {r : Int32} : nRd YX7_meshes [.ref (a), .int (p), .int (r)] h (.int (-1)) := by
  refine nSp_of (by decide +kernel) rfl (Nat.le_of_ble_eq_true rfl) (ls := [some (.ref (a)), some (.int (p)), some (.int (r)), none, none]) (by exact (And.intro rfl (And.intro rfl (And.intro rfl True.intro)))) ?_
  refine x_aload_n rfl d_X7_meshes_0 ?_
  refine x_iload_n rfl d_X7_meshes_1 ?_
  refine x_rdV d_X7_meshes_2 lk_7_85 mo_X7_panelAt vi_X7_panelAt (sp_pAtN C.1.1 (cW_n C) hp) (o7_o C.1.1) ⟨_, rfl, rfl⟩ rfl ⟨Nat.le_of_ble_eq_true rfl, Nat.le_of_ble_eq_true rfl⟩ rfl rfl (Nat.zero_le _) (Nat.zero_le _) (Nat.le_of_ble_eq_true rfl) rfl ?_
  refine x_astore_nN d_X7_meshes_5 (Nat.le_of_ble_eq_true rfl) ?_
  refine x_aload_nN rfl d_X7_meshes_6 ?_
  refine x_ifnonnullN d_X7_meshes_7 ?_
  refine x_null d_X7_meshes_10 ?_
  refine x_goto (tgt := 19) d_X7_meshes_11 (by decide) ?_
  refine x_astoreN d_X7_meshes_19 (Nat.le_of_ble_eq_true rfl) ?_
  refine x_aloadN rfl d_X7_meshes_21 ?_
  refine x_ifnonnullN d_X7_meshes_23 ?_
  refine x_iconst (v := -1) (by decide) d_X7_meshes_26 ?_
  refine x_goto (tgt := 35) d_X7_meshes_27 (by decide) ?_
  exact x_ireturn d_X7_meshes_35 rfl rfl rfl rfl (Nat.zero_le _) (Nat.zero_le _) (⟨rfl, rfl⟩)
theorem cl_meshesR {h : nPH} {a b : Nat} {V : Nat → Nat → Nat} {P : Nat → Nat → Nat → Nat} {R : Nat → Nat → Nat → Nat → Nat} {E Y T S : Nat → Nat → Nat} (C : cW h a b V P R E Y T S) {p : Nat} (hp : p < V 1 0) {r : Int32} (hr : ¬ nIn r (P p 5 0)) : nRd YX7_meshes [.ref (a), .int (nI (p)), .int (r)] h (.int (-1)) := by
  have hn12 := cW_n C
  have hn20 := (cW_q C hp).2.1
  refine nSp_of (by decide +kernel) rfl (Nat.le_of_ble_eq_true rfl) (ls := [some (.ref (a)), some (.int (nI (p))), some (.int (r)), none, none]) (by exact (And.intro rfl (And.intro rfl (And.intro rfl True.intro)))) ?_
  refine x_aload_n rfl d_X7_meshes_0 ?_
  refine x_iload_n rfl d_X7_meshes_1 ?_
  refine x_rdV d_X7_meshes_2 lk_7_85 mo_X7_panelAt vi_X7_panelAt (sp_pAt C.1.1 (cW_n C) hp) (o7_o C.1.1) ⟨_, rfl, rfl⟩ rfl ⟨Nat.le_of_ble_eq_true rfl, Nat.le_of_ble_eq_true rfl⟩ rfl rfl (Nat.zero_le _) (Nat.zero_le _) (Nat.le_of_ble_eq_true rfl) rfl ?_
  refine x_astore_n d_X7_meshes_5 (Nat.le_of_ble_eq_true rfl) ?_
  refine x_aload_n rfl d_X7_meshes_6 ?_
  refine x_ifnonnull (tgt := 14) d_X7_meshes_7 (by decide) ?_
  refine x_aload_n rfl d_X7_meshes_14 ?_
  refine x_iload_n rfl d_X7_meshes_15 ?_
  refine x_rdV d_X7_meshes_16 lk_7_123 mo_X2_rowAt vi_X2_rowAt (sp_rowAtN (cW_q C hp).1 hn20 hr) (o2_o (cW_q C hp).1) ⟨_, rfl, rfl⟩ rfl ⟨Nat.le_of_ble_eq_true rfl, Nat.le_of_ble_eq_true rfl⟩ rfl rfl (Nat.zero_le _) (Nat.zero_le _) (Nat.le_of_ble_eq_true rfl) rfl ?_
  refine x_astoreN d_X7_meshes_19 (Nat.le_of_ble_eq_true rfl) ?_
  refine x_aloadN rfl d_X7_meshes_21 ?_
  refine x_ifnonnullN d_X7_meshes_23 ?_
  refine x_iconst (v := -1) (by decide) d_X7_meshes_26 ?_
  refine x_goto (tgt := 35) d_X7_meshes_27 (by decide) ?_
  exact x_ireturn d_X7_meshes_35 rfl rfl rfl rfl (Nat.zero_le _) (Nat.zero_le _) (⟨rfl, rfl⟩)
theorem cl_of_0 {h : nPH} {a b : Nat} {V : Nat → Nat → Nat} {P : Nat → Nat → Nat → Nat} {R : Nat → Nat → Nat → Nat → Nat} {E Y T S : Nat → Nat → Nat} (C : cW h a b V P R E Y T S) {p : Nat} (hp : p < V 1 0) {r : Nat} (hr : r < P p 5 0) {k : Nat} (hk : k < R p r 0 0) : nRd YX7_of [.ref (a), .int (nI (p)), .int (nI (r)), .int (nI (k)), .int (nI (0))] h (.int (nI (R p r 1 k))) := by
  have hn12 := cW_n C
  have hn20 := (cW_q C hp).2.1
  have hrk := ((cW_q C hp).2.2.1 r hr).2.1
  have hpl := hrk.1
  have hkk := hrk.2 k (by omega)
  refine nSp_of (by decide +kernel) rfl (Nat.le_of_ble_eq_true rfl) (ls := [some (.ref (a)), some (.int (nI (p))), some (.int (nI (r))), some (.int (nI (k))), some (.int (nI (0))), none, none]) (by exact (And.intro rfl (And.intro rfl (And.intro rfl (And.intro rfl (And.intro rfl True.intro)))))) ?_
  refine x_aload_n rfl d_X7_of_0 ?_
  refine x_iload_n rfl d_X7_of_1 ?_
  refine x_rdV d_X7_of_2 lk_7_85 mo_X7_panelAt vi_X7_panelAt (sp_pAt C.1.1 (cW_n C) hp) (o7_o C.1.1) ⟨_, rfl, rfl⟩ rfl ⟨Nat.le_of_ble_eq_true rfl, Nat.le_of_ble_eq_true rfl⟩ rfl rfl (Nat.zero_le _) (Nat.zero_le _) (Nat.le_of_ble_eq_true rfl) rfl ?_
  refine x_astore d_X7_of_5 (Nat.le_of_ble_eq_true rfl) ?_
  refine x_aload rfl d_X7_of_7 ?_
  refine x_ifnonnull (tgt := 16) d_X7_of_9 (by decide) ?_
  refine x_aload rfl d_X7_of_16 ?_
  refine x_iload_n rfl d_X7_of_18 ?_
  refine x_iload_n rfl d_X7_of_19 ?_
  refine x_rdV d_X7_of_20 lk_7_130 mo_X2_rowWith vi_X2_rowWith (sp_rowWith (cW_q C hp) hr hk) (o2_o (cW_q C hp).1) ⟨_, rfl, rfl⟩ rfl ⟨Nat.le_of_ble_eq_true rfl, Nat.le_of_ble_eq_true rfl⟩ rfl rfl (Nat.zero_le _) (Nat.zero_le _) (Nat.le_of_ble_eq_true rfl) rfl ?_
  refine x_astore d_X7_of_23 (Nat.le_of_ble_eq_true rfl) ?_
  refine x_aload rfl d_X7_of_25 ?_
  refine x_ifnonnull (tgt := 32) d_X7_of_27 (by decide) ?_
  refine x_iload rfl d_X7_of_32 ?_
  refine x_tableIn (off := 42) (tgt := 76) d_X7_of_34 (by decide) (by decide) (by decide) (by decide) ?_
  refine x_aload rfl d_X7_of_76 ?_
  refine x_getf co_all (v := .ref (P p 4 r + 1)) d_X7_of_78 fk_7_134 (o3_o ((cW_q C hp).2.2.1 r hr).1) rfl ?_
  refine x_iload_n rfl d_X7_of_81 ?_
  refine x_iaload d_X7_of_82 (o3_1 ((cW_q C hp).2.2.1 r hr).1) (nIx_nI (j := k) (by omega) (by decide)) ?_
  exact x_ireturn d_X7_of_83 rfl rfl rfl rfl (Nat.zero_le _) (Nat.zero_le _) (⟨rfl, rfl⟩)
theorem cl_of_1 {h : nPH} {a b : Nat} {V : Nat → Nat → Nat} {P : Nat → Nat → Nat → Nat} {R : Nat → Nat → Nat → Nat → Nat} {E Y T S : Nat → Nat → Nat} (C : cW h a b V P R E Y T S) {p : Nat} (hp : p < V 1 0) {r : Nat} (hr : r < P p 5 0) {k : Nat} (hk : k < R p r 0 0) : nRd YX7_of [.ref (a), .int (nI (p)), .int (nI (r)), .int (nI (k)), .int (nI (1))] h (.int (nI (R p r 2 k))) := by
  have hn12 := cW_n C
  have hn20 := (cW_q C hp).2.1
  have hrk := ((cW_q C hp).2.2.1 r hr).2.1
  have hpl := hrk.1
  have hkk := hrk.2 k (by omega)
  refine nSp_of (by decide +kernel) rfl (Nat.le_of_ble_eq_true rfl) (ls := [some (.ref (a)), some (.int (nI (p))), some (.int (nI (r))), some (.int (nI (k))), some (.int (nI (1))), none, none]) (by exact (And.intro rfl (And.intro rfl (And.intro rfl (And.intro rfl (And.intro rfl True.intro)))))) ?_
  refine x_aload_n rfl d_X7_of_0 ?_
  refine x_iload_n rfl d_X7_of_1 ?_
  refine x_rdV d_X7_of_2 lk_7_85 mo_X7_panelAt vi_X7_panelAt (sp_pAt C.1.1 (cW_n C) hp) (o7_o C.1.1) ⟨_, rfl, rfl⟩ rfl ⟨Nat.le_of_ble_eq_true rfl, Nat.le_of_ble_eq_true rfl⟩ rfl rfl (Nat.zero_le _) (Nat.zero_le _) (Nat.le_of_ble_eq_true rfl) rfl ?_
  refine x_astore d_X7_of_5 (Nat.le_of_ble_eq_true rfl) ?_
  refine x_aload rfl d_X7_of_7 ?_
  refine x_ifnonnull (tgt := 16) d_X7_of_9 (by decide) ?_
  refine x_aload rfl d_X7_of_16 ?_
  refine x_iload_n rfl d_X7_of_18 ?_
  refine x_iload_n rfl d_X7_of_19 ?_
  refine x_rdV d_X7_of_20 lk_7_130 mo_X2_rowWith vi_X2_rowWith (sp_rowWith (cW_q C hp) hr hk) (o2_o (cW_q C hp).1) ⟨_, rfl, rfl⟩ rfl ⟨Nat.le_of_ble_eq_true rfl, Nat.le_of_ble_eq_true rfl⟩ rfl rfl (Nat.zero_le _) (Nat.zero_le _) (Nat.le_of_ble_eq_true rfl) rfl ?_
  refine x_astore d_X7_of_23 (Nat.le_of_ble_eq_true rfl) ?_
  refine x_aload rfl d_X7_of_25 ?_
  refine x_ifnonnull (tgt := 32) d_X7_of_27 (by decide) ?_
  refine x_iload rfl d_X7_of_32 ?_
  refine x_tableIn (off := 50) (tgt := 84) d_X7_of_34 (by decide) (by decide) (by decide) (by decide) ?_
  refine x_aload rfl d_X7_of_84 ?_
  refine x_getf co_all (v := .ref (P p 4 r + 2)) d_X7_of_86 fk_7_137 (o3_o ((cW_q C hp).2.2.1 r hr).1) rfl ?_
  refine x_iload_n rfl d_X7_of_89 ?_
  refine x_iaload d_X7_of_90 (o3_2 ((cW_q C hp).2.2.1 r hr).1) (nIx_nI (j := k) (by omega) (by decide)) ?_
  exact x_ireturn d_X7_of_91 rfl rfl rfl rfl (Nat.zero_le _) (Nat.zero_le _) (⟨rfl, rfl⟩)
theorem cl_of_2 {h : nPH} {a b : Nat} {V : Nat → Nat → Nat} {P : Nat → Nat → Nat → Nat} {R : Nat → Nat → Nat → Nat → Nat} {E Y T S : Nat → Nat → Nat} (C : cW h a b V P R E Y T S) {p : Nat} (hp : p < V 1 0) {r : Nat} (hr : r < P p 5 0) {k : Nat} (hk : k < R p r 0 0) : nRd YX7_of [.ref (a), .int (nI (p)), .int (nI (r)), .int (nI (k)), .int (nI (2))] h (.int (nI (R p r 5 k))) := by
  have hn12 := cW_n C
  have hn20 := (cW_q C hp).2.1
  have hrk := ((cW_q C hp).2.2.1 r hr).2.1
  have hpl := hrk.1
  have hkk := hrk.2 k (by omega)
  refine nSp_of (by decide +kernel) rfl (Nat.le_of_ble_eq_true rfl) (ls := [some (.ref (a)), some (.int (nI (p))), some (.int (nI (r))), some (.int (nI (k))), some (.int (nI (2))), none, none]) (by exact (And.intro rfl (And.intro rfl (And.intro rfl (And.intro rfl (And.intro rfl True.intro)))))) ?_
  refine x_aload_n rfl d_X7_of_0 ?_
  refine x_iload_n rfl d_X7_of_1 ?_
  refine x_rdV d_X7_of_2 lk_7_85 mo_X7_panelAt vi_X7_panelAt (sp_pAt C.1.1 (cW_n C) hp) (o7_o C.1.1) ⟨_, rfl, rfl⟩ rfl ⟨Nat.le_of_ble_eq_true rfl, Nat.le_of_ble_eq_true rfl⟩ rfl rfl (Nat.zero_le _) (Nat.zero_le _) (Nat.le_of_ble_eq_true rfl) rfl ?_
  refine x_astore d_X7_of_5 (Nat.le_of_ble_eq_true rfl) ?_
  refine x_aload rfl d_X7_of_7 ?_
  refine x_ifnonnull (tgt := 16) d_X7_of_9 (by decide) ?_
  refine x_aload rfl d_X7_of_16 ?_
  refine x_iload_n rfl d_X7_of_18 ?_
  refine x_iload_n rfl d_X7_of_19 ?_
  refine x_rdV d_X7_of_20 lk_7_130 mo_X2_rowWith vi_X2_rowWith (sp_rowWith (cW_q C hp) hr hk) (o2_o (cW_q C hp).1) ⟨_, rfl, rfl⟩ rfl ⟨Nat.le_of_ble_eq_true rfl, Nat.le_of_ble_eq_true rfl⟩ rfl rfl (Nat.zero_le _) (Nat.zero_le _) (Nat.le_of_ble_eq_true rfl) rfl ?_
  refine x_astore d_X7_of_23 (Nat.le_of_ble_eq_true rfl) ?_
  refine x_aload rfl d_X7_of_25 ?_
  refine x_ifnonnull (tgt := 32) d_X7_of_27 (by decide) ?_
  refine x_iload rfl d_X7_of_32 ?_
  refine x_tableIn (off := 58) (tgt := 92) d_X7_of_34 (by decide) (by decide) (by decide) (by decide) ?_
  refine x_aload rfl d_X7_of_92 ?_
  refine x_getf co_all (v := .ref (P p 4 r + 5)) d_X7_of_94 fk_7_140 (o3_o ((cW_q C hp).2.2.1 r hr).1) rfl ?_
  refine x_iload_n rfl d_X7_of_97 ?_
  refine x_iaload d_X7_of_98 (o3_5 ((cW_q C hp).2.2.1 r hr).1) (nIx_nI (j := k) (by omega) (by decide)) ?_
  exact x_ireturn d_X7_of_99 rfl rfl rfl rfl (Nat.zero_le _) (Nat.zero_le _) (⟨rfl, rfl⟩)
theorem cl_of_3 {h : nPH} {a b : Nat} {V : Nat → Nat → Nat} {P : Nat → Nat → Nat → Nat} {R : Nat → Nat → Nat → Nat → Nat} {E Y T S : Nat → Nat → Nat} (C : cW h a b V P R E Y T S) {p : Nat} (hp : p < V 1 0) {r : Nat} (hr : r < P p 5 0) {k : Nat} (hk : k < R p r 0 0) : nRd YX7_of [.ref (a), .int (nI (p)), .int (nI (r)), .int (nI (k)), .int (nI (3))] h (.int (nI (pcn (R p r 6 k)))) := by
  have hn12 := cW_n C
  have hn20 := (cW_q C hp).2.1
  have hrk := ((cW_q C hp).2.2.1 r hr).2.1
  have hpl := hrk.1
  have hkk := hrk.2 k (by omega)
  refine nSp_of (by decide +kernel) rfl (Nat.le_of_ble_eq_true rfl) (ls := [some (.ref (a)), some (.int (nI (p))), some (.int (nI (r))), some (.int (nI (k))), some (.int (nI (3))), none, none]) (by exact (And.intro rfl (And.intro rfl (And.intro rfl (And.intro rfl (And.intro rfl True.intro)))))) ?_
  refine x_aload_n rfl d_X7_of_0 ?_
  refine x_iload_n rfl d_X7_of_1 ?_
  refine x_rdV d_X7_of_2 lk_7_85 mo_X7_panelAt vi_X7_panelAt (sp_pAt C.1.1 (cW_n C) hp) (o7_o C.1.1) ⟨_, rfl, rfl⟩ rfl ⟨Nat.le_of_ble_eq_true rfl, Nat.le_of_ble_eq_true rfl⟩ rfl rfl (Nat.zero_le _) (Nat.zero_le _) (Nat.le_of_ble_eq_true rfl) rfl ?_
  refine x_astore d_X7_of_5 (Nat.le_of_ble_eq_true rfl) ?_
  refine x_aload rfl d_X7_of_7 ?_
  refine x_ifnonnull (tgt := 16) d_X7_of_9 (by decide) ?_
  refine x_aload rfl d_X7_of_16 ?_
  refine x_iload_n rfl d_X7_of_18 ?_
  refine x_iload_n rfl d_X7_of_19 ?_
  refine x_rdV d_X7_of_20 lk_7_130 mo_X2_rowWith vi_X2_rowWith (sp_rowWith (cW_q C hp) hr hk) (o2_o (cW_q C hp).1) ⟨_, rfl, rfl⟩ rfl ⟨Nat.le_of_ble_eq_true rfl, Nat.le_of_ble_eq_true rfl⟩ rfl rfl (Nat.zero_le _) (Nat.zero_le _) (Nat.le_of_ble_eq_true rfl) rfl ?_
  refine x_astore d_X7_of_23 (Nat.le_of_ble_eq_true rfl) ?_
  refine x_aload rfl d_X7_of_25 ?_
  refine x_ifnonnull (tgt := 32) d_X7_of_27 (by decide) ?_
  refine x_iload rfl d_X7_of_32 ?_
  refine x_tableIn (off := 66) (tgt := 100) d_X7_of_34 (by decide) (by decide) (by decide) (by decide) ?_
  refine x_aload rfl d_X7_of_100 ?_
  refine x_getf co_all (v := .ref (P p 4 r + 6)) d_X7_of_102 fk_7_143 (o3_o ((cW_q C hp).2.2.1 r hr).1) rfl ?_
  refine x_iload_n rfl d_X7_of_105 ?_
  refine x_iaload d_X7_of_106 (o3_6 ((cW_q C hp).2.2.1 r hr).1) (nIx_nI (j := k) (by omega) (by decide)) ?_
  refine x_rdS d_X7_of_107 lk_7_146 mo_J6_bitCount_0f7a4 sc_J6_bitCount_0f7a4 (sp_bits (rOK_6 hrk (k := k) (by omega))) rfl ⟨Nat.le_of_ble_eq_true rfl, Nat.le_of_ble_eq_true rfl⟩ rfl rfl (Nat.zero_le _) (Nat.zero_le _) (Nat.le_of_ble_eq_true rfl) rfl ?_
  exact x_ireturn d_X7_of_110 rfl rfl rfl rfl (Nat.zero_le _) (Nat.zero_le _) (⟨rfl, rfl⟩)
theorem cl_of_5 {h : nPH} {a b : Nat} {V : Nat → Nat → Nat} {P : Nat → Nat → Nat → Nat} {R : Nat → Nat → Nat → Nat → Nat} {E Y T S : Nat → Nat → Nat} (C : cW h a b V P R E Y T S) {p : Nat} (hp : p < V 1 0) {r : Nat} (hr : r < P p 5 0) {k : Nat} (hk : k < R p r 0 0) : nRd YX7_of [.ref (a), .int (nI (p)), .int (nI (r)), .int (nI (k)), .int (nI (5))] h (.int (nI (R p r 3 k))) := by
  have hn12 := cW_n C
  have hn20 := (cW_q C hp).2.1
  have hrk := ((cW_q C hp).2.2.1 r hr).2.1
  have hpl := hrk.1
  have hkk := hrk.2 k (by omega)
  refine nSp_of (by decide +kernel) rfl (Nat.le_of_ble_eq_true rfl) (ls := [some (.ref (a)), some (.int (nI (p))), some (.int (nI (r))), some (.int (nI (k))), some (.int (nI (5))), none, none]) (by exact (And.intro rfl (And.intro rfl (And.intro rfl (And.intro rfl (And.intro rfl True.intro)))))) ?_
  refine x_aload_n rfl d_X7_of_0 ?_
  refine x_iload_n rfl d_X7_of_1 ?_
  refine x_rdV d_X7_of_2 lk_7_85 mo_X7_panelAt vi_X7_panelAt (sp_pAt C.1.1 (cW_n C) hp) (o7_o C.1.1) ⟨_, rfl, rfl⟩ rfl ⟨Nat.le_of_ble_eq_true rfl, Nat.le_of_ble_eq_true rfl⟩ rfl rfl (Nat.zero_le _) (Nat.zero_le _) (Nat.le_of_ble_eq_true rfl) rfl ?_
  refine x_astore d_X7_of_5 (Nat.le_of_ble_eq_true rfl) ?_
  refine x_aload rfl d_X7_of_7 ?_
  refine x_ifnonnull (tgt := 16) d_X7_of_9 (by decide) ?_
  refine x_aload rfl d_X7_of_16 ?_
  refine x_iload_n rfl d_X7_of_18 ?_
  refine x_iload_n rfl d_X7_of_19 ?_
  refine x_rdV d_X7_of_20 lk_7_130 mo_X2_rowWith vi_X2_rowWith (sp_rowWith (cW_q C hp) hr hk) (o2_o (cW_q C hp).1) ⟨_, rfl, rfl⟩ rfl ⟨Nat.le_of_ble_eq_true rfl, Nat.le_of_ble_eq_true rfl⟩ rfl rfl (Nat.zero_le _) (Nat.zero_le _) (Nat.le_of_ble_eq_true rfl) rfl ?_
  refine x_astore d_X7_of_23 (Nat.le_of_ble_eq_true rfl) ?_
  refine x_aload rfl d_X7_of_25 ?_
  refine x_ifnonnull (tgt := 32) d_X7_of_27 (by decide) ?_
  refine x_iload rfl d_X7_of_32 ?_
  refine x_tableIn (off := 85) (tgt := 119) d_X7_of_34 (by decide) (by decide) (by decide) (by decide) ?_
  refine x_aload rfl d_X7_of_119 ?_
  refine x_getf co_all (v := .ref (P p 4 r + 3)) d_X7_of_121 fk_7_156 (o3_o ((cW_q C hp).2.2.1 r hr).1) rfl ?_
  refine x_iload_n rfl d_X7_of_124 ?_
  refine x_iaload d_X7_of_125 (o3_3 ((cW_q C hp).2.2.1 r hr).1) (nIx_nI (j := k) (by omega) (by decide)) ?_
  exact x_ireturn d_X7_of_126 rfl rfl rfl rfl (Nat.zero_le _) (Nat.zero_le _) (⟨rfl, rfl⟩)
theorem cl_of_6 {h : nPH} {a b : Nat} {V : Nat → Nat → Nat} {P : Nat → Nat → Nat → Nat} {R : Nat → Nat → Nat → Nat → Nat} {E Y T S : Nat → Nat → Nat} (C : cW h a b V P R E Y T S) {p : Nat} (hp : p < V 1 0) {r : Nat} (hr : r < P p 5 0) {k : Nat} (hk : k < R p r 0 0) : nRd YX7_of [.ref (a), .int (nI (p)), .int (nI (r)), .int (nI (k)), .int (nI (6))] h (.int (nI (gsd (P p) (R p) r k))) := by
  have hn12 := cW_n C
  have hn20 := (cW_q C hp).2.1
  have hrk := ((cW_q C hp).2.2.1 r hr).2.1
  have hpl := hrk.1
  have hkk := hrk.2 k (by omega)
  refine nSp_of (by decide +kernel) rfl (Nat.le_of_ble_eq_true rfl) (ls := [some (.ref (a)), some (.int (nI (p))), some (.int (nI (r))), some (.int (nI (k))), some (.int (nI (6))), none, none]) (by exact (And.intro rfl (And.intro rfl (And.intro rfl (And.intro rfl (And.intro rfl True.intro)))))) ?_
  refine x_aload_n rfl d_X7_of_0 ?_
  refine x_iload_n rfl d_X7_of_1 ?_
  refine x_rdV d_X7_of_2 lk_7_85 mo_X7_panelAt vi_X7_panelAt (sp_pAt C.1.1 (cW_n C) hp) (o7_o C.1.1) ⟨_, rfl, rfl⟩ rfl ⟨Nat.le_of_ble_eq_true rfl, Nat.le_of_ble_eq_true rfl⟩ rfl rfl (Nat.zero_le _) (Nat.zero_le _) (Nat.le_of_ble_eq_true rfl) rfl ?_
  refine x_astore d_X7_of_5 (Nat.le_of_ble_eq_true rfl) ?_
  refine x_aload rfl d_X7_of_7 ?_
  refine x_ifnonnull (tgt := 16) d_X7_of_9 (by decide) ?_
  refine x_aload rfl d_X7_of_16 ?_
  refine x_iload_n rfl d_X7_of_18 ?_
  refine x_iload_n rfl d_X7_of_19 ?_
  refine x_rdV d_X7_of_20 lk_7_130 mo_X2_rowWith vi_X2_rowWith (sp_rowWith (cW_q C hp) hr hk) (o2_o (cW_q C hp).1) ⟨_, rfl, rfl⟩ rfl ⟨Nat.le_of_ble_eq_true rfl, Nat.le_of_ble_eq_true rfl⟩ rfl rfl (Nat.zero_le _) (Nat.zero_le _) (Nat.le_of_ble_eq_true rfl) rfl ?_
  refine x_astore d_X7_of_23 (Nat.le_of_ble_eq_true rfl) ?_
  refine x_aload rfl d_X7_of_25 ?_
  refine x_ifnonnull (tgt := 32) d_X7_of_27 (by decide) ?_
  refine x_iload rfl d_X7_of_32 ?_
  refine x_tableIn (off := 93) (tgt := 127) d_X7_of_34 (by decide) (by decide) (by decide) (by decide) ?_
  refine x_aload rfl d_X7_of_127 ?_
  refine x_iload_n rfl d_X7_of_129 ?_
  refine x_iload_n rfl d_X7_of_130 ?_
  refine x_rdV d_X7_of_131 lk_7_159 mo_X2_goneSidesAt vi_X2_goneSidesAt (sp_gsd (cW_q C hp) hr hk) (o2_o (cW_q C hp).1) ⟨_, rfl, rfl⟩ rfl ⟨Nat.le_of_ble_eq_true rfl, Nat.le_of_ble_eq_true rfl⟩ rfl rfl (Nat.zero_le _) (Nat.zero_le _) (Nat.le_of_ble_eq_true rfl) rfl ?_
  exact x_ireturn d_X7_of_134 rfl rfl rfl rfl (Nat.zero_le _) (Nat.zero_le _) (⟨rfl, rfl⟩)
theorem cl_of_4 {h : nPH} {a b : Nat} {V : Nat → Nat → Nat} {P : Nat → Nat → Nat → Nat} {R : Nat → Nat → Nat → Nat → Nat} {E Y T S : Nat → Nat → Nat} (C : cW h a b V P R E Y T S) {p : Nat} (hp : p < V 1 0) {r : Nat} (hr : r < P p 5 0) {k : Nat} (hk : k < R p r 0 0) (hs : 0 < R p r 5 k) : nRd YX7_of [.ref (a), .int (nI (p)), .int (nI (r)), .int (nI (k)), .int (nI (4))] h (.int (nI (R p r 4 k + 0))) := by
  have hn12 := cW_n C
  have hn20 := (cW_q C hp).2.1
  have hrk := ((cW_q C hp).2.2.1 r hr).2.1
  have hpl := hrk.1
  have hkk := hrk.2 k (by omega)
  refine nSp_of (by decide +kernel) rfl (Nat.le_of_ble_eq_true rfl) (ls := [some (.ref (a)), some (.int (nI (p))), some (.int (nI (r))), some (.int (nI (k))), some (.int (nI (4))), none, none]) (by exact (And.intro rfl (And.intro rfl (And.intro rfl (And.intro rfl (And.intro rfl True.intro)))))) ?_
  refine x_aload_n rfl d_X7_of_0 ?_
  refine x_iload_n rfl d_X7_of_1 ?_
  refine x_rdV d_X7_of_2 lk_7_85 mo_X7_panelAt vi_X7_panelAt (sp_pAt C.1.1 (cW_n C) hp) (o7_o C.1.1) ⟨_, rfl, rfl⟩ rfl ⟨Nat.le_of_ble_eq_true rfl, Nat.le_of_ble_eq_true rfl⟩ rfl rfl (Nat.zero_le _) (Nat.zero_le _) (Nat.le_of_ble_eq_true rfl) rfl ?_
  refine x_astore d_X7_of_5 (Nat.le_of_ble_eq_true rfl) ?_
  refine x_aload rfl d_X7_of_7 ?_
  refine x_ifnonnull (tgt := 16) d_X7_of_9 (by decide) ?_
  refine x_aload rfl d_X7_of_16 ?_
  refine x_iload_n rfl d_X7_of_18 ?_
  refine x_iload_n rfl d_X7_of_19 ?_
  refine x_rdV d_X7_of_20 lk_7_130 mo_X2_rowWith vi_X2_rowWith (sp_rowWith (cW_q C hp) hr hk) (o2_o (cW_q C hp).1) ⟨_, rfl, rfl⟩ rfl ⟨Nat.le_of_ble_eq_true rfl, Nat.le_of_ble_eq_true rfl⟩ rfl rfl (Nat.zero_le _) (Nat.zero_le _) (Nat.le_of_ble_eq_true rfl) rfl ?_
  refine x_astore d_X7_of_23 (Nat.le_of_ble_eq_true rfl) ?_
  refine x_aload rfl d_X7_of_25 ?_
  refine x_ifnonnull (tgt := 32) d_X7_of_27 (by decide) ?_
  refine x_iload rfl d_X7_of_32 ?_
  refine x_tableIn (off := 77) (tgt := 111) d_X7_of_34 (by decide) (by decide) (by decide) (by decide) ?_
  refine x_aload rfl d_X7_of_111 ?_
  refine x_iload_n rfl d_X7_of_113 ?_
  refine x_iconst (v := nI 0) (by decide) d_X7_of_114 ?_
  refine x_rdV d_X7_of_115 lk_7_152 mo_X3_placeOfSide vi_X3_placeOfSide (sp_placeIn ((cW_q C hp).2.2.1 r hr).1 hrk (k := k) (by omega) hs) (o3_o ((cW_q C hp).2.2.1 r hr).1) ⟨_, rfl, rfl⟩ rfl ⟨Nat.le_of_ble_eq_true rfl, Nat.le_of_ble_eq_true rfl⟩ rfl rfl (Nat.zero_le _) (Nat.zero_le _) (Nat.le_of_ble_eq_true rfl) rfl ?_
  exact x_ireturn d_X7_of_118 rfl rfl rfl rfl (Nat.zero_le _) (Nat.zero_le _) (⟨rfl, rfl⟩)
theorem cl_of_4N {h : nPH} {a b : Nat} {V : Nat → Nat → Nat} {P : Nat → Nat → Nat → Nat} {R : Nat → Nat → Nat → Nat → Nat} {E Y T S : Nat → Nat → Nat} (C : cW h a b V P R E Y T S) {p : Nat} (hp : p < V 1 0) {r : Nat} (hr : r < P p 5 0) {k : Nat} (hk : k < R p r 0 0) (hs : R p r 5 k = 0) : nRd YX7_of [.ref (a), .int (nI (p)), .int (nI (r)), .int (nI (k)), .int (nI (4))] h (.int (-1)) := by
  have hn12 := cW_n C
  have hn20 := (cW_q C hp).2.1
  have hrk := ((cW_q C hp).2.2.1 r hr).2.1
  have hpl := hrk.1
  have hkk := hrk.2 k (by omega)
  refine nSp_of (by decide +kernel) rfl (Nat.le_of_ble_eq_true rfl) (ls := [some (.ref (a)), some (.int (nI (p))), some (.int (nI (r))), some (.int (nI (k))), some (.int (nI (4))), none, none]) (by exact (And.intro rfl (And.intro rfl (And.intro rfl (And.intro rfl (And.intro rfl True.intro)))))) ?_
  refine x_aload_n rfl d_X7_of_0 ?_
  refine x_iload_n rfl d_X7_of_1 ?_
  refine x_rdV d_X7_of_2 lk_7_85 mo_X7_panelAt vi_X7_panelAt (sp_pAt C.1.1 (cW_n C) hp) (o7_o C.1.1) ⟨_, rfl, rfl⟩ rfl ⟨Nat.le_of_ble_eq_true rfl, Nat.le_of_ble_eq_true rfl⟩ rfl rfl (Nat.zero_le _) (Nat.zero_le _) (Nat.le_of_ble_eq_true rfl) rfl ?_
  refine x_astore d_X7_of_5 (Nat.le_of_ble_eq_true rfl) ?_
  refine x_aload rfl d_X7_of_7 ?_
  refine x_ifnonnull (tgt := 16) d_X7_of_9 (by decide) ?_
  refine x_aload rfl d_X7_of_16 ?_
  refine x_iload_n rfl d_X7_of_18 ?_
  refine x_iload_n rfl d_X7_of_19 ?_
  refine x_rdV d_X7_of_20 lk_7_130 mo_X2_rowWith vi_X2_rowWith (sp_rowWith (cW_q C hp) hr hk) (o2_o (cW_q C hp).1) ⟨_, rfl, rfl⟩ rfl ⟨Nat.le_of_ble_eq_true rfl, Nat.le_of_ble_eq_true rfl⟩ rfl rfl (Nat.zero_le _) (Nat.zero_le _) (Nat.le_of_ble_eq_true rfl) rfl ?_
  refine x_astore d_X7_of_23 (Nat.le_of_ble_eq_true rfl) ?_
  refine x_aload rfl d_X7_of_25 ?_
  refine x_ifnonnull (tgt := 32) d_X7_of_27 (by decide) ?_
  refine x_iload rfl d_X7_of_32 ?_
  refine x_tableIn (off := 77) (tgt := 111) d_X7_of_34 (by decide) (by decide) (by decide) (by decide) ?_
  refine x_aload rfl d_X7_of_111 ?_
  refine x_iload_n rfl d_X7_of_113 ?_
  refine x_iconst (v := nI 0) (by decide) d_X7_of_114 ?_
  refine x_rdV d_X7_of_115 lk_7_152 mo_X3_placeOfSide vi_X3_placeOfSide (sp_placeOut ((cW_q C hp).2.2.1 r hr).1 hrk (k := k) (by omega) (s := nI 0) (fun z => by rw [hs] at z; exact absurd z.2 (by decide))) (o3_o ((cW_q C hp).2.2.1 r hr).1) ⟨_, rfl, rfl⟩ rfl ⟨Nat.le_of_ble_eq_true rfl, Nat.le_of_ble_eq_true rfl⟩ rfl rfl (Nat.zero_le _) (Nat.zero_le _) (Nat.le_of_ble_eq_true rfl) rfl ?_
  exact x_ireturn d_X7_of_118 rfl rfl rfl rfl (Nat.zero_le _) (Nat.zero_le _) (⟨rfl, rfl⟩)
theorem cl_of_s {h : nPH} {a b : Nat} {V : Nat → Nat → Nat} {P : Nat → Nat → Nat → Nat} {R : Nat → Nat → Nat → Nat → Nat} {E Y T S : Nat → Nat → Nat} (C : cW h a b V P R E Y T S) {p : Nat} (hp : p < V 1 0) {r : Nat} (hr : r < P p 5 0) {k : Nat} (hk : k < R p r 0 0) {c : Nat} (hc : 10 ≤ c) (hc2 : c < 2 ^ 31) (hs : c - 10 < R p r 5 k) : nRd YX7_of [.ref (a), .int (nI (p)), .int (nI (r)), .int (nI (k)), .int (nI (c))] h (.int (nI (R p r 4 k + (c - 10)))) := by
  have hn12 := cW_n C
  have hn20 := (cW_q C hp).2.1
  have hrk := ((cW_q C hp).2.2.1 r hr).2.1
  have hpl := hrk.1
  have hkk := hrk.2 k (by omega)
  refine nSp_of (by decide +kernel) rfl (Nat.le_of_ble_eq_true rfl) (ls := [some (.ref (a)), some (.int (nI (p))), some (.int (nI (r))), some (.int (nI (k))), some (.int (nI (c))), none, none]) (by exact (And.intro rfl (And.intro rfl (And.intro rfl (And.intro rfl (And.intro rfl True.intro)))))) ?_
  refine x_aload_n rfl d_X7_of_0 ?_
  refine x_iload_n rfl d_X7_of_1 ?_
  refine x_rdV d_X7_of_2 lk_7_85 mo_X7_panelAt vi_X7_panelAt (sp_pAt C.1.1 (cW_n C) hp) (o7_o C.1.1) ⟨_, rfl, rfl⟩ rfl ⟨Nat.le_of_ble_eq_true rfl, Nat.le_of_ble_eq_true rfl⟩ rfl rfl (Nat.zero_le _) (Nat.zero_le _) (Nat.le_of_ble_eq_true rfl) rfl ?_
  refine x_astore d_X7_of_5 (Nat.le_of_ble_eq_true rfl) ?_
  refine x_aload rfl d_X7_of_7 ?_
  refine x_ifnonnull (tgt := 16) d_X7_of_9 (by decide) ?_
  refine x_aload rfl d_X7_of_16 ?_
  refine x_iload_n rfl d_X7_of_18 ?_
  refine x_iload_n rfl d_X7_of_19 ?_
  refine x_rdV d_X7_of_20 lk_7_130 mo_X2_rowWith vi_X2_rowWith (sp_rowWith (cW_q C hp) hr hk) (o2_o (cW_q C hp).1) ⟨_, rfl, rfl⟩ rfl ⟨Nat.le_of_ble_eq_true rfl, Nat.le_of_ble_eq_true rfl⟩ rfl rfl (Nat.zero_le _) (Nat.zero_le _) (Nat.le_of_ble_eq_true rfl) rfl ?_
  refine x_astore d_X7_of_23 (Nat.le_of_ble_eq_true rfl) ?_
  refine x_aload rfl d_X7_of_25 ?_
  refine x_ifnonnull (tgt := 32) d_X7_of_27 (by decide) ?_
  refine x_iload rfl d_X7_of_32 ?_
  refine x_tableOut (tgt := 135) d_X7_of_34 (Or.inr (by rw [nI_toInt hc2]; omega)) (by decide) ?_
  refine x_iload rfl d_X7_of_135 ?_
  refine x_bipush (v := nI 10) (by decide) d_X7_of_137 ?_
  refine x_icmp_geN (tgt := 146) d_X7_of_139 (by decide) (by first | omega | decide) (by first | omega | decide) (fun c_1 => ?_) (fun c_1 => by exfalso; omega)
  refine x_aload rfl d_X7_of_146 ?_
  refine x_iload_n rfl d_X7_of_148 ?_
  refine x_iload rfl d_X7_of_149 ?_
  refine x_bipush (v := nI 10) (by decide) d_X7_of_151 ?_
  refine x_isubN d_X7_of_153 (by omega) ?_
  refine x_rdV d_X7_of_154 lk_7_152 mo_X3_placeOfSide vi_X3_placeOfSide (sp_placeIn ((cW_q C hp).2.2.1 r hr).1 hrk (k := k) (by omega) hs) (o3_o ((cW_q C hp).2.2.1 r hr).1) ⟨_, rfl, rfl⟩ rfl ⟨Nat.le_of_ble_eq_true rfl, Nat.le_of_ble_eq_true rfl⟩ rfl rfl (Nat.zero_le _) (Nat.zero_le _) (Nat.le_of_ble_eq_true rfl) rfl ?_
  exact x_ireturn d_X7_of_157 rfl rfl rfl rfl (Nat.zero_le _) (Nat.zero_le _) (⟨rfl, rfl⟩)
theorem cl_of_sN {h : nPH} {a b : Nat} {V : Nat → Nat → Nat} {P : Nat → Nat → Nat → Nat} {R : Nat → Nat → Nat → Nat → Nat} {E Y T S : Nat → Nat → Nat} (C : cW h a b V P R E Y T S) {p : Nat} (hp : p < V 1 0) {r : Nat} (hr : r < P p 5 0) {k : Nat} (hk : k < R p r 0 0) {c : Nat} (hc : 10 ≤ c) (hc2 : c < 2 ^ 31) (hs : R p r 5 k ≤ c - 10) : nRd YX7_of [.ref (a), .int (nI (p)), .int (nI (r)), .int (nI (k)), .int (nI (c))] h (.int (-1)) := by
  have hn12 := cW_n C
  have hn20 := (cW_q C hp).2.1
  have hrk := ((cW_q C hp).2.2.1 r hr).2.1
  have hpl := hrk.1
  have hkk := hrk.2 k (by omega)
  refine nSp_of (by decide +kernel) rfl (Nat.le_of_ble_eq_true rfl) (ls := [some (.ref (a)), some (.int (nI (p))), some (.int (nI (r))), some (.int (nI (k))), some (.int (nI (c))), none, none]) (by exact (And.intro rfl (And.intro rfl (And.intro rfl (And.intro rfl (And.intro rfl True.intro)))))) ?_
  refine x_aload_n rfl d_X7_of_0 ?_
  refine x_iload_n rfl d_X7_of_1 ?_
  refine x_rdV d_X7_of_2 lk_7_85 mo_X7_panelAt vi_X7_panelAt (sp_pAt C.1.1 (cW_n C) hp) (o7_o C.1.1) ⟨_, rfl, rfl⟩ rfl ⟨Nat.le_of_ble_eq_true rfl, Nat.le_of_ble_eq_true rfl⟩ rfl rfl (Nat.zero_le _) (Nat.zero_le _) (Nat.le_of_ble_eq_true rfl) rfl ?_
  refine x_astore d_X7_of_5 (Nat.le_of_ble_eq_true rfl) ?_
  refine x_aload rfl d_X7_of_7 ?_
  refine x_ifnonnull (tgt := 16) d_X7_of_9 (by decide) ?_
  refine x_aload rfl d_X7_of_16 ?_
  refine x_iload_n rfl d_X7_of_18 ?_
  refine x_iload_n rfl d_X7_of_19 ?_
  refine x_rdV d_X7_of_20 lk_7_130 mo_X2_rowWith vi_X2_rowWith (sp_rowWith (cW_q C hp) hr hk) (o2_o (cW_q C hp).1) ⟨_, rfl, rfl⟩ rfl ⟨Nat.le_of_ble_eq_true rfl, Nat.le_of_ble_eq_true rfl⟩ rfl rfl (Nat.zero_le _) (Nat.zero_le _) (Nat.le_of_ble_eq_true rfl) rfl ?_
  refine x_astore d_X7_of_23 (Nat.le_of_ble_eq_true rfl) ?_
  refine x_aload rfl d_X7_of_25 ?_
  refine x_ifnonnull (tgt := 32) d_X7_of_27 (by decide) ?_
  refine x_iload rfl d_X7_of_32 ?_
  refine x_tableOut (tgt := 135) d_X7_of_34 (Or.inr (by rw [nI_toInt hc2]; omega)) (by decide) ?_
  refine x_iload rfl d_X7_of_135 ?_
  refine x_bipush (v := nI 10) (by decide) d_X7_of_137 ?_
  refine x_icmp_geN (tgt := 146) d_X7_of_139 (by decide) (by first | omega | decide) (by first | omega | decide) (fun c_1 => ?_) (fun c_1 => by exfalso; omega)
  refine x_aload rfl d_X7_of_146 ?_
  refine x_iload_n rfl d_X7_of_148 ?_
  refine x_iload rfl d_X7_of_149 ?_
  refine x_bipush (v := nI 10) (by decide) d_X7_of_151 ?_
  refine x_isubN d_X7_of_153 (by omega) ?_
  refine x_rdV d_X7_of_154 lk_7_152 mo_X3_placeOfSide vi_X3_placeOfSide (sp_placeOut ((cW_q C hp).2.2.1 r hr).1 hrk (k := k) (by omega) (s := nI (c - 10)) (fun z => by have := (nIn_nI (by omega)).mp z; omega)) (o3_o ((cW_q C hp).2.2.1 r hr).1) ⟨_, rfl, rfl⟩ rfl ⟨Nat.le_of_ble_eq_true rfl, Nat.le_of_ble_eq_true rfl⟩ rfl rfl (Nat.zero_le _) (Nat.zero_le _) (Nat.le_of_ble_eq_true rfl) rfl ?_
  exact x_ireturn d_X7_of_157 rfl rfl rfl rfl (Nat.zero_le _) (Nat.zero_le _) (⟨rfl, rfl⟩)
theorem cl_of_n {h : nPH} {a b : Nat} {V : Nat → Nat → Nat} {P : Nat → Nat → Nat → Nat} {R : Nat → Nat → Nat → Nat → Nat} {E Y T S : Nat → Nat → Nat} (C : cW h a b V P R E Y T S) {p : Nat} (hp : p < V 1 0) {r : Nat} (hr : r < P p 5 0) {k : Nat} (hk : k < R p r 0 0) {c : Int32} (hq : c.toInt < 0 ∨ 6 < c.toInt) (hc : ¬ nI 10 ≤ c) : nRd YX7_of [.ref (a), .int (nI (p)), .int (nI (r)), .int (nI (k)), .int (c)] h (.int (-1)) := by
  have hn12 := cW_n C
  have hn20 := (cW_q C hp).2.1
  have hrk := ((cW_q C hp).2.2.1 r hr).2.1
  have hpl := hrk.1
  have hkk := hrk.2 k (by omega)
  refine nSp_of (by decide +kernel) rfl (Nat.le_of_ble_eq_true rfl) (ls := [some (.ref (a)), some (.int (nI (p))), some (.int (nI (r))), some (.int (nI (k))), some (.int (c)), none, none]) (by exact (And.intro rfl (And.intro rfl (And.intro rfl (And.intro rfl (And.intro rfl True.intro)))))) ?_
  refine x_aload_n rfl d_X7_of_0 ?_
  refine x_iload_n rfl d_X7_of_1 ?_
  refine x_rdV d_X7_of_2 lk_7_85 mo_X7_panelAt vi_X7_panelAt (sp_pAt C.1.1 (cW_n C) hp) (o7_o C.1.1) ⟨_, rfl, rfl⟩ rfl ⟨Nat.le_of_ble_eq_true rfl, Nat.le_of_ble_eq_true rfl⟩ rfl rfl (Nat.zero_le _) (Nat.zero_le _) (Nat.le_of_ble_eq_true rfl) rfl ?_
  refine x_astore d_X7_of_5 (Nat.le_of_ble_eq_true rfl) ?_
  refine x_aload rfl d_X7_of_7 ?_
  refine x_ifnonnull (tgt := 16) d_X7_of_9 (by decide) ?_
  refine x_aload rfl d_X7_of_16 ?_
  refine x_iload_n rfl d_X7_of_18 ?_
  refine x_iload_n rfl d_X7_of_19 ?_
  refine x_rdV d_X7_of_20 lk_7_130 mo_X2_rowWith vi_X2_rowWith (sp_rowWith (cW_q C hp) hr hk) (o2_o (cW_q C hp).1) ⟨_, rfl, rfl⟩ rfl ⟨Nat.le_of_ble_eq_true rfl, Nat.le_of_ble_eq_true rfl⟩ rfl rfl (Nat.zero_le _) (Nat.zero_le _) (Nat.le_of_ble_eq_true rfl) rfl ?_
  refine x_astore d_X7_of_23 (Nat.le_of_ble_eq_true rfl) ?_
  refine x_aload rfl d_X7_of_25 ?_
  refine x_ifnonnull (tgt := 32) d_X7_of_27 (by decide) ?_
  refine x_iload rfl d_X7_of_32 ?_
  refine x_tableOut (tgt := 135) d_X7_of_34 hq (by decide) ?_
  refine x_iload rfl d_X7_of_135 ?_
  refine x_bipush (v := nI 10) (by decide) d_X7_of_137 ?_
  refine x_icmp_ge (tgt := 146) d_X7_of_139 (by decide) (fun c_1 => by exfalso; exact hc c_1) (fun c_1 => ?_)
  refine x_iconst (v := -1) (by decide) d_X7_of_142 ?_
  refine x_goto (tgt := 157) d_X7_of_143 (by decide) ?_
  exact x_ireturn d_X7_of_157 rfl rfl rfl rfl (Nat.zero_le _) (Nat.zero_le _) (⟨rfl, rfl⟩)
theorem cl_ofP {h : nPH} {a b : Nat} {V : Nat → Nat → Nat} {P : Nat → Nat → Nat → Nat} {R : Nat → Nat → Nat → Nat → Nat} {E Y T S : Nat → Nat → Nat} (C : cW h a b V P R E Y T S) {p : Int32} (hp : ¬ nIn p (V 1 0)) {r k c : Int32} : nRd YX7_of [.ref (a), .int (p), .int (r), .int (k), .int (c)] h (.int (-1)) := by
  refine nSp_of (by decide +kernel) rfl (Nat.le_of_ble_eq_true rfl) (ls := [some (.ref (a)), some (.int (p)), some (.int (r)), some (.int (k)), some (.int (c)), none, none]) (by exact (And.intro rfl (And.intro rfl (And.intro rfl (And.intro rfl (And.intro rfl True.intro)))))) ?_
  refine x_aload_n rfl d_X7_of_0 ?_
  refine x_iload_n rfl d_X7_of_1 ?_
  refine x_rdV d_X7_of_2 lk_7_85 mo_X7_panelAt vi_X7_panelAt (sp_pAtN C.1.1 (cW_n C) hp) (o7_o C.1.1) ⟨_, rfl, rfl⟩ rfl ⟨Nat.le_of_ble_eq_true rfl, Nat.le_of_ble_eq_true rfl⟩ rfl rfl (Nat.zero_le _) (Nat.zero_le _) (Nat.le_of_ble_eq_true rfl) rfl ?_
  refine x_astoreN d_X7_of_5 (Nat.le_of_ble_eq_true rfl) ?_
  refine x_aloadN rfl d_X7_of_7 ?_
  refine x_ifnonnullN d_X7_of_9 ?_
  refine x_null d_X7_of_12 ?_
  refine x_goto (tgt := 23) d_X7_of_13 (by decide) ?_
  refine x_astoreN d_X7_of_23 (Nat.le_of_ble_eq_true rfl) ?_
  refine x_aloadN rfl d_X7_of_25 ?_
  refine x_ifnonnullN d_X7_of_27 ?_
  refine x_iconst (v := -1) (by decide) d_X7_of_30 ?_
  exact x_ireturn d_X7_of_31 rfl rfl rfl rfl (Nat.zero_le _) (Nat.zero_le _) (⟨rfl, rfl⟩)
theorem cl_ofO {h : nPH} {a b : Nat} {V : Nat → Nat → Nat} {P : Nat → Nat → Nat → Nat} {R : Nat → Nat → Nat → Nat → Nat} {E Y T S : Nat → Nat → Nat} (C : cW h a b V P R E Y T S) {p : Nat} (hp : p < V 1 0) {r k : Int32} (hO : rOff (P p 5 0) (R p) r k) {c : Int32} : nRd YX7_of [.ref (a), .int (nI (p)), .int (r), .int (k), .int (c)] h (.int (-1)) := by
  have hn12 := cW_n C
  have hn20 := (cW_q C hp).2.1
  refine nSp_of (by decide +kernel) rfl (Nat.le_of_ble_eq_true rfl) (ls := [some (.ref (a)), some (.int (nI (p))), some (.int (r)), some (.int (k)), some (.int (c)), none, none]) (by exact (And.intro rfl (And.intro rfl (And.intro rfl (And.intro rfl (And.intro rfl True.intro)))))) ?_
  refine x_aload_n rfl d_X7_of_0 ?_
  refine x_iload_n rfl d_X7_of_1 ?_
  refine x_rdV d_X7_of_2 lk_7_85 mo_X7_panelAt vi_X7_panelAt (sp_pAt C.1.1 (cW_n C) hp) (o7_o C.1.1) ⟨_, rfl, rfl⟩ rfl ⟨Nat.le_of_ble_eq_true rfl, Nat.le_of_ble_eq_true rfl⟩ rfl rfl (Nat.zero_le _) (Nat.zero_le _) (Nat.le_of_ble_eq_true rfl) rfl ?_
  refine x_astore d_X7_of_5 (Nat.le_of_ble_eq_true rfl) ?_
  refine x_aload rfl d_X7_of_7 ?_
  refine x_ifnonnull (tgt := 16) d_X7_of_9 (by decide) ?_
  refine x_aload rfl d_X7_of_16 ?_
  refine x_iload_n rfl d_X7_of_18 ?_
  refine x_iload_n rfl d_X7_of_19 ?_
  refine x_rdV d_X7_of_20 lk_7_130 mo_X2_rowWith vi_X2_rowWith (sp_rowWithO (cW_q C hp) hO) (o2_o (cW_q C hp).1) ⟨_, rfl, rfl⟩ rfl ⟨Nat.le_of_ble_eq_true rfl, Nat.le_of_ble_eq_true rfl⟩ rfl rfl (Nat.zero_le _) (Nat.zero_le _) (Nat.le_of_ble_eq_true rfl) rfl ?_
  refine x_astoreN d_X7_of_23 (Nat.le_of_ble_eq_true rfl) ?_
  refine x_aloadN rfl d_X7_of_25 ?_
  refine x_ifnonnullN d_X7_of_27 ?_
  refine x_iconst (v := -1) (by decide) d_X7_of_30 ?_
  exact x_ireturn d_X7_of_31 rfl rfl rfl rfl (Nat.zero_le _) (Nat.zero_le _) (⟨rfl, rfl⟩)
theorem cl_pOf_0 {h : nPH} {a b : Nat} {V : Nat → Nat → Nat} {P : Nat → Nat → Nat → Nat} {R : Nat → Nat → Nat → Nat → Nat} {E Y T S : Nat → Nat → Nat} (C : cW h a b V P R E Y T S) {p : Nat} (hp : p < V 1 0) : nRd YX7_panelOf [.ref (a), .int (nI (p)), .int (nI (0))] h (.int (nI (P p 5 0))) := by
  have hn12 := cW_n C
  have hn20 := (cW_q C hp).2.1
  refine nSp_of (by decide +kernel) rfl (Nat.le_of_ble_eq_true rfl) (ls := [some (.ref (a)), some (.int (nI (p))), some (.int (nI (0))), none]) (by exact (And.intro rfl (And.intro rfl (And.intro rfl True.intro)))) ?_
  refine x_aload_n rfl d_X7_panelOf_0 ?_
  refine x_iload_n rfl d_X7_panelOf_1 ?_
  refine x_rdV d_X7_panelOf_2 lk_7_85 mo_X7_panelAt vi_X7_panelAt (sp_pAt C.1.1 (cW_n C) hp) (o7_o C.1.1) ⟨_, rfl, rfl⟩ rfl ⟨Nat.le_of_ble_eq_true rfl, Nat.le_of_ble_eq_true rfl⟩ rfl rfl (Nat.zero_le _) (Nat.zero_le _) (Nat.le_of_ble_eq_true rfl) rfl ?_
  refine x_astore_n d_X7_panelOf_5 (Nat.le_of_ble_eq_true rfl) ?_
  refine x_aload_n rfl d_X7_panelOf_6 ?_
  refine x_ifnonnull (tgt := 12) d_X7_panelOf_7 (by decide) ?_
  refine x_iload_n rfl d_X7_panelOf_12 ?_
  refine x_tableIn (off := 35) (tgt := 48) d_X7_panelOf_13 (by decide) (by decide) (by decide) (by decide) ?_
  refine x_aload_n rfl d_X7_panelOf_48 ?_
  refine x_getf co_all (v := .int (nI ((P p) 5 0))) d_X7_panelOf_49 fk_7_162 (o2_o (cW_q C hp).1) rfl ?_
  exact x_ireturn d_X7_panelOf_52 rfl rfl rfl rfl (Nat.zero_le _) (Nat.zero_le _) (⟨rfl, rfl⟩)
theorem cl_pOf_1 {h : nPH} {a b : Nat} {V : Nat → Nat → Nat} {P : Nat → Nat → Nat → Nat} {R : Nat → Nat → Nat → Nat → Nat} {E Y T S : Nat → Nat → Nat} (C : cW h a b V P R E Y T S) {p : Nat} (hp : p < V 1 0) : nRd YX7_panelOf [.ref (a), .int (nI (p)), .int (nI (1))] h (.int (nI (P p 0 0))) := by
  have hn12 := cW_n C
  have hn20 := (cW_q C hp).2.1
  refine nSp_of (by decide +kernel) rfl (Nat.le_of_ble_eq_true rfl) (ls := [some (.ref (a)), some (.int (nI (p))), some (.int (nI (1))), none]) (by exact (And.intro rfl (And.intro rfl (And.intro rfl True.intro)))) ?_
  refine x_aload_n rfl d_X7_panelOf_0 ?_
  refine x_iload_n rfl d_X7_panelOf_1 ?_
  refine x_rdV d_X7_panelOf_2 lk_7_85 mo_X7_panelAt vi_X7_panelAt (sp_pAt C.1.1 (cW_n C) hp) (o7_o C.1.1) ⟨_, rfl, rfl⟩ rfl ⟨Nat.le_of_ble_eq_true rfl, Nat.le_of_ble_eq_true rfl⟩ rfl rfl (Nat.zero_le _) (Nat.zero_le _) (Nat.le_of_ble_eq_true rfl) rfl ?_
  refine x_astore_n d_X7_panelOf_5 (Nat.le_of_ble_eq_true rfl) ?_
  refine x_aload_n rfl d_X7_panelOf_6 ?_
  refine x_ifnonnull (tgt := 12) d_X7_panelOf_7 (by decide) ?_
  refine x_iload_n rfl d_X7_panelOf_12 ?_
  refine x_tableIn (off := 40) (tgt := 53) d_X7_panelOf_13 (by decide) (by decide) (by decide) (by decide) ?_
  refine x_aload_n rfl d_X7_panelOf_53 ?_
  refine x_getf co_all (v := .int (nI ((P p) 0 0))) d_X7_panelOf_54 fk_7_165 (o2_o (cW_q C hp).1) rfl ?_
  exact x_ireturn d_X7_panelOf_57 rfl rfl rfl rfl (Nat.zero_le _) (Nat.zero_le _) (⟨rfl, rfl⟩)
theorem cl_pOf_2 {h : nPH} {a b : Nat} {V : Nat → Nat → Nat} {P : Nat → Nat → Nat → Nat} {R : Nat → Nat → Nat → Nat → Nat} {E Y T S : Nat → Nat → Nat} (C : cW h a b V P R E Y T S) {p : Nat} (hp : p < V 1 0) : nRd YX7_panelOf [.ref (a), .int (nI (p)), .int (nI (2))] h (.int (nI (P p 1 0))) := by
  have hn12 := cW_n C
  have hn20 := (cW_q C hp).2.1
  refine nSp_of (by decide +kernel) rfl (Nat.le_of_ble_eq_true rfl) (ls := [some (.ref (a)), some (.int (nI (p))), some (.int (nI (2))), none]) (by exact (And.intro rfl (And.intro rfl (And.intro rfl True.intro)))) ?_
  refine x_aload_n rfl d_X7_panelOf_0 ?_
  refine x_iload_n rfl d_X7_panelOf_1 ?_
  refine x_rdV d_X7_panelOf_2 lk_7_85 mo_X7_panelAt vi_X7_panelAt (sp_pAt C.1.1 (cW_n C) hp) (o7_o C.1.1) ⟨_, rfl, rfl⟩ rfl ⟨Nat.le_of_ble_eq_true rfl, Nat.le_of_ble_eq_true rfl⟩ rfl rfl (Nat.zero_le _) (Nat.zero_le _) (Nat.le_of_ble_eq_true rfl) rfl ?_
  refine x_astore_n d_X7_panelOf_5 (Nat.le_of_ble_eq_true rfl) ?_
  refine x_aload_n rfl d_X7_panelOf_6 ?_
  refine x_ifnonnull (tgt := 12) d_X7_panelOf_7 (by decide) ?_
  refine x_iload_n rfl d_X7_panelOf_12 ?_
  refine x_tableIn (off := 45) (tgt := 58) d_X7_panelOf_13 (by decide) (by decide) (by decide) (by decide) ?_
  refine x_aload_n rfl d_X7_panelOf_58 ?_
  refine x_getf co_all (v := .int (nI ((P p) 1 0))) d_X7_panelOf_59 fk_7_168 (o2_o (cW_q C hp).1) rfl ?_
  exact x_ireturn d_X7_panelOf_62 rfl rfl rfl rfl (Nat.zero_le _) (Nat.zero_le _) (⟨rfl, rfl⟩)
theorem cl_pOf_3 {h : nPH} {a b : Nat} {V : Nat → Nat → Nat} {P : Nat → Nat → Nat → Nat} {R : Nat → Nat → Nat → Nat → Nat} {E Y T S : Nat → Nat → Nat} (C : cW h a b V P R E Y T S) {p : Nat} (hp : p < V 1 0) : nRd YX7_panelOf [.ref (a), .int (nI (p)), .int (nI (3))] h (.int (nI (P p 2 0))) := by
  have hn12 := cW_n C
  have hn20 := (cW_q C hp).2.1
  refine nSp_of (by decide +kernel) rfl (Nat.le_of_ble_eq_true rfl) (ls := [some (.ref (a)), some (.int (nI (p))), some (.int (nI (3))), none]) (by exact (And.intro rfl (And.intro rfl (And.intro rfl True.intro)))) ?_
  refine x_aload_n rfl d_X7_panelOf_0 ?_
  refine x_iload_n rfl d_X7_panelOf_1 ?_
  refine x_rdV d_X7_panelOf_2 lk_7_85 mo_X7_panelAt vi_X7_panelAt (sp_pAt C.1.1 (cW_n C) hp) (o7_o C.1.1) ⟨_, rfl, rfl⟩ rfl ⟨Nat.le_of_ble_eq_true rfl, Nat.le_of_ble_eq_true rfl⟩ rfl rfl (Nat.zero_le _) (Nat.zero_le _) (Nat.le_of_ble_eq_true rfl) rfl ?_
  refine x_astore_n d_X7_panelOf_5 (Nat.le_of_ble_eq_true rfl) ?_
  refine x_aload_n rfl d_X7_panelOf_6 ?_
  refine x_ifnonnull (tgt := 12) d_X7_panelOf_7 (by decide) ?_
  refine x_iload_n rfl d_X7_panelOf_12 ?_
  refine x_tableIn (off := 50) (tgt := 63) d_X7_panelOf_13 (by decide) (by decide) (by decide) (by decide) ?_
  refine x_aload_n rfl d_X7_panelOf_63 ?_
  refine x_getf co_all (v := .int (nI ((P p) 2 0))) d_X7_panelOf_64 fk_7_171 (o2_o (cW_q C hp).1) rfl ?_
  exact x_ireturn d_X7_panelOf_67 rfl rfl rfl rfl (Nat.zero_le _) (Nat.zero_le _) (⟨rfl, rfl⟩)
theorem cl_pOf_4 {h : nPH} {a b : Nat} {V : Nat → Nat → Nat} {P : Nat → Nat → Nat → Nat} {R : Nat → Nat → Nat → Nat → Nat} {E Y T S : Nat → Nat → Nat} (C : cW h a b V P R E Y T S) {p : Nat} (hp : p < V 1 0) : nRd YX7_panelOf [.ref (a), .int (nI (p)), .int (nI (4))] h (.int (nI (P p 3 0))) := by
  have hn12 := cW_n C
  have hn20 := (cW_q C hp).2.1
  refine nSp_of (by decide +kernel) rfl (Nat.le_of_ble_eq_true rfl) (ls := [some (.ref (a)), some (.int (nI (p))), some (.int (nI (4))), none]) (by exact (And.intro rfl (And.intro rfl (And.intro rfl True.intro)))) ?_
  refine x_aload_n rfl d_X7_panelOf_0 ?_
  refine x_iload_n rfl d_X7_panelOf_1 ?_
  refine x_rdV d_X7_panelOf_2 lk_7_85 mo_X7_panelAt vi_X7_panelAt (sp_pAt C.1.1 (cW_n C) hp) (o7_o C.1.1) ⟨_, rfl, rfl⟩ rfl ⟨Nat.le_of_ble_eq_true rfl, Nat.le_of_ble_eq_true rfl⟩ rfl rfl (Nat.zero_le _) (Nat.zero_le _) (Nat.le_of_ble_eq_true rfl) rfl ?_
  refine x_astore_n d_X7_panelOf_5 (Nat.le_of_ble_eq_true rfl) ?_
  refine x_aload_n rfl d_X7_panelOf_6 ?_
  refine x_ifnonnull (tgt := 12) d_X7_panelOf_7 (by decide) ?_
  refine x_iload_n rfl d_X7_panelOf_12 ?_
  refine x_tableIn (off := 55) (tgt := 68) d_X7_panelOf_13 (by decide) (by decide) (by decide) (by decide) ?_
  refine x_aload_n rfl d_X7_panelOf_68 ?_
  refine x_getf co_all (v := .int (nI ((P p) 3 0))) d_X7_panelOf_69 fk_7_174 (o2_o (cW_q C hp).1) rfl ?_
  exact x_ireturn d_X7_panelOf_72 rfl rfl rfl rfl (Nat.zero_le _) (Nat.zero_le _) (⟨rfl, rfl⟩)
theorem cl_pOf_t {h : nPH} {a b : Nat} {V : Nat → Nat → Nat} {P : Nat → Nat → Nat → Nat} {R : Nat → Nat → Nat → Nat → Nat} {E Y T S : Nat → Nat → Nat} (C : cW h a b V P R E Y T S) {p : Nat} (hp : p < V 1 0) {c : Nat} (h1 : 5 ≤ c) (h2 : c ≤ 8) : nRd YX7_panelOf [.ref (a), .int (nI (p)), .int (nI (c))] h (.int (nI (tot (P p) (R p) c (P p 5 0)))) := by
  have hn12 := cW_n C
  have hn20 := (cW_q C hp).2.1
  refine nSp_of (by decide +kernel) rfl (Nat.le_of_ble_eq_true rfl) (ls := [some (.ref (a)), some (.int (nI (p))), some (.int (nI (c))), none]) (by exact (And.intro rfl (And.intro rfl (And.intro rfl True.intro)))) ?_
  refine x_aload_n rfl d_X7_panelOf_0 ?_
  refine x_iload_n rfl d_X7_panelOf_1 ?_
  refine x_rdV d_X7_panelOf_2 lk_7_85 mo_X7_panelAt vi_X7_panelAt (sp_pAt C.1.1 (cW_n C) hp) (o7_o C.1.1) ⟨_, rfl, rfl⟩ rfl ⟨Nat.le_of_ble_eq_true rfl, Nat.le_of_ble_eq_true rfl⟩ rfl rfl (Nat.zero_le _) (Nat.zero_le _) (Nat.le_of_ble_eq_true rfl) rfl ?_
  refine x_astore_n d_X7_panelOf_5 (Nat.le_of_ble_eq_true rfl) ?_
  refine x_aload_n rfl d_X7_panelOf_6 ?_
  refine x_ifnonnull (tgt := 12) d_X7_panelOf_7 (by decide) ?_
  refine x_iload_n rfl d_X7_panelOf_12 ?_
  refine x_tableOut (tgt := 73) d_X7_panelOf_13 (Or.inr (by rw [nI_toInt (by omega)]; omega)) (by decide) ?_
  refine x_aload_n rfl d_X7_panelOf_73 ?_
  refine x_iload_n rfl d_X7_panelOf_74 ?_
  refine x_rdV d_X7_panelOf_75 lk_7_177 mo_X2_totalOf vi_X2_totalOf (sp_tot (cW_q C hp) h1 h2) (o2_o (cW_q C hp).1) ⟨_, rfl, rfl⟩ rfl ⟨Nat.le_of_ble_eq_true rfl, Nat.le_of_ble_eq_true rfl⟩ rfl rfl (Nat.zero_le _) (Nat.zero_le _) (Nat.le_of_ble_eq_true rfl) rfl ?_
  exact x_ireturn d_X7_panelOf_78 rfl rfl rfl rfl (Nat.zero_le _) (Nat.zero_le _) (⟨rfl, rfl⟩)
theorem cl_pOf_n {h : nPH} {a b : Nat} {V : Nat → Nat → Nat} {P : Nat → Nat → Nat → Nat} {R : Nat → Nat → Nat → Nat → Nat} {E Y T S : Nat → Nat → Nat} (C : cW h a b V P R E Y T S) {p : Nat} (hp : p < V 1 0) {c : Int32} (hq : c.toInt < 0 ∨ 4 < c.toInt) (hc : ¬ (nI 5 ≤ c ∧ c ≤ nI 8)) : nRd YX7_panelOf [.ref (a), .int (nI (p)), .int (c)] h (.int (-1)) := by
  have hn12 := cW_n C
  have hn20 := (cW_q C hp).2.1
  refine nSp_of (by decide +kernel) rfl (Nat.le_of_ble_eq_true rfl) (ls := [some (.ref (a)), some (.int (nI (p))), some (.int (c)), none]) (by exact (And.intro rfl (And.intro rfl (And.intro rfl True.intro)))) ?_
  refine x_aload_n rfl d_X7_panelOf_0 ?_
  refine x_iload_n rfl d_X7_panelOf_1 ?_
  refine x_rdV d_X7_panelOf_2 lk_7_85 mo_X7_panelAt vi_X7_panelAt (sp_pAt C.1.1 (cW_n C) hp) (o7_o C.1.1) ⟨_, rfl, rfl⟩ rfl ⟨Nat.le_of_ble_eq_true rfl, Nat.le_of_ble_eq_true rfl⟩ rfl rfl (Nat.zero_le _) (Nat.zero_le _) (Nat.le_of_ble_eq_true rfl) rfl ?_
  refine x_astore_n d_X7_panelOf_5 (Nat.le_of_ble_eq_true rfl) ?_
  refine x_aload_n rfl d_X7_panelOf_6 ?_
  refine x_ifnonnull (tgt := 12) d_X7_panelOf_7 (by decide) ?_
  refine x_iload_n rfl d_X7_panelOf_12 ?_
  refine x_tableOut (tgt := 73) d_X7_panelOf_13 hq (by decide) ?_
  refine x_aload_n rfl d_X7_panelOf_73 ?_
  refine x_iload_n rfl d_X7_panelOf_74 ?_
  refine x_rdV d_X7_panelOf_75 lk_7_177 mo_X2_totalOf vi_X2_totalOf (sp_totN (cW_q C hp) hc) (o2_o (cW_q C hp).1) ⟨_, rfl, rfl⟩ rfl ⟨Nat.le_of_ble_eq_true rfl, Nat.le_of_ble_eq_true rfl⟩ rfl rfl (Nat.zero_le _) (Nat.zero_le _) (Nat.le_of_ble_eq_true rfl) rfl ?_
  exact x_ireturn d_X7_panelOf_78 rfl rfl rfl rfl (Nat.zero_le _) (Nat.zero_le _) (⟨rfl, rfl⟩)
theorem cl_pOfP {h : nPH} {a b : Nat} {V : Nat → Nat → Nat} {P : Nat → Nat → Nat → Nat} {R : Nat → Nat → Nat → Nat → Nat} {E Y T S : Nat → Nat → Nat} (C : cW h a b V P R E Y T S) {p : Int32} (hp : ¬ nIn p (V 1 0)) {c : Int32} : nRd YX7_panelOf [.ref (a), .int (p), .int (c)] h (.int (-1)) := by
  refine nSp_of (by decide +kernel) rfl (Nat.le_of_ble_eq_true rfl) (ls := [some (.ref (a)), some (.int (p)), some (.int (c)), none]) (by exact (And.intro rfl (And.intro rfl (And.intro rfl True.intro)))) ?_
  refine x_aload_n rfl d_X7_panelOf_0 ?_
  refine x_iload_n rfl d_X7_panelOf_1 ?_
  refine x_rdV d_X7_panelOf_2 lk_7_85 mo_X7_panelAt vi_X7_panelAt (sp_pAtN C.1.1 (cW_n C) hp) (o7_o C.1.1) ⟨_, rfl, rfl⟩ rfl ⟨Nat.le_of_ble_eq_true rfl, Nat.le_of_ble_eq_true rfl⟩ rfl rfl (Nat.zero_le _) (Nat.zero_le _) (Nat.le_of_ble_eq_true rfl) rfl ?_
  refine x_astore_nN d_X7_panelOf_5 (Nat.le_of_ble_eq_true rfl) ?_
  refine x_aload_nN rfl d_X7_panelOf_6 ?_
  refine x_ifnonnullN d_X7_panelOf_7 ?_
  refine x_iconst (v := -1) (by decide) d_X7_panelOf_10 ?_
  exact x_ireturn d_X7_panelOf_11 rfl rfl rfl rfl (Nat.zero_le _) (Nat.zero_le _) (⟨rfl, rfl⟩)
theorem cl_count_0 {h : nPH} {a b : Nat} {V : Nat → Nat → Nat} {P : Nat → Nat → Nat → Nat} {R : Nat → Nat → Nat → Nat → Nat} {E Y T S : Nat → Nat → Nat} (C : cW h a b V P R E Y T S) : nRd YX7_count [.ref (a), .int (nI (0))] h (.int (nI (V 1 0))) := by
  refine nSp_of (by decide +kernel) rfl (Nat.le_of_ble_eq_true rfl) (ls := [some (.ref (a)), some (.int (nI (0)))]) (by exact (And.intro rfl (And.intro rfl True.intro))) ?_
  refine x_iload_n rfl d_X7_count_0 ?_
  refine x_tableIn (off := 27) (tgt := 28) d_X7_count_1 (by decide) (by decide) (by decide) (by decide) ?_
  refine x_aload_n rfl d_X7_count_28 ?_
  refine x_getf co_all (v := .int (nI (V 1 0))) d_X7_count_29 fk_7_61 (o7_o C.1.1) rfl ?_
  exact x_ireturn d_X7_count_32 rfl rfl rfl rfl (Nat.zero_le _) (Nat.zero_le _) (⟨rfl, rfl⟩)
theorem cl_count_1 {h : nPH} {a b : Nat} {V : Nat → Nat → Nat} {P : Nat → Nat → Nat → Nat} {R : Nat → Nat → Nat → Nat → Nat} {E Y T S : Nat → Nat → Nat} (C : cW h a b V P R E Y T S) : nRd YX7_count [.ref (a), .int (nI (1))] h (.int (nV (V 3 0))) := by
  refine nSp_of (by decide +kernel) rfl (Nat.le_of_ble_eq_true rfl) (ls := [some (.ref (a)), some (.int (nI (1)))]) (by exact (And.intro rfl (And.intro rfl True.intro))) ?_
  refine x_iload_n rfl d_X7_count_0 ?_
  refine x_tableIn (off := 32) (tgt := 33) d_X7_count_1 (by decide) (by decide) (by decide) (by decide) ?_
  refine x_aload_n rfl d_X7_count_33 ?_
  refine x_getf co_all (v := .int (nV (V 3 0))) d_X7_count_34 fk_7_19 (o7_o C.1.1) rfl ?_
  exact x_ireturn d_X7_count_37 rfl rfl rfl rfl (Nat.zero_le _) (Nat.zero_le _) (⟨rfl, rfl⟩)
theorem cl_count_2 {h : nPH} {a b : Nat} {V : Nat → Nat → Nat} {P : Nat → Nat → Nat → Nat} {R : Nat → Nat → Nat → Nat → Nat} {E Y T S : Nat → Nat → Nat} (C : cW h a b V P R E Y T S) : nRd YX7_count [.ref (a), .int (nI (2))] h (.int (nI (Y 0 0))) := by
  refine nSp_of (by decide +kernel) rfl (Nat.le_of_ble_eq_true rfl) (ls := [some (.ref (a)), some (.int (nI (2)))]) (by exact (And.intro rfl (And.intro rfl True.intro))) ?_
  refine x_iload_n rfl d_X7_count_0 ?_
  refine x_tableIn (off := 37) (tgt := 38) d_X7_count_1 (by decide) (by decide) (by decide) (by decide) ?_
  refine x_aload_n rfl d_X7_count_38 ?_
  refine x_getf co_all (v := .ref (a + 53)) d_X7_count_39 fk_7_36 (o7_o C.1.1) rfl ?_
  refine x_getf co_all (v := .int (nI (Y 0 0))) d_X7_count_42 fk_7_180 (o6_o C.1.2.2.2.1) rfl ?_
  exact x_ireturn d_X7_count_45 rfl rfl rfl rfl (Nat.zero_le _) (Nat.zero_le _) (⟨rfl, rfl⟩)
theorem cl_count_n {h : nPH} {a b : Nat} {V : Nat → Nat → Nat} {P : Nat → Nat → Nat → Nat} {R : Nat → Nat → Nat → Nat → Nat} {E Y T S : Nat → Nat → Nat} (C : cW h a b V P R E Y T S) {c : Int32} (hq : c.toInt < 0 ∨ 2 < c.toInt) : nRd YX7_count [.ref (a), .int (c)] h (.int (-1)) := by
  refine nSp_of (by decide +kernel) rfl (Nat.le_of_ble_eq_true rfl) (ls := [some (.ref (a)), some (.int (c))]) (by exact (And.intro rfl (And.intro rfl True.intro))) ?_
  refine x_iload_n rfl d_X7_count_0 ?_
  refine x_tableOut (tgt := 46) d_X7_count_1 hq (by decide) ?_
  refine x_iconst (v := -1) (by decide) d_X7_count_46 ?_
  exact x_ireturn d_X7_count_47 rfl rfl rfl rfl (Nat.zero_le _) (Nat.zero_le _) (⟨rfl, rfl⟩)
theorem cl_way {h : nPH} {a b : Nat} {V : Nat → Nat → Nat} {P : Nat → Nat → Nat → Nat} {R : Nat → Nat → Nat → Nat → Nat} {E Y T S : Nat → Nat → Nat} (C : cW h a b V P R E Y T S) (hy : Y 0 0 ≤ 1441) {j : Nat} (hj : j < Y 0 0) : nRd YX7_way [.ref (a), .int (nI (j))] h (.int (nI (Y 1 (Y 0 0 - 1 - j)))) := by
  refine nSp_of (by decide +kernel) rfl (Nat.le_of_ble_eq_true rfl) (ls := [some (.ref (a)), some (.int (nI (j)))]) (by exact (And.intro rfl (And.intro rfl True.intro))) ?_
  refine x_aload_n rfl d_X7_way_0 ?_
  refine x_getf co_all (v := .ref (a + 53)) d_X7_way_1 fk_7_36 (o7_o C.1.1) rfl ?_
  refine x_iload_n rfl d_X7_way_4 ?_
  refine x_rdV d_X7_way_5 lk_7_215 mo_X6_knotAt vi_X6_knotAt (sp_knotAt C.1.2.2.2.1 hy hj) (o6_o C.1.2.2.2.1) ⟨_, rfl, rfl⟩ rfl ⟨Nat.le_of_ble_eq_true rfl, Nat.le_of_ble_eq_true rfl⟩ rfl rfl (Nat.zero_le _) (Nat.zero_le _) (Nat.le_of_ble_eq_true rfl) rfl ?_
  exact x_ireturn d_X7_way_8 rfl rfl rfl rfl (Nat.zero_le _) (Nat.zero_le _) (⟨rfl, rfl⟩)
theorem cl_wayN {h : nPH} {a b : Nat} {V : Nat → Nat → Nat} {P : Nat → Nat → Nat → Nat} {R : Nat → Nat → Nat → Nat → Nat} {E Y T S : Nat → Nat → Nat} (C : cW h a b V P R E Y T S) (hy : Y 0 0 ≤ 1441) {j : Int32} (hj : ¬ nIn j (Y 0 0)) : nRd YX7_way [.ref (a), .int (j)] h (.int (-1)) := by
  refine nSp_of (by decide +kernel) rfl (Nat.le_of_ble_eq_true rfl) (ls := [some (.ref (a)), some (.int (j))]) (by exact (And.intro rfl (And.intro rfl True.intro))) ?_
  refine x_aload_n rfl d_X7_way_0 ?_
  refine x_getf co_all (v := .ref (a + 53)) d_X7_way_1 fk_7_36 (o7_o C.1.1) rfl ?_
  refine x_iload_n rfl d_X7_way_4 ?_
  refine x_rdV d_X7_way_5 lk_7_215 mo_X6_knotAt vi_X6_knotAt (sp_knotOut C.1.2.2.2.1 hy hj) (o6_o C.1.2.2.2.1) ⟨_, rfl, rfl⟩ rfl ⟨Nat.le_of_ble_eq_true rfl, Nat.le_of_ble_eq_true rfl⟩ rfl rfl (Nat.zero_le _) (Nat.zero_le _) (Nat.le_of_ble_eq_true rfl) rfl ?_
  exact x_ireturn d_X7_way_8 rfl rfl rfl rfl (Nat.zero_le _) (Nat.zero_le _) (⟨rfl, rfl⟩)
theorem cl_cycle {h : nPH} {a b : Nat} {V : Nat → Nat → Nat} {P : Nat → Nat → Nat → Nat} {R : Nat → Nat → Nat → Nat → Nat} {E Y T S : Nat → Nat → Nat} (C : cW h a b V P R E Y T S) {c v : Int32} (hz : nRd YX5_tell [.ref (a + 56), .int c] h (.int v)) : nRd YX7_cycle [.ref (a), .int (c)] h (.int v) := by
  refine nSp_of (by decide +kernel) rfl (Nat.le_of_ble_eq_true rfl) (ls := [some (.ref (a)), some (.int (c))]) (by exact (And.intro rfl (And.intro rfl True.intro))) ?_
  refine x_aload_n rfl d_X7_cycle_0 ?_
  refine x_getf co_all (v := .ref (a + 56)) d_X7_cycle_1 fk_7_43 (o7_o C.1.1) rfl ?_
  refine x_iload_n rfl d_X7_cycle_4 ?_
  refine x_rdV d_X7_cycle_5 lk_7_221 mo_X5_tell vi_X5_tell (hz) (o5_o C.1.2.2.2.2.1) ⟨_, rfl, rfl⟩ rfl ⟨Nat.le_of_ble_eq_true rfl, Nat.le_of_ble_eq_true rfl⟩ rfl rfl (Nat.zero_le _) (Nat.zero_le _) (Nat.le_of_ble_eq_true rfl) rfl ?_
  exact x_ireturn d_X7_cycle_8 rfl rfl rfl rfl (Nat.zero_le _) (Nat.zero_le _) (⟨rfl, rfl⟩)
theorem cl_edge {h : nPH} {a b : Nat} {V : Nat → Nat → Nat} {P : Nat → Nat → Nat → Nat} {R : Nat → Nat → Nat → Nat → Nat} {E Y T S : Nat → Nat → Nat} (C : cW h a b V P R E Y T S) {i c v : Int32} (hz : nRd YX0_tell [.ref (a + 3), .int i, .int c] h (.int v)) : nRd YX7_edge [.ref (a), .int (i), .int (c)] h (.int v) := by
  refine nSp_of (by decide +kernel) rfl (Nat.le_of_ble_eq_true rfl) (ls := [some (.ref (a)), some (.int (i)), some (.int (c))]) (by exact (And.intro rfl (And.intro rfl (And.intro rfl True.intro)))) ?_
  refine x_aload_n rfl d_X7_edge_0 ?_
  refine x_getf co_all (v := .ref (a + 3)) d_X7_edge_1 fk_7_26 (o7_o C.1.1) rfl ?_
  refine x_iload_n rfl d_X7_edge_4 ?_
  refine x_iload_n rfl d_X7_edge_5 ?_
  refine x_rdV d_X7_edge_6 lk_7_198 mo_X0_tell vi_X0_tell (hz) (o0_o C.1.2.1) ⟨_, rfl, rfl⟩ rfl ⟨Nat.le_of_ble_eq_true rfl, Nat.le_of_ble_eq_true rfl⟩ rfl rfl (Nat.zero_le _) (Nat.zero_le _) (Nat.le_of_ble_eq_true rfl) rfl ?_
  exact x_ireturn d_X7_edge_9 rfl rfl rfl rfl (Nat.zero_le _) (Nat.zero_le _) (⟨rfl, rfl⟩)
theorem cl_match {h : nPH} {a b : Nat} {V : Nat → Nat → Nat} {P : Nat → Nat → Nat → Nat} {R : Nat → Nat → Nat → Nat → Nat} {E Y T S : Nat → Nat → Nat} (C : cW h a b V P R E Y T S) (hs : S 0 0 ≤ 24) {j : Nat} (hj : j < S 0 0) : nRd YX7_match [.ref (a), .int (nI (j))] h (.int (nI (S 1 j))) := by
  refine nSp_of (by decide +kernel) rfl (Nat.le_of_ble_eq_true rfl) (ls := [some (.ref (a)), some (.int (nI (j)))]) (by exact (And.intro rfl (And.intro rfl True.intro))) ?_
  refine x_iload_n rfl d_X7_match_0 ?_
  refine x_iconst (v := nI 0) (by decide) d_X7_match_1 ?_
  refine x_aload_n rfl d_X7_match_2 ?_
  refine x_getf co_all (v := .ref (a + 57)) d_X7_match_3 fk_7_50 (o7_o C.1.1) rfl ?_
  refine x_getf co_all (v := .int (nI (S 0 0))) d_X7_match_6 fk_7_235 (o4_o C.1.2.2.2.2.2.1) rfl ?_
  refine x_iconst (v := nI 1) (by decide) d_X7_match_9 ?_
  refine x_isub d_X7_match_10 ?_
  refine x_rdS d_X7_match_11 lk_7_64 mo_X7_within sc_X7_within (sp_wi (nI (j)) (n := S 0 0) (by omega)) rfl ⟨Nat.le_of_ble_eq_true rfl, Nat.le_of_ble_eq_true rfl⟩ rfl rfl (Nat.zero_le _) (Nat.zero_le _) (Nat.le_of_ble_eq_true rfl) rfl ?_
  have hle := nBi_le (nI (j)) (S 0 0)
  refine x_if_eqN (tgt := 29) d_X7_match_14 (by decide) (by omega) (fun c_1 => by exfalso; rw [nBi_n (by omega)] at c_1; exact absurd hj (nB_0.mp c_1)) (fun c_1 => ?_)
  refine x_aload_n rfl d_X7_match_17 ?_
  refine x_getf co_all (v := .ref (a + 57)) d_X7_match_18 fk_7_50 (o7_o C.1.1) rfl ?_
  refine x_getf co_all (v := .ref (a + 57 + 1)) d_X7_match_21 fk_7_236 (o4_o C.1.2.2.2.2.2.1) rfl ?_
  refine x_iload_n rfl d_X7_match_24 ?_
  refine x_iaload d_X7_match_25 (o4_1 C.1.2.2.2.2.2.1) (nIx_nI (j := j) (by omega) (by decide)) ?_
  refine x_goto (tgt := 30) d_X7_match_26 (by decide) ?_
  exact x_ireturn d_X7_match_30 rfl rfl rfl rfl (Nat.zero_le _) (Nat.zero_le _) (⟨rfl, rfl⟩)
theorem cl_matchN {h : nPH} {a b : Nat} {V : Nat → Nat → Nat} {P : Nat → Nat → Nat → Nat} {R : Nat → Nat → Nat → Nat → Nat} {E Y T S : Nat → Nat → Nat} (C : cW h a b V P R E Y T S) (hs : S 0 0 ≤ 24) {j : Int32} (hj : ¬ nIn j (S 0 0)) : nRd YX7_match [.ref (a), .int (j)] h (.int (-1)) := by
  refine nSp_of (by decide +kernel) rfl (Nat.le_of_ble_eq_true rfl) (ls := [some (.ref (a)), some (.int (j))]) (by exact (And.intro rfl (And.intro rfl True.intro))) ?_
  refine x_iload_n rfl d_X7_match_0 ?_
  refine x_iconst (v := nI 0) (by decide) d_X7_match_1 ?_
  refine x_aload_n rfl d_X7_match_2 ?_
  refine x_getf co_all (v := .ref (a + 57)) d_X7_match_3 fk_7_50 (o7_o C.1.1) rfl ?_
  refine x_getf co_all (v := .int (nI (S 0 0))) d_X7_match_6 fk_7_235 (o4_o C.1.2.2.2.2.2.1) rfl ?_
  refine x_iconst (v := nI 1) (by decide) d_X7_match_9 ?_
  refine x_isub d_X7_match_10 ?_
  refine x_rdS d_X7_match_11 lk_7_64 mo_X7_within sc_X7_within (sp_wi (j) (n := S 0 0) (by omega)) rfl ⟨Nat.le_of_ble_eq_true rfl, Nat.le_of_ble_eq_true rfl⟩ rfl rfl (Nat.zero_le _) (Nat.zero_le _) (Nat.le_of_ble_eq_true rfl) rfl ?_
  have hle := nBi_le (j) (S 0 0)
  refine x_if_eqN (tgt := 29) d_X7_match_14 (by decide) (by omega) (fun c_1 => ?_) (fun c_1 => by exfalso; exact c_1 (nBi_F hj))
  refine x_iconst (v := -1) (by decide) d_X7_match_29 ?_
  exact x_ireturn d_X7_match_30 rfl rfl rfl rfl (Nat.zero_le _) (Nat.zero_le _) (⟨rfl, rfl⟩)
/-- what is told of an opening -/
def opn (V Q : Nat → Nat → Nat) : Nat := if 100 * Q 2 0 / Q 3 0 + 1 < V 3 0 then V 2 (100 * Q 2 0 / Q 3 0) + 2 else 0
def opI (V Q : Nat → Nat → Nat) : Int32 := if 100 * Q 2 0 / Q 3 0 + 1 < V 3 0 then nI (V 2 (100 * Q 2 0 / Q 3 0)) else -2
theorem wi_V {j m : Nat} (hj : j < 2 ^ 30) (hm : m < 2 ^ 30) : (nI 0 ≤ nI j ∧ nI j ≤ nV m - nI 1) ↔ j + 1 < m := by
  unfold nV
  rcases Nat.lt_or_ge m 2 with z | z
  · have e : m = 0 ∨ m = 1 := by omega
    have h2 : (nI j).toInt = j := nI_toInt (by omega)
    rcases e with e | e <;> subst e
    · have : (nI 0 - 1 - nI 1 : Int32).toInt = -2 := by decide
      rw [Int32.le_iff_toInt_le, Int32.le_iff_toInt_le, this, h2]
      omega
    · have : (nI 1 - 1 - nI 1 : Int32).toInt = -1 := by decide
      rw [Int32.le_iff_toInt_le, Int32.le_iff_toInt_le, this, h2]
      omega
  · rw [show (1 : Int32) = nI 1 from rfl, nI_sub (by omega), nI_sub (by omega), nI_leI (by omega) (by omega), nI_leI (by omega) (by omega)]
    omega
theorem sp_opening {h : nPH} {a b : Nat} {V : Nat → Nat → Nat} {P : Nat → Nat → Nat → Nat} {R : Nat → Nat → Nat → Nat → Nat} {E Y T S : Nat → Nat → Nat} (C : cW h a b V P R E Y T S) {p : Nat} (hp : p < V 1 0) (hb2 : P p 2 0 ≤ 1000) (hb3 : 1 ≤ P p 3 0) (hb4 : P p 3 0 ≤ 1000) (hb5 : P p 2 0 ≤ P p 3 0) (hv : V 3 0 ≤ 102) : nRd YX7_openingOf [.ref (a), .ref (V 0 p)] h (.int (opI V (P p))) := by
  have hn12 := cW_n C
  have hn20 := (cW_q C hp).2.1
  have hdv : 100 * P p 2 0 / P p 3 0 ≤ 100 := (Nat.div_le_iff_le_mul_add_pred (by omega)).mpr (by have := Nat.mul_le_mul_right 100 hb5; omega)
  refine nSp_of (by decide +kernel) rfl (Nat.le_of_ble_eq_true rfl) (ls := [some (.ref (a)), some (.ref (V 0 p)), none]) (by exact (And.intro rfl (And.intro rfl True.intro))) ?_
  refine x_aload_n rfl d_X7_openingOf_0 ?_
  refine x_getf co_all (v := .int (nI ((P p) 3 0))) d_X7_openingOf_1 fk_7_174 (o2_o (cW_q C hp).1) rfl ?_
  refine x_if_gtN (tgt := 10) d_X7_openingOf_4 (by decide) (by omega) (fun c_1 => ?_) (fun c_1 => by exfalso; omega)
  refine x_bipush (v := nI 100) (by decide) d_X7_openingOf_10 ?_
  refine x_aload_n rfl d_X7_openingOf_12 ?_
  refine x_getf co_all (v := .int (nI ((P p) 2 0))) d_X7_openingOf_13 fk_7_171 (o2_o (cW_q C hp).1) rfl ?_
  refine x_imulN d_X7_openingOf_16 ?_
  refine x_aload_n rfl d_X7_openingOf_17 ?_
  refine x_getf co_all (v := .int (nI ((P p) 3 0))) d_X7_openingOf_18 fk_7_174 (o2_o (cW_q C hp).1) rfl ?_
  refine x_idivN d_X7_openingOf_21 (by omega) (by omega) (by omega) ?_
  refine x_istore_n d_X7_openingOf_22 (Nat.le_of_ble_eq_true rfl) ?_
  refine x_iload_n rfl d_X7_openingOf_23 ?_
  refine x_iconst (v := nI 0) (by decide) d_X7_openingOf_24 ?_
  refine x_aload_n rfl d_X7_openingOf_25 ?_
  refine x_getf co_all (v := .int (nV (V 3 0))) d_X7_openingOf_26 fk_7_19 (o7_o C.1.1) rfl ?_
  refine x_iconst (v := nI 1) (by decide) d_X7_openingOf_29 ?_
  refine x_isub d_X7_openingOf_30 ?_
  refine x_rdS d_X7_openingOf_31 lk_7_64 mo_X7_within sc_X7_within (sp_within (nI (100 * P p 2 0 / P p 3 0)) (nI 0) (nV (V 3 0) - nI 1)) rfl ⟨Nat.le_of_ble_eq_true rfl, Nat.le_of_ble_eq_true rfl⟩ rfl rfl (Nat.zero_le _) (Nat.zero_le _) (Nat.le_of_ble_eq_true rfl) rfl ?_
  rw [nB_cg (wi_V (by omega) (by omega))]
  refine x_if_eqN (tgt := 46) d_X7_openingOf_34 (by decide) (by have := nB_le (100 * P p 2 0 / P p 3 0 + 1 < V 3 0); omega) (fun c_2 => ?_) (fun c_2 => ?_)
  · refine x_bipush (v := -2) (by decide) d_X7_openingOf_46 ?_
    exact x_ireturn d_X7_openingOf_48 rfl rfl rfl rfl (Nat.zero_le _) (Nat.zero_le _) (⟨by unfold opI; rw [if_neg (nB_0.mp c_2)], rfl⟩)
  · refine x_aload_n rfl d_X7_openingOf_37 ?_
    refine x_getf co_all (v := .ref (a + 2)) d_X7_openingOf_38 fk_7_15 (o7_o C.1.1) rfl ?_
    refine x_iload_n rfl d_X7_openingOf_41 ?_
    refine x_iaload d_X7_openingOf_42 (o7_2 C.1.1) (nIx_nI (j := (100 * ((P p) 2 0)) / ((P p) 3 0)) (by omega) (by decide)) ?_
    refine x_goto (tgt := 48) d_X7_openingOf_43 (by decide) ?_
    exact x_ireturn d_X7_openingOf_48 rfl rfl rfl rfl (Nat.zero_le _) (Nat.zero_le _) (⟨by unfold opI; rw [if_pos (nB_1.mp (by have := nB_le (100 * P p 2 0 / P p 3 0 + 1 < V 3 0); omega))], rfl⟩)
theorem cl_open {h : nPH} {a b : Nat} {V : Nat → Nat → Nat} {P : Nat → Nat → Nat → Nat} {R : Nat → Nat → Nat → Nat → Nat} {E Y T S : Nat → Nat → Nat} (C : cW h a b V P R E Y T S) {p : Nat} (hp : p < V 1 0) (hb2 : P p 2 0 ≤ 1000) (hb3 : 1 ≤ P p 3 0) (hb4 : P p 3 0 ≤ 1000) (hb5 : P p 2 0 ≤ P p 3 0) (hv : V 3 0 ≤ 102) : nRd YX7_open [.ref (a), .int (nI (p))] h (.int (opI V (P p))) := by
  have hn12 := cW_n C
  have hn20 := (cW_q C hp).2.1
  refine nSp_of (by decide +kernel) rfl (Nat.le_of_ble_eq_true rfl) (ls := [some (.ref (a)), some (.int (nI (p))), none]) (by exact (And.intro rfl (And.intro rfl True.intro))) ?_
  refine x_aload_n rfl d_X7_open_0 ?_
  refine x_iload_n rfl d_X7_open_1 ?_
  refine x_rdV d_X7_open_2 lk_7_85 mo_X7_panelAt vi_X7_panelAt (sp_pAt C.1.1 (cW_n C) hp) (o7_o C.1.1) ⟨_, rfl, rfl⟩ rfl ⟨Nat.le_of_ble_eq_true rfl, Nat.le_of_ble_eq_true rfl⟩ rfl rfl (Nat.zero_le _) (Nat.zero_le _) (Nat.le_of_ble_eq_true rfl) rfl ?_
  refine x_astore_n d_X7_open_5 (Nat.le_of_ble_eq_true rfl) ?_
  refine x_aload_n rfl d_X7_open_6 ?_
  refine x_ifnonnull (tgt := 14) d_X7_open_7 (by decide) ?_
  refine x_aload_n rfl d_X7_open_14 ?_
  refine x_aload_n rfl d_X7_open_15 ?_
  refine x_rdV d_X7_open_16 lk_7_239 mo_X7_openingOf vi_X7_openingOf (sp_opening C hp hb2 hb3 hb4 hb5 hv) (o7_o C.1.1) ⟨_, rfl, rfl⟩ rfl ⟨Nat.le_of_ble_eq_true rfl, Nat.le_of_ble_eq_true rfl⟩ rfl rfl (Nat.zero_le _) (Nat.zero_le _) (Nat.le_of_ble_eq_true rfl) rfl ?_
  exact x_ireturn d_X7_open_19 rfl rfl rfl rfl (Nat.zero_le _) (Nat.zero_le _) (⟨rfl, rfl⟩)
theorem cl_openP {h : nPH} {a b : Nat} {V : Nat → Nat → Nat} {P : Nat → Nat → Nat → Nat} {R : Nat → Nat → Nat → Nat → Nat} {E Y T S : Nat → Nat → Nat} (C : cW h a b V P R E Y T S) {p : Int32} (hp : ¬ nIn p (V 1 0)) : nRd YX7_open [.ref (a), .int (p)] h (.int (-1)) := by
  refine nSp_of (by decide +kernel) rfl (Nat.le_of_ble_eq_true rfl) (ls := [some (.ref (a)), some (.int (p)), none]) (by exact (And.intro rfl (And.intro rfl True.intro))) ?_
  refine x_aload_n rfl d_X7_open_0 ?_
  refine x_iload_n rfl d_X7_open_1 ?_
  refine x_rdV d_X7_open_2 lk_7_85 mo_X7_panelAt vi_X7_panelAt (sp_pAtN C.1.1 (cW_n C) hp) (o7_o C.1.1) ⟨_, rfl, rfl⟩ rfl ⟨Nat.le_of_ble_eq_true rfl, Nat.le_of_ble_eq_true rfl⟩ rfl rfl (Nat.zero_le _) (Nat.zero_le _) (Nat.le_of_ble_eq_true rfl) rfl ?_
  refine x_astore_nN d_X7_open_5 (Nat.le_of_ble_eq_true rfl) ?_
  refine x_aload_nN rfl d_X7_open_6 ?_
  refine x_ifnonnullN d_X7_open_7 ?_
  refine x_iconst (v := -1) (by decide) d_X7_open_10 ?_
  refine x_goto (tgt := 19) d_X7_open_11 (by decide) ?_
  exact x_ireturn d_X7_open_19 rfl rfl rfl rfl (Nat.zero_le _) (Nat.zero_le _) (⟨rfl, rfl⟩)
theorem cl_slipsP {h : nPH} {a b : Nat} {V : Nat → Nat → Nat} {P : Nat → Nat → Nat → Nat} {R : Nat → Nat → Nat → Nat → Nat} {E Y T S : Nat → Nat → Nat} (C : cW h a b V P R E Y T S) {p : Int32} (hp : ¬ nIn p (V 1 0)) {g : Int32} : nRd YX7_slips [.ref (a), .int (p), .int (g)] h (.int (-1)) := by
  refine nSp_of (by decide +kernel) rfl (Nat.le_of_ble_eq_true rfl) (ls := [some (.ref (a)), some (.int (p)), some (.int (g)), none, none]) (by exact (And.intro rfl (And.intro rfl (And.intro rfl True.intro)))) ?_
  refine x_aload_n rfl d_X7_slips_0 ?_
  refine x_iload_n rfl d_X7_slips_1 ?_
  refine x_rdV d_X7_slips_2 lk_7_85 mo_X7_panelAt vi_X7_panelAt (sp_pAtN C.1.1 (cW_n C) hp) (o7_o C.1.1) ⟨_, rfl, rfl⟩ rfl ⟨Nat.le_of_ble_eq_true rfl, Nat.le_of_ble_eq_true rfl⟩ rfl rfl (Nat.zero_le _) (Nat.zero_le _) (Nat.le_of_ble_eq_true rfl) rfl ?_
  refine x_astore_nN d_X7_slips_5 (Nat.le_of_ble_eq_true rfl) ?_
  refine x_aload_nN rfl d_X7_slips_6 ?_
  refine x_ifnullN (tgt := 20) d_X7_slips_7 (by decide) ?_
  refine x_iconst (v := -1) (by decide) d_X7_slips_20 ?_
  exact x_ireturn d_X7_slips_21 rfl rfl rfl rfl (Nat.zero_le _) (Nat.zero_le _) (⟨rfl, rfl⟩)
theorem cl_slipsG {h : nPH} {a b : Nat} {V : Nat → Nat → Nat} {P : Nat → Nat → Nat → Nat} {R : Nat → Nat → Nat → Nat → Nat} {E Y T S : Nat → Nat → Nat} (C : cW h a b V P R E Y T S) {p : Nat} (hp : p < V 1 0) {g : Int32} (hg : ¬ (nI 0 ≤ g ∧ g ≤ nI 1000000)) : nRd YX7_slips [.ref (a), .int (nI (p)), .int (g)] h (.int (-1)) := by
  have hn12 := cW_n C
  have hn20 := (cW_q C hp).2.1
  refine nSp_of (by decide +kernel) rfl (Nat.le_of_ble_eq_true rfl) (ls := [some (.ref (a)), some (.int (nI (p))), some (.int (g)), none, none]) (by exact (And.intro rfl (And.intro rfl (And.intro rfl True.intro)))) ?_
  refine x_aload_n rfl d_X7_slips_0 ?_
  refine x_iload_n rfl d_X7_slips_1 ?_
  refine x_rdV d_X7_slips_2 lk_7_85 mo_X7_panelAt vi_X7_panelAt (sp_pAt C.1.1 (cW_n C) hp) (o7_o C.1.1) ⟨_, rfl, rfl⟩ rfl ⟨Nat.le_of_ble_eq_true rfl, Nat.le_of_ble_eq_true rfl⟩ rfl rfl (Nat.zero_le _) (Nat.zero_le _) (Nat.le_of_ble_eq_true rfl) rfl ?_
  refine x_astore_n d_X7_slips_5 (Nat.le_of_ble_eq_true rfl) ?_
  refine x_aload_n rfl d_X7_slips_6 ?_
  refine x_ifnull d_X7_slips_7 ?_
  refine x_iload_n rfl d_X7_slips_10 ?_
  refine x_iconst (v := nI 0) (by decide) d_X7_slips_11 ?_
  refine x_ldc (v := nI 1000000) d_X7_slips_12 ct_7_68 ?_
  refine x_rdS d_X7_slips_14 lk_7_64 mo_X7_within sc_X7_within (sp_within (g) (nI 0) (nI 1000000)) rfl ⟨Nat.le_of_ble_eq_true rfl, Nat.le_of_ble_eq_true rfl⟩ rfl rfl (Nat.zero_le _) (Nat.zero_le _) (Nat.le_of_ble_eq_true rfl) rfl ?_
  rw [nB_F hg]
  refine x_if_neN (tgt := 22) d_X7_slips_17 (by decide) (by omega) (fun c_1 => by exfalso; exact c_1 rfl) (fun c_1 => ?_)
  refine x_iconst (v := -1) (by decide) d_X7_slips_20 ?_
  exact x_ireturn d_X7_slips_21 rfl rfl rfl rfl (Nat.zero_le _) (Nat.zero_le _) (⟨rfl, rfl⟩)
theorem cl_slips0 {h : nPH} {a b : Nat} {V : Nat → Nat → Nat} {P : Nat → Nat → Nat → Nat} {R : Nat → Nat → Nat → Nat → Nat} {E Y T S : Nat → Nat → Nat} (C : cW h a b V P R E Y T S) {p : Nat} (hp : p < V 1 0) (hb2 : P p 2 0 ≤ 1000) (hb3 : 1 ≤ P p 3 0) (hb4 : P p 3 0 ≤ 1000) (hb5 : P p 2 0 ≤ P p 3 0) (hv : V 3 0 ≤ 102) {g : Nat} (hg : g ≤ 1000000) (ho : ¬ 100 * P p 2 0 / P p 3 0 + 1 < V 3 0) : nRd YX7_slips [.ref (a), .int (nI (p)), .int (nI (g))] h (.int (-2)) := by
  have hn12 := cW_n C
  have hn20 := (cW_q C hp).2.1
  refine nSp_of (by decide +kernel) rfl (Nat.le_of_ble_eq_true rfl) (ls := [some (.ref (a)), some (.int (nI (p))), some (.int (nI (g))), none, none]) (by exact (And.intro rfl (And.intro rfl (And.intro rfl True.intro)))) ?_
  refine x_aload_n rfl d_X7_slips_0 ?_
  refine x_iload_n rfl d_X7_slips_1 ?_
  refine x_rdV d_X7_slips_2 lk_7_85 mo_X7_panelAt vi_X7_panelAt (sp_pAt C.1.1 (cW_n C) hp) (o7_o C.1.1) ⟨_, rfl, rfl⟩ rfl ⟨Nat.le_of_ble_eq_true rfl, Nat.le_of_ble_eq_true rfl⟩ rfl rfl (Nat.zero_le _) (Nat.zero_le _) (Nat.le_of_ble_eq_true rfl) rfl ?_
  refine x_astore_n d_X7_slips_5 (Nat.le_of_ble_eq_true rfl) ?_
  refine x_aload_n rfl d_X7_slips_6 ?_
  refine x_ifnull d_X7_slips_7 ?_
  refine x_iload_n rfl d_X7_slips_10 ?_
  refine x_iconst (v := nI 0) (by decide) d_X7_slips_11 ?_
  refine x_ldc (v := nI 1000000) d_X7_slips_12 ct_7_68 ?_
  refine x_rdS d_X7_slips_14 lk_7_64 mo_X7_within sc_X7_within (sp_within (nI (g)) (nI 0) (nI 1000000)) rfl ⟨Nat.le_of_ble_eq_true rfl, Nat.le_of_ble_eq_true rfl⟩ rfl rfl (Nat.zero_le _) (Nat.zero_le _) (Nat.le_of_ble_eq_true rfl) rfl ?_
  rw [nB_T (show nI 0 ≤ nI g ∧ nI g ≤ nI 1000000 from ⟨(nI_leI (by decide) (by omega)).mpr (by omega), (nI_leI (by omega) (by decide)).mpr hg⟩)]
  refine x_if_neN (tgt := 22) d_X7_slips_17 (by decide) (by omega) (fun c_1 => ?_) (fun c_1 => by exfalso; exact absurd c_1 (by decide))
  refine x_aload_n rfl d_X7_slips_22 ?_
  refine x_aload_n rfl d_X7_slips_23 ?_
  refine x_rdV d_X7_slips_24 lk_7_239 mo_X7_openingOf vi_X7_openingOf (sp_opening C hp hb2 hb3 hb4 hb5 hv) (o7_o C.1.1) ⟨_, rfl, rfl⟩ rfl ⟨Nat.le_of_ble_eq_true rfl, Nat.le_of_ble_eq_true rfl⟩ rfl rfl (Nat.zero_le _) (Nat.zero_le _) (Nat.le_of_ble_eq_true rfl) rfl ?_
  rw [show opI V (P p) = -2 from if_neg ho]
  refine x_istore d_X7_slips_27 (Nat.le_of_ble_eq_true rfl) ?_
  refine x_iload rfl d_X7_slips_29 ?_
  refine x_bipush (v := -2) (by decide) d_X7_slips_31 ?_
  refine x_icmp_ne (tgt := 39) d_X7_slips_33 (by decide) (fun c_2 => by exfalso; exact c_2 rfl) (fun c_2 => ?_)
  refine x_bipush (v := -2) (by decide) d_X7_slips_36 ?_
  exact x_ireturn d_X7_slips_38 rfl rfl rfl rfl (Nat.zero_le _) (Nat.zero_le _) (⟨rfl, rfl⟩)
theorem cl_slips {h : nPH} {a b : Nat} {V : Nat → Nat → Nat} {P : Nat → Nat → Nat → Nat} {R : Nat → Nat → Nat → Nat → Nat} {E Y T S : Nat → Nat → Nat} (C : cW h a b V P R E Y T S) {p : Nat} (hp : p < V 1 0) (hb2 : P p 2 0 ≤ 1000) (hb3 : 1 ≤ P p 3 0) (hb4 : P p 3 0 ≤ 1000) (hb5 : P p 2 0 ≤ P p 3 0) (hv : V 3 0 ≤ 102) (hb0 : P p 0 0 ≤ 1000) {g : Nat} (hg : g ≤ 1000000) (ho : 100 * P p 2 0 / P p 3 0 + 1 < V 3 0) (hv2 : V 2 (100 * P p 2 0 / P p 3 0) ≤ 100) : nRd YX7_slips [.ref (a), .int (nI (p)), .int (nI (g))] h (.int (nI (nB (100 * g < 4 * P p 0 0 * V 2 (100 * P p 2 0 / P p 3 0))))) := by
  have hn12 := cW_n C
  have hn20 := (cW_q C hp).2.1
  have hm2 : 4 * P p 0 0 * V 2 (100 * P p 2 0 / P p 3 0) ≤ 4000 * 100 := Nat.mul_le_mul (by omega) hv2
  refine nSp_of (by decide +kernel) rfl (Nat.le_of_ble_eq_true rfl) (ls := [some (.ref (a)), some (.int (nI (p))), some (.int (nI (g))), none, none]) (by exact (And.intro rfl (And.intro rfl (And.intro rfl True.intro)))) ?_
  refine x_aload_n rfl d_X7_slips_0 ?_
  refine x_iload_n rfl d_X7_slips_1 ?_
  refine x_rdV d_X7_slips_2 lk_7_85 mo_X7_panelAt vi_X7_panelAt (sp_pAt C.1.1 (cW_n C) hp) (o7_o C.1.1) ⟨_, rfl, rfl⟩ rfl ⟨Nat.le_of_ble_eq_true rfl, Nat.le_of_ble_eq_true rfl⟩ rfl rfl (Nat.zero_le _) (Nat.zero_le _) (Nat.le_of_ble_eq_true rfl) rfl ?_
  refine x_astore_n d_X7_slips_5 (Nat.le_of_ble_eq_true rfl) ?_
  refine x_aload_n rfl d_X7_slips_6 ?_
  refine x_ifnull d_X7_slips_7 ?_
  refine x_iload_n rfl d_X7_slips_10 ?_
  refine x_iconst (v := nI 0) (by decide) d_X7_slips_11 ?_
  refine x_ldc (v := nI 1000000) d_X7_slips_12 ct_7_68 ?_
  refine x_rdS d_X7_slips_14 lk_7_64 mo_X7_within sc_X7_within (sp_within (nI (g)) (nI 0) (nI 1000000)) rfl ⟨Nat.le_of_ble_eq_true rfl, Nat.le_of_ble_eq_true rfl⟩ rfl rfl (Nat.zero_le _) (Nat.zero_le _) (Nat.le_of_ble_eq_true rfl) rfl ?_
  rw [nB_T (show nI 0 ≤ nI g ∧ nI g ≤ nI 1000000 from ⟨(nI_leI (by decide) (by omega)).mpr (by omega), (nI_leI (by omega) (by decide)).mpr hg⟩)]
  refine x_if_neN (tgt := 22) d_X7_slips_17 (by decide) (by omega) (fun c_1 => ?_) (fun c_1 => by exfalso; exact absurd c_1 (by decide))
  refine x_aload_n rfl d_X7_slips_22 ?_
  refine x_aload_n rfl d_X7_slips_23 ?_
  refine x_rdV d_X7_slips_24 lk_7_239 mo_X7_openingOf vi_X7_openingOf (sp_opening C hp hb2 hb3 hb4 hb5 hv) (o7_o C.1.1) ⟨_, rfl, rfl⟩ rfl ⟨Nat.le_of_ble_eq_true rfl, Nat.le_of_ble_eq_true rfl⟩ rfl rfl (Nat.zero_le _) (Nat.zero_le _) (Nat.le_of_ble_eq_true rfl) rfl ?_
  rw [show opI V (P p) = nI (V 2 (100 * P p 2 0 / P p 3 0)) from if_pos ho]
  refine x_istore d_X7_slips_27 (Nat.le_of_ble_eq_true rfl) ?_
  refine x_iload rfl d_X7_slips_29 ?_
  refine x_bipush (v := -2) (by decide) d_X7_slips_31 ?_
  refine x_icmp_ne (tgt := 39) d_X7_slips_33 (by decide) (fun c_2 => ?_) (fun c_2 => by exfalso; exact nI_ne2 (by omega) c_2)
  refine x_bipush (v := nI 100) (by decide) d_X7_slips_39 ?_
  refine x_iload_n rfl d_X7_slips_41 ?_
  refine x_imulN d_X7_slips_42 ?_
  refine x_iconst (v := nI 4) (by decide) d_X7_slips_43 ?_
  refine x_aload_n rfl d_X7_slips_44 ?_
  refine x_getf co_all (v := .int (nI ((P p) 0 0))) d_X7_slips_45 fk_7_165 (o2_o (cW_q C hp).1) rfl ?_
  refine x_imulN d_X7_slips_48 ?_
  refine x_iload rfl d_X7_slips_49 ?_
  refine x_imulN d_X7_slips_51 ?_
  refine x_icmp_geN (tgt := 59) d_X7_slips_52 (by decide) (by omega) (by omega) (fun c_3 => ?_) (fun c_3 => ?_)
  · refine x_iconst (v := nI 0) (by decide) d_X7_slips_59 ?_
    exact x_ireturn d_X7_slips_60 rfl rfl rfl rfl (Nat.zero_le _) (Nat.zero_le _) (⟨by rw [nB_F (Nat.not_lt_of_le c_3)], rfl⟩)
  · refine x_iconst (v := nI 1) (by decide) d_X7_slips_55 ?_
    refine x_goto (tgt := 60) d_X7_slips_56 (by decide) ?_
    exact x_ireturn d_X7_slips_60 rfl rfl rfl rfl (Nat.zero_le _) (Nat.zero_le _) (⟨by rw [nB_T (Nat.lt_of_not_le c_3)], rfl⟩)
