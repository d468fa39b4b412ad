/-! what writes in a row; the count of bits -/
/-- a call with the answer r, after which Q holds -/
def nWv (y : nM) (av : List Value) (h : nPH) (r : Option Value) (Q : nPH → Prop) : Prop := nSp y av h (fun v h2 => v = r ∧ Q h2)
section NWV
variable {y : nM} {κ : nKp} {cu su pc p2 o : Nat} {ls : List (Option Value)} {st : List Value} {h : nPH}
theorem x_wvV {z : nM} {idx n c b : Nat} {As rest st0 fs : List Value} {r : Option Value} {Q : nPH → Prop} (hd : nD y pc (.invokevirtual idx) 3 p2 o) (hl : nLk o idx z) (hm : nMo z n) (hv : nVi z) (hz : nWv z (.ref b :: As) h r Q) (hat : nAt h b = some (nOb c fs)) (hcn : ∃ q : vw_C, vwCl[c]? = some q ∧ q.1 = z.1.cls) (hn : As.length = n) (hro : nRo κ z) (hrc : cu + nCe z ≤ κ.1.cells) (hrs : su + nSl z ≤ κ.1.slots) (hw : (rest.map fun v => v.category).sum ≤ 8) (hst : As.reverse ++ .ref b :: rest = st0)
    (kk : ∀ h2, Q h2 → h2.1 = h.1 → h2.2.1 = h.2.1 → nG y κ (cu + nCe z) (su + nSl z) p2 ls (r.toList ++ rest) h2) : nG y κ cu su pc ls st0 h :=
  x_callV hd hl hm hv hz hat hcn hn hro hrc hrs hw hst (by rintro v h2 ⟨rfl, q⟩ e1 e2; exact kk h2 q e1 e2)
theorem x_wvS {z : nM} {idx n : Nat} {As rest st0 : List Value} {r : Option Value} {Q : nPH → Prop} (hd : nD y pc (.invokestatic idx) 3 p2 o) (hl : nLk o idx z) (hm : nMo z n) (hv : nSc z) (hz : nWv z As h r Q) (hn : As.length = n) (hro : nRo κ z) (hrc : cu + nCe z ≤ κ.1.cells) (hrs : su + nSl z ≤ κ.1.slots) (hw : (rest.map fun v => v.category).sum ≤ 8) (hst : As.reverse ++ rest = st0)
    (kk : ∀ h2, Q h2 → h2.1 = h.1 → h2.2.1 = h.2.1 → nG y κ (cu + nCe z) (su + nSl z) p2 ls (r.toList ++ rest) h2) : nG y κ cu su pc ls st0 h :=
  x_callS hd hl hm hv hz hn hro hrc hrs hw hst (by rintro v h2 ⟨rfl, q⟩ e1 e2; exact kk h2 q e1 e2)
theorem x_wvI {z : nM} {idx n b : Nat} {As rest st0 : List Value} {Q : nPH → Prop} (hd : nD y pc (.invokespecial idx) 3 p2 o) (hl : nLk o idx z) (hm : nMo z n) (hv : nIi z) (hret : z.2.2.2.1 = none) (hz : nWv z (.ref b :: As) h none Q) (hn : As.length = n) (hro : nRo κ z) (hrc : cu + nCe z ≤ κ.1.cells) (hrs : su + nSl z ≤ κ.1.slots) (hw : (rest.map fun v => v.category).sum ≤ 8) (hst : As.reverse ++ .ref b :: rest = st0)
    (kk : ∀ h2, Q h2 → h2.1 = h.1 → h2.2.1 = h.2.1 → nG y κ (cu + nCe z) (su + nSl z) p2 ls rest h2) : nG y κ cu su pc ls st0 h :=
  x_callI hd hl hm hv hret hz hn hro hrc hrs hw hst (by rintro v h2 ⟨rfl, q⟩ e1 e2; exact kk h2 q e1 e2)
theorem x_wvIN {z : nM} {idx n b : Nat} {As rest st0 : List Value} {Q : nPH → Prop} (hd : nD y pc (.invokespecial idx) 3 p2 o) (hl : nLn o idx z) (hm : nMo z n) (hv : nIi z) (hret : z.2.2.2.1 = none) (hz : nWv z (.ref b :: As) h none Q) (hn : As.length = n) (hro : nRo κ z) (hrc : cu + nCe z ≤ κ.1.cells) (hrs : su + nSl z ≤ κ.1.slots) (hw : (rest.map fun v => v.category).sum ≤ 8) (hst : As.reverse ++ .ref b :: rest = st0)
    (kk : ∀ h2, Q h2 → h2.1 = h.1 → h2.2.1 = h.2.1 → nG y κ (cu + nCe z) (su + nSl z) p2 ls rest h2) : nG y κ cu su pc ls st0 h :=
  x_callIN hd hl hm hv hret hz hn hro hrc hrs hw hst (by rintro v h2 ⟨rfl, q⟩ e1 e2; exact kk h2 q e1 e2)
end NWV
/-- bits of the word of gone sides -/
def pcn (g : Nat) : Nat := fb_ct (fun i => g.testBit i) 24
theorem and_split {p q r s : Nat} (hp : p < 256) (hr : r < 256) : (p + 256 * q) &&& (r + 256 * s) = (p &&& r) + 256 * (q &&& s) := by
  have h1 := Nat.and_mod_two_pow (a := p + 256 * q) (b := r + 256 * s) (n := 8)
  have h2 := Nat.and_div_two_pow (a := p + 256 * q) (b := r + 256 * s) (n := 8)
  rw [show (p + 256 * q) % 2 ^ 8 = p by omega, show (r + 256 * s) % 2 ^ 8 = r by omega] at h1
  rw [show (p + 256 * q) / 2 ^ 8 = q by omega, show (r + 256 * s) / 2 ^ 8 = s by omega] at h2
  have h3 := Nat.mod_add_div ((p + 256 * q) &&& (r + 256 * s)) 256
  rw [← h1, ← h2]
  omega
theorem and3 {a b c r : Nat} (ha : a < 256) (hb : b < 256) (hr : r < 256) : (a + 256 * (b + 256 * c)) &&& (r + 256 * (r + 256 * (r + 256 * r))) = (a &&& r) + 256 * ((b &&& r) + 256 * (c &&& (r + 256 * r))) := by
  rw [and_split ha hr, and_split hb hr]
def f1b (a : Nat) : Nat := a - ((a / 2) &&& 0x55)
def f2b (t : Nat) : Nat := (t &&& 0x33) + ((t / 4) &&& 0x33)
def f3b (t : Nat) : Nat := (t + t / 16) &&& 0x0f
theorem by1 : ∀ a, a < 256 → ∀ d, d < 2 → ((a / 2 + 128 * d) &&& 0x55) = ((a / 2) &&& 0x55) ∧ ((a / 2) &&& 0x55) ≤ a := by decide +kernel
theorem by2 : ∀ a, a < 256 → ∀ d, d < 4 → ((a / 4 + 64 * d) &&& 0x33) = ((a / 4) &&& 0x33) := by decide +kernel
theorem by3 : ∀ a, a < 256 → f2b (f1b a) ≤ 68 ∧ f2b (f1b a) % 16 ≤ 4 ∧ f2b (f1b a) / 16 ≤ 4 ∧ f1b a < 256 := by decide +kernel
theorem by4 : ∀ t, t ≤ 68 → ∀ d, d ≤ 4 → ((t + t / 16 + 16 * d) &&& 0x0f) = f3b t := by decide +kernel
theorem by5 : ∀ a, a < 256 → f3b (f2b (f1b a)) = fb_ct (fun i => a.testBit i) 8 ∧ fb_ct (fun i => a.testBit i) 8 ≤ 8 := by decide +kernel
theorem and_low {x : Nat} (h : x < 256) (r : Nat) (hr : r < 256) : x &&& (r + 256 * r) = x &&& r := by
  have := and_split (p := x) (q := 0) (r := r) (s := r) h hr
  simpa using this
theorem pc_1 {a b c : Nat} (ha : a < 256) (hb : b < 256) (hc : c < 256) : (a + 256 * (b + 256 * c)) - (((a + 256 * (b + 256 * c)) / 2) &&& 0x55555555) = f1b a + 256 * (f1b b + 256 * f1b c) := by
  have e : (a + 256 * (b + 256 * c)) / 2 = (a / 2 + 128 * (b % 2)) + 256 * ((b / 2 + 128 * (c % 2)) + 256 * (c / 2)) := by omega
  rw [e, show (0x55555555 : Nat) = 0x55 + 256 * (0x55 + 256 * (0x55 + 256 * 0x55)) from rfl, and3 (by omega) (by omega) (by decide), and_low (by omega) _ (by decide)]
  have h1 := by1 a ha (b % 2) (by omega)
  have h2 := by1 b hb (c % 2) (by omega)
  have h3 := by1 c hc 0 (by omega)
  rw [h1.1, h2.1]
  unfold f1b
  omega
theorem pc_2 {a b c : Nat} (ha : a < 256) (hb : b < 256) (hc : c < 256) : ((a + 256 * (b + 256 * c)) &&& 0x33333333) + (((a + 256 * (b + 256 * c)) / 4) &&& 0x33333333) = f2b a + 256 * (f2b b + 256 * f2b c) := by
  have e : (a + 256 * (b + 256 * c)) / 4 = (a / 4 + 64 * (b % 4)) + 256 * ((b / 4 + 64 * (c % 4)) + 256 * (c / 4)) := by omega
  rw [e, show (0x33333333 : Nat) = 0x33 + 256 * (0x33 + 256 * (0x33 + 256 * 0x33)) from rfl, and3 ha hb (by decide), and_low hc _ (by decide), and3 (by omega) (by omega) (by decide), and_low (by omega) _ (by decide)]
  rw [by2 a ha (b % 4) (by omega), by2 b hb (c % 4) (by omega)]
  unfold f2b
  omega
theorem pc_3 {a b c : Nat} (ha : a ≤ 68) (hb : b ≤ 68) (hc : c ≤ 68) (hb2 : b % 16 ≤ 4) (hc2 : c % 16 ≤ 4) : (((a + 256 * (b + 256 * c)) + (a + 256 * (b + 256 * c)) / 16) &&& 0x0f0f0f0f) = f3b a + 256 * (f3b b + 256 * f3b c) := by
  have e : (a + 256 * (b + 256 * c)) + (a + 256 * (b + 256 * c)) / 16 = (a + a / 16 + 16 * (b % 16)) + 256 * ((b + b / 16 + 16 * (c % 16)) + 256 * (c + c / 16 + 16 * 0)) := by omega
  rw [e, show (0x0f0f0f0f : Nat) = 0x0f + 256 * (0x0f + 256 * (0x0f + 256 * 0x0f)) from rfl, and3 (by omega) (by omega) (by decide), and_low (by omega) _ (by decide)]
  rw [by4 a ha _ hb2, by4 b hb _ hc2, by4 c hc 0 (by omega)]
theorem pc_ct {a b c : Nat} (ha : a < 256) (hb : b < 256) : pcn (a + 256 * (b + 256 * c)) = fb_ct (fun i => a.testBit i) 8 + (fb_ct (fun i => b.testBit i) 8 + fb_ct (fun i => c.testBit i) 8) := by
  unfold pcn
  have s1 := fb_ct_split (fun i => (a + 256 * (b + 256 * c)).testBit i) 8 16
  have s2 := fb_ct_split (fun i => (b + 256 * c).testBit i) 8 8
  have t : ∀ (p q i : Nat), p < 256 → (p + 256 * q).testBit i = if i < 8 then p.testBit i else q.testBit (i - 8) := by
    intro p q i hp
    have := Nat.testBit_two_pow_mul_add q (i := 8) (b := p) hp i
    rw [Nat.add_comm]
    exact this
  rw [show (24 : Nat) = 8 + 16 from rfl, s1]
  congr 1
  · exact fb_ct_cong fun k hk => by rw [t _ _ _ ha, if_pos hk]
  · have e : fb_ct (fun k => (a + 256 * (b + 256 * c)).testBit (8 + k)) 16 = fb_ct (fun i => (b + 256 * c).testBit i) (8 + 8) := fb_ct_cong fun k hk => by rw [t _ _ _ ha, if_neg (by omega)]; congr 1; omega
    rw [e, s2]
    congr 1
    · exact fb_ct_cong fun k hk => by rw [t _ _ _ hb, if_pos hk]
    · exact fb_ct_cong fun k hk => by rw [t _ _ _ hb, if_neg (by omega)]; congr 1; omega
theorem pcn_le (g : Nat) : pcn g ≤ 24 := fb_ct_le _ 24
theorem pc_fin : ∀ p, p < 9 → ∀ q, q < 9 → ∀ r, r < 9 → (((p + 256 * (q + 256 * r)) + (p + 256 * (q + 256 * r)) / 256) + ((p + 256 * (q + 256 * r)) + (p + 256 * (q + 256 * r)) / 256) / 65536) % 2 ^ 6 = p + (q + r) := by decide +kernel
/-- the machine's count over naturals -/
theorem pc_all {g : Nat} (hg : g < 2 ^ 24) : ∃ x1 x2 x3, x1 = g - ((g / 2) &&& 0x55555555) ∧ ((g / 2) &&& 0x55555555) ≤ g ∧ x1 < 2 ^ 25 ∧ x2 = (x1 &&& 0x33333333) + ((x1 / 4) &&& 0x33333333) ∧ x2 < 2 ^ 25 ∧ x3 = ((x2 + x2 / 16) &&& 0x0f0f0f0f) ∧ x3 < 2 ^ 25 ∧ ((x3 + x3 / 256) + (x3 + x3 / 256) / 65536) &&& 63 = pcn g := by
  obtain ⟨a, b, c, ha, hb, hc, rfl⟩ : ∃ a b c, a < 256 ∧ b < 256 ∧ c < 256 ∧ g = a + 256 * (b + 256 * c) := ⟨g % 256, g / 256 % 256, g / 65536, by omega, by omega, by omega, by omega⟩
  have A := by3 a ha
  have B := by3 b hb
  have C := by3 c hc
  have A5 := by5 a ha
  have B5 := by5 b hb
  have C5 := by5 c hc
  refine ⟨_, _, _, rfl, ?_, ?_, rfl, ?_, rfl, ?_, ?_⟩
  · exact Nat.le_trans Nat.and_le_left (Nat.div_le_self _ _)
  · rw [pc_1 ha hb hc]; omega
  · rw [pc_1 ha hb hc, pc_2 A.2.2.2 B.2.2.2 C.2.2.2]; omega
  · rw [pc_1 ha hb hc, pc_2 A.2.2.2 B.2.2.2 C.2.2.2, pc_3 A.1 B.1 C.1 B.2.1 C.2.1, A5.1, B5.1, C5.1]; omega
  · rw [pc_1 ha hb hc, pc_2 A.2.2.2 B.2.2.2 C.2.2.2, pc_3 A.1 B.1 C.1 B.2.1 C.2.1, A5.1, B5.1, C5.1, pc_ct ha hb, show (63 : Nat) = 2 ^ 6 - 1 from rfl, Nat.and_two_pow_sub_one_eq_mod]
    exact pc_fin _ (by omega) _ (by omega) _ (by omega)
theorem nI_ush {n k : Nat} (hn : n < 2 ^ 32) (hk : k < 32) : ((nI n).toUInt32 >>> ((nI k).toUInt32 &&& Int32.toUInt32 31)).toInt32 = nI (n / 2 ^ k) := pk_ushrN hn (nI k) k (s_u k hk)

theorem sp_bits {h : nPH} {g : Nat} (hg : g < 2 ^ 24) : nRd YJ6_bitCount_0f7a4 [.int (nI g)] h (.int (nI (pcn g))) := by
  obtain ⟨x1, x2, x3, e1, e1b, b1, e2, b2, e3, b3, e4⟩ := pc_all hg
  refine nSp_of (by decide +kernel) rfl (Nat.le_of_ble_eq_true rfl) (ls := [some (.int (nI (g)))]) (by exact (And.intro rfl True.intro)) ?_
  refine x_iload_n rfl d_J6_bitCount_0f7a4_0 ?_
  refine x_iload_n rfl d_J6_bitCount_0f7a4_1 ?_
  refine x_iconst (v := nI 1) (by decide) d_J6_bitCount_0f7a4_2 ?_
  refine x_iushr d_J6_bitCount_0f7a4_3 ?_
  rw [nI_ush (n := g) (k := 1) (by omega) (by decide)]
  refine x_ldcw (v := nI 1431655765) d_J6_bitCount_0f7a4_4 ct_10_265 ?_
  refine x_iand d_J6_bitCount_0f7a4_7 ?_
  rw [fa_and]
  refine x_isubN d_J6_bitCount_0f7a4_8 e1b ?_
  rw [show g - (g / 2 ^ 1 &&& 1431655765) = x1 from e1.symm]
  refine x_istore_n d_J6_bitCount_0f7a4_9 (Nat.le_of_ble_eq_true rfl) ?_
  refine x_iload_n rfl d_J6_bitCount_0f7a4_10 ?_
  refine x_ldcw (v := nI 858993459) d_J6_bitCount_0f7a4_11 ct_10_266 ?_
  refine x_iand d_J6_bitCount_0f7a4_14 ?_
  rw [fa_and]
  refine x_iload_n rfl d_J6_bitCount_0f7a4_15 ?_
  refine x_iconst (v := nI 2) (by decide) d_J6_bitCount_0f7a4_16 ?_
  refine x_iushr d_J6_bitCount_0f7a4_17 ?_
  rw [nI_ush (n := x1) (k := 2) (by omega) (by decide)]
  refine x_ldcw (v := nI 858993459) d_J6_bitCount_0f7a4_18 ct_10_266 ?_
  refine x_iand d_J6_bitCount_0f7a4_21 ?_
  rw [fa_and]
  refine x_iaddN d_J6_bitCount_0f7a4_22 ?_
  rw [show (x1 &&& 858993459) + (x1 / 2 ^ 2 &&& 858993459) = x2 from e2.symm]
  refine x_istore_n d_J6_bitCount_0f7a4_23 (Nat.le_of_ble_eq_true rfl) ?_
  refine x_iload_n rfl d_J6_bitCount_0f7a4_24 ?_
  refine x_iload_n rfl d_J6_bitCount_0f7a4_25 ?_
  refine x_iconst (v := nI 4) (by decide) d_J6_bitCount_0f7a4_26 ?_
  refine x_iushr d_J6_bitCount_0f7a4_27 ?_
  rw [nI_ush (n := x2) (k := 4) (by omega) (by decide)]
  refine x_iaddN d_J6_bitCount_0f7a4_28 ?_
  refine x_ldcw (v := nI 252645135) d_J6_bitCount_0f7a4_29 ct_10_267 ?_
  refine x_iand d_J6_bitCount_0f7a4_32 ?_
  rw [fa_and, show (x2 + x2 / 2 ^ 4 &&& 252645135) = x3 from e3.symm]
  refine x_istore_n d_J6_bitCount_0f7a4_33 (Nat.le_of_ble_eq_true rfl) ?_
  refine x_iload_n rfl d_J6_bitCount_0f7a4_34 ?_
  refine x_iload_n rfl d_J6_bitCount_0f7a4_35 ?_
  refine x_bipush (v := nI 8) (by decide) d_J6_bitCount_0f7a4_36 ?_
  refine x_iushr d_J6_bitCount_0f7a4_38 ?_
  rw [nI_ush (n := x3) (k := 8) (by omega) (by decide)]
  refine x_iaddN d_J6_bitCount_0f7a4_39 ?_
  refine x_istore_n d_J6_bitCount_0f7a4_40 (Nat.le_of_ble_eq_true rfl) ?_
  refine x_iload_n rfl d_J6_bitCount_0f7a4_41 ?_
  refine x_iload_n rfl d_J6_bitCount_0f7a4_42 ?_
  refine x_bipush (v := nI 16) (by decide) d_J6_bitCount_0f7a4_43 ?_
  refine x_iushr d_J6_bitCount_0f7a4_45 ?_
  rw [nI_ush (n := x3 + x3 / 2 ^ 8) (k := 16) (by omega) (by decide)]
  refine x_iaddN d_J6_bitCount_0f7a4_46 ?_
  refine x_istore_n d_J6_bitCount_0f7a4_47 (Nat.le_of_ble_eq_true rfl) ?_
  refine x_iload_n rfl d_J6_bitCount_0f7a4_48 ?_
  refine x_bipush (v := nI 63) (by decide) d_J6_bitCount_0f7a4_49 ?_
  refine x_iand d_J6_bitCount_0f7a4_51 ?_
  rw [fa_and, show (x3 + x3 / 2 ^ 8 + (x3 + x3 / 2 ^ 8) / 2 ^ 16 &&& 63) = pcn g from e4]
  exact x_ireturn d_J6_bitCount_0f7a4_52 rfl rfl rfl rfl (Nat.zero_le _) (Nat.zero_le _) (⟨rfl, rfl⟩)
/-- what a knot counts for in countOver -/
def shr (D : Nat → Nat → Nat) (k c : Nat) : Nat := if c = 5 then 1 else if c = 6 then D 3 k else if c = 7 then D 5 k else pcn (D 6 k)
theorem sp_share5 {h : nPH} {a : Nat} {D : Nat → Nat → Nat} (H : o3 h a D) (R : rOK D) {k : Nat} (hk : k < 24) : nRd YX3_shareOf [.ref a, .int (nI k), .int (nI 5)] h (.int (nI (shr D k 5))) := by
  obtain ⟨r1, r2, r3, r4, r5, r6⟩ := R.2 k hk
  have r7 := rOK_6 R hk
  refine nSp_of (by decide +kernel) rfl (Nat.le_of_ble_eq_true rfl) (ls := [some (.ref (a)), some (.int (nI (k))), some (.int (nI (5)))]) (by exact (And.intro rfl (And.intro rfl (And.intro rfl True.intro)))) ?_
  refine x_iload_n rfl d_X3_shareOf_0 ?_
  refine x_tableIn (off := 31) (tgt := 32) d_X3_shareOf_1 (by decide) (by decide) (by decide) (by decide) ?_
  refine x_iconst (v := nI 1) (by decide) d_X3_shareOf_32 ?_
  exact x_ireturn d_X3_shareOf_33 rfl rfl rfl rfl (Nat.zero_le _) (Nat.zero_le _) (⟨rfl, rfl⟩)
theorem sp_share6 {h : nPH} {a : Nat} {D : Nat → Nat → Nat} (H : o3 h a D) (R : rOK D) {k : Nat} (hk : k < 24) : nRd YX3_shareOf [.ref a, .int (nI k), .int (nI 6)] h (.int (nI (shr D k 6))) := by
  obtain ⟨r1, r2, r3, r4, r5, r6⟩ := R.2 k hk
  have r7 := rOK_6 R hk
  refine nSp_of (by decide +kernel) rfl (Nat.le_of_ble_eq_true rfl) (ls := [some (.ref (a)), some (.int (nI (k))), some (.int (nI (6)))]) (by exact (And.intro rfl (And.intro rfl (And.intro rfl True.intro)))) ?_
  refine x_iload_n rfl d_X3_shareOf_0 ?_
  refine x_tableIn (off := 33) (tgt := 34) d_X3_shareOf_1 (by decide) (by decide) (by decide) (by decide) ?_
  refine x_aload_n rfl d_X3_shareOf_34 ?_
  refine x_getf co_all (v := .ref (a + 3)) d_X3_shareOf_35 fk_3_18 (o3_o H) rfl ?_
  refine x_iload_n rfl d_X3_shareOf_38 ?_
  refine x_iaload d_X3_shareOf_39 (o3_3 H) (nIx_nI (j := k) (by omega) (by decide)) ?_
  exact x_ireturn d_X3_shareOf_40 rfl rfl rfl rfl (Nat.zero_le _) (Nat.zero_le _) (⟨rfl, rfl⟩)
theorem sp_share7 {h : nPH} {a : Nat} {D : Nat → Nat → Nat} (H : o3 h a D) (R : rOK D) {k : Nat} (hk : k < 24) : nRd YX3_shareOf [.ref a, .int (nI k), .int (nI 7)] h (.int (nI (shr D k 7))) := by
  obtain ⟨r1, r2, r3, r4, r5, r6⟩ := R.2 k hk
  have r7 := rOK_6 R hk
  refine nSp_of (by decide +kernel) rfl (Nat.le_of_ble_eq_true rfl) (ls := [some (.ref (a)), some (.int (nI (k))), some (.int (nI (7)))]) (by exact (And.intro rfl (And.intro rfl (And.intro rfl True.intro)))) ?_
  refine x_iload_n rfl d_X3_shareOf_0 ?_
  refine x_tableIn (off := 40) (tgt := 41) d_X3_shareOf_1 (by decide) (by decide) (by decide) (by decide) ?_
  refine x_aload_n rfl d_X3_shareOf_41 ?_
  refine x_getf co_all (v := .ref (a + 5)) d_X3_shareOf_42 fk_3_24 (o3_o H) rfl ?_
  refine x_iload_n rfl d_X3_shareOf_45 ?_
  refine x_iaload d_X3_shareOf_46 (o3_5 H) (nIx_nI (j := k) (by omega) (by decide)) ?_
  exact x_ireturn d_X3_shareOf_47 rfl rfl rfl rfl (Nat.zero_le _) (Nat.zero_le _) (⟨rfl, rfl⟩)
theorem sp_share8 {h : nPH} {a : Nat} {D : Nat → Nat → Nat} (H : o3 h a D) (R : rOK D) {k : Nat} (hk : k < 24) : nRd YX3_shareOf [.ref a, .int (nI k), .int (nI 8)] h (.int (nI (shr D k 8))) := by
  obtain ⟨r1, r2, r3, r4, r5, r6⟩ := R.2 k hk
  have r7 := rOK_6 R hk
  refine nSp_of (by decide +kernel) rfl (Nat.le_of_ble_eq_true rfl) (ls := [some (.ref (a)), some (.int (nI (k))), some (.int (nI (8)))]) (by exact (And.intro rfl (And.intro rfl (And.intro rfl True.intro)))) ?_
  refine x_iload_n rfl d_X3_shareOf_0 ?_
  refine x_tableIn (off := 47) (tgt := 48) d_X3_shareOf_1 (by decide) (by decide) (by decide) (by decide) ?_
  refine x_aload_n rfl d_X3_shareOf_48 ?_
  refine x_getf co_all (v := .ref (a + 6)) d_X3_shareOf_49 fk_3_27 (o3_o H) rfl ?_
  refine x_iload_n rfl d_X3_shareOf_52 ?_
  refine x_iaload d_X3_shareOf_53 (o3_6 H) (nIx_nI (j := k) (by omega) (by decide)) ?_
  refine x_rdS d_X3_shareOf_54 lk_3_76 mo_J6_bitCount_0f7a4 sc_J6_bitCount_0f7a4 (sp_bits r7) rfl ⟨Nat.le_of_ble_eq_true rfl, Nat.le_of_ble_eq_true rfl⟩ rfl rfl (Nat.zero_le _) (Nat.zero_le _) (Nat.le_of_ble_eq_true rfl) rfl ?_
  exact x_ireturn d_X3_shareOf_57 rfl rfl rfl rfl (Nat.zero_le _) (Nat.zero_le _) (⟨rfl, rfl⟩)
theorem sp_share {h : nPH} {a : Nat} {D : Nat → Nat → Nat} (H : o3 h a D) (R : rOK D) {k : Nat} (hk : k < 24) {c : Nat} (h1 : 5 ≤ c) (h2 : c ≤ 8) : nRd YX3_shareOf [.ref a, .int (nI k), .int (nI c)] h (.int (nI (shr D k c))) := by
  have : c = 5 ∨ c = 6 ∨ c = 7 ∨ c = 8 := by omega
  rcases this with rfl | rfl | rfl | rfl
  · exact sp_share5 H R hk
  · exact sp_share6 H R hk
  · exact sp_share7 H R hk
  · exact sp_share8 H R hk
def cov (D : Nat → Nat → Nat) (c n : Nat) : Nat := fb_sm (fun k => shr D k c) n
theorem lp_count {h : nPH} {a : Nat} {D : Nat → Nat → Nat} (H : o3 h a D) (R : rOK D) {c : Nat} (h1 : 5 ≤ c) (h2 : c ≤ 8) : ∀ n k : Nat, k + n = D 0 0 → nG YX3_countOver (nKy YX3_countOver h.1 h.2.1 (fun v h2 => v = some (.int (nI (cov D c (D 0 0)))) ∧ h2 = h)) 0 0 4 [some (.ref (a)), some (.int (nI (c))), some (.int (nI (cov D c k))), some (.int (nI (k)))] [] h := by
  intro n
  have hpl := R.1
  induction n with
  | zero =>
    intro k hk
    refine x_iload_n rfl d_X3_countOver_4 ?_
    refine x_aload_n rfl d_X3_countOver_5 ?_
    refine x_getf co_all (v := .int (nI (D 0 0))) d_X3_countOver_6 fk_3_34 (o3_o H) rfl ?_
    refine x_icmp_geN (tgt := 27) d_X3_countOver_9 (by decide) (by omega) (by omega) (fun c_1 => ?_) (fun c_1 => by exfalso; omega)
    refine x_iload_n rfl d_X3_countOver_27 ?_
    exact x_ireturn d_X3_countOver_28 rfl rfl rfl rfl (Nat.zero_le _) (Nat.zero_le _) (⟨by rw [show k = D 0 0 by omega], rfl⟩)
  | succ n ih =>
    intro k hk
    refine x_iload_n rfl d_X3_countOver_4 ?_
    refine x_aload_n rfl d_X3_countOver_5 ?_
    refine x_getf co_all (v := .int (nI (D 0 0))) d_X3_countOver_6 fk_3_34 (o3_o H) rfl ?_
    refine x_icmp_geN (tgt := 27) d_X3_countOver_9 (by decide) (by omega) (by omega) (fun c_1 => by exfalso; omega) (fun c_1 => ?_)
    refine x_iload_n rfl d_X3_countOver_12 ?_
    refine x_aload_n rfl d_X3_countOver_13 ?_
    refine x_iload_n rfl d_X3_countOver_14 ?_
    refine x_iload_n rfl d_X3_countOver_15 ?_
    refine x_rdV d_X3_countOver_16 lk_3_73 mo_X3_shareOf vi_X3_shareOf (sp_share H R (k := k) (by omega) h1 h2) (o3_o H) ⟨_, rfl, rfl⟩ rfl ⟨Nat.le_of_ble_eq_true rfl, Nat.le_of_ble_eq_true rfl⟩ rfl rfl (Nat.zero_le _) (Nat.zero_le _) (Nat.le_of_ble_eq_true rfl) rfl ?_
    refine x_iaddN d_X3_countOver_19 ?_
    refine x_istore_n d_X3_countOver_20 (Nat.le_of_ble_eq_true rfl) ?_
    refine x_iincN (m := 1) d_X3_countOver_21 rfl (by decide) (Nat.le_of_ble_eq_true rfl) ?_
    refine x_goto (tgt := 4) d_X3_countOver_24 (by decide) ?_
    exact nG.sub (by exact (And.intro rfl (And.intro rfl (And.intro rfl (And.intro rfl True.intro))))) (ih (k + 1) (by omega))
theorem sp_count {h : nPH} {a : Nat} {D : Nat → Nat → Nat} (H : o3 h a D) (R : rOK D) {c : Nat} (h1 : 5 ≤ c) (h2 : c ≤ 8) : nRd YX3_countOver [.ref a, .int (nI c)] h (.int (nI (cov D c (D 0 0)))) := by
  refine nSp_of (by decide +kernel) rfl (Nat.le_of_ble_eq_true rfl) (ls := [some (.ref (a)), some (.int (nI (c))), none, none]) (by exact (And.intro rfl (And.intro rfl True.intro))) ?_
  refine x_iconst (v := nI 0) (by decide) d_X3_countOver_0 ?_
  refine x_istore_n d_X3_countOver_1 (Nat.le_of_ble_eq_true rfl) ?_
  refine x_iconst (v := nI 0) (by decide) d_X3_countOver_2 ?_
  refine x_istore_n d_X3_countOver_3 (Nat.le_of_ble_eq_true rfl) ?_
  exact nG.sub (by exact (And.intro rfl (And.intro rfl (And.intro rfl (And.intro rfl True.intro))))) (lp_count H R h1 h2 (D 0 0) 0 (by omega))
