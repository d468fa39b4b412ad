/-! rows over naturals: an int nI n, a long lN n -/
theorem nI_mul (a b : Nat) : nI a * nI b = nI (a * b) := pk_mul a b
theorem nI_sub {a b : Nat} (h : b ≤ a) : nI a - nI b = nI (a - b) := by
  have : nI a = nI (a - b) + nI b := by rw [nI_add, Nat.sub_add_cancel h]
  rw [this, Int32.add_sub_cancel]
def nB (c : Prop) [Decidable c] : Nat := if c then 1 else 0
theorem nB_T {c : Prop} [Decidable c] (h : c) : nB c = 1 := if_pos h
theorem nB_F {c : Prop} [Decidable c] (h : ¬ c) : nB c = 0 := if_neg h
theorem nB_le (c : Prop) [Decidable c] : nB c ≤ 1 := by unfold nB; split <;> omega
theorem nB_0 {c : Prop} [Decidable c] : nB c = 0 ↔ ¬ c := by unfold nB; split <;> simp [*]
theorem nB_1 {c : Prop} [Decidable c] : nB c = 1 ↔ c := by unfold nB; split <;> simp [*]
theorem nB_nar (c : Prop) [Decidable c] : narrow .boolean (.int (nI (nB c))) = .int (nI (nB c)) := by unfold nB; split <;> rfl
theorem nB_nar1 {v : Nat} (h : v ≤ 1) : narrow .boolean (.int (nI v)) = .int (nI v) := by
  match v, h with
  | 0, _ => rfl
  | 1, _ => rfl
theorem nIz (n : Nat) : (OfNat.ofNat n : Int32) = nI n := rfl
/-- an index of the rows of n places -/
def nIn (k : Int32) (n : Nat) : Prop := 0 ≤ k.toInt ∧ k.toInt < n
theorem nIn_of {k : Int32} {n : Nat} (h : nIn k n) (hn : n < 2 ^ 31) : ∃ j, j < n ∧ k = nI j := by
  refine ⟨k.toInt.toNat, by have := h.1; have := h.2; omega, ?_⟩
  refine Int32.toInt_inj.mp ?_
  rw [nI_toInt (by have := h.1; have := h.2; omega)]
  have := h.1
  omega
theorem nIn_nI {j n : Nat} (hj : j < 2 ^ 31) : nIn (nI j) n ↔ j < n := by
  unfold nIn
  rw [nI_toInt hj]
  omega
section NN
variable {y : nM} {κ : nKp} {cu su pc p2 o : Nat} {ls : List (Option Value)} {st : List Value} {h : nPH}
theorem x_iaddN {a b : Nat} (hd : nD y pc .iadd 1 p2 o) (k : nG y κ cu su p2 ls (.int (nI (a + b)) :: st) h) : nG y κ cu su pc ls (.int (nI b) :: .int (nI a) :: st) h := x_iadd hd (by rw [nI_add]; exact k)
theorem x_isubN {a b : Nat} (hd : nD y pc .isub 1 p2 o) (hle : b ≤ a) (k : nG y κ cu su p2 ls (.int (nI (a - b)) :: st) h) : nG y κ cu su pc ls (.int (nI b) :: .int (nI a) :: st) h := x_isub hd (by rw [nI_sub hle]; exact k)
theorem x_imulN {a b : Nat} (hd : nD y pc .imul 1 p2 o) (k : nG y κ cu su p2 ls (.int (nI (a * b)) :: st) h) : nG y κ cu su pc ls (.int (nI b) :: .int (nI a) :: st) h := x_imul hd (by rw [nI_mul]; exact k)
theorem x_idivN {a b : Nat} (hd : nD y pc .idiv 1 p2 o) (h0 : 0 < b) (ha : a < 2 ^ 31) (hb : b < 2 ^ 31) (k : nG y κ cu su p2 ls (.int (nI (a / b)) :: st) h) : nG y κ cu su pc ls (.int (nI b) :: .int (nI a) :: st) h := x_idiv (nI_ne0 h0 hb) hd (by rw [pk_div ha h0 hb]; exact k)
theorem x_iremN {a b : Nat} (hd : nD y pc .irem 1 p2 o) (h0 : 0 < b) (ha : a < 2 ^ 31) (hb : b < 2 ^ 31) (k : nG y κ cu su p2 ls (.int (nI (a % b)) :: st) h) : nG y κ cu su pc ls (.int (nI b) :: .int (nI a) :: st) h := x_irem (nI_ne0 h0 hb) hd (by rw [pk_rem ha h0 hb]; exact k)
theorem x_laddN {a b : Nat} (hd : nD y pc .ladd 1 p2 o) (k : nG y κ cu su p2 ls (.long (lN (a + b)) :: st) h) : nG y κ cu su pc ls (.long (lN b) :: .long (lN a) :: st) h := x_ladd hd (by rw [lN_add]; exact k)
theorem x_lsubN {a b : Nat} (hd : nD y pc .lsub 1 p2 o) (hle : b ≤ a) (k : nG y κ cu su p2 ls (.long (lN (a - b)) :: st) h) : nG y κ cu su pc ls (.long (lN b) :: .long (lN a) :: st) h := x_lsub hd (by rw [lN_sub hle]; exact k)
theorem x_lmulN {a b : Nat} (hd : nD y pc .lmul 1 p2 o) (k : nG y κ cu su p2 ls (.long (lN (a * b)) :: st) h) : nG y κ cu su pc ls (.long (lN b) :: .long (lN a) :: st) h := x_lmul hd (by rw [lN_mul]; exact k)
theorem x_i2lN {a : Nat} (hd : nD y pc .i2l 1 p2 o) (ha : a < 2 ^ 31) (k : nG y κ cu su p2 ls (.long (lN a) :: st) h) : nG y κ cu su pc ls (.int (nI a) :: st) h := x_i2l hd (by rw [nI_l ha]; exact k)
theorem x_iincN {i : Nat} {n : Int} {m x : Nat} (hd : nD y pc (.iinc i n) 3 p2 o) (hl : ls[i]? = some (some (.int (nI x)))) (hm : Int32.ofInt n = nI m) (hi : i < y.2.2.1) (k : nG y κ cu su p2 (nPut ls i (.int (nI (x + m)))) st h) : nG y κ cu su pc ls st h := x_iinc hd hl hi (by rw [hm, nI_add]; exact k)
theorem x_icmp_eqN {a b : Nat} {off : Int} {tgt : Nat} (hd : nD y pc (.if_icmp .eq off) 3 p2 o) (ht : (pc : Int) + off = (tgt : Int)) (ha : a < 2 ^ 31) (hb : b < 2 ^ 31) (k1 : a = b → nG y κ cu su tgt ls st h) (k2 : ¬ a = b → nG y κ cu su p2 ls st h) : nG y κ cu su pc ls (.int (nI b) :: .int (nI a) :: st) h :=
  x_icmp_eq hd ht (fun q => k1 ((nI_eq (a := a) (b := b) ha hb).mp q)) (fun q => k2 (fun e => q ((nI_eq (a := a) (b := b) ha hb).mpr e)))
theorem x_if_eqN {a : Nat} {off : Int} {tgt : Nat} (hd : nD y pc (.ifCond .eq off) 3 p2 o) (ht : (pc : Int) + off = (tgt : Int)) (ha : a < 2 ^ 31) (k1 : a = 0 → nG y κ cu su tgt ls st h) (k2 : ¬ a = 0 → nG y κ cu su p2 ls st h) : nG y κ cu su pc ls (.int (nI a) :: st) h :=
  x_if_eq hd ht (fun q => k1 ((nI_eq (a := a) (b := 0) ha (by decide)).mp q)) (fun q => k2 (fun e => q ((nI_eq (a := a) (b := 0) ha (by decide)).mpr e)))
theorem x_icmp_neN {a b : Nat} {off : Int} {tgt : Nat} (hd : nD y pc (.if_icmp .ne off) 3 p2 o) (ht : (pc : Int) + off = (tgt : Int)) (ha : a < 2 ^ 31) (hb : b < 2 ^ 31) (k1 : ¬ a = b → nG y κ cu su tgt ls st h) (k2 : a = b → nG y κ cu su p2 ls st h) : nG y κ cu su pc ls (.int (nI b) :: .int (nI a) :: st) h :=
  x_icmp_ne hd ht (fun q => k1 (fun e => q ((nI_eq (a := a) (b := b) ha hb).mpr e))) (fun q => k2 ((nI_eq (a := a) (b := b) ha hb).mp q))
theorem x_if_neN {a : Nat} {off : Int} {tgt : Nat} (hd : nD y pc (.ifCond .ne off) 3 p2 o) (ht : (pc : Int) + off = (tgt : Int)) (ha : a < 2 ^ 31) (k1 : ¬ a = 0 → nG y κ cu su tgt ls st h) (k2 : a = 0 → nG y κ cu su p2 ls st h) : nG y κ cu su pc ls (.int (nI a) :: st) h :=
  x_if_ne hd ht (fun q => k1 (fun e => q ((nI_eq (a := a) (b := 0) ha (by decide)).mpr e))) (fun q => k2 ((nI_eq (a := a) (b := 0) ha (by decide)).mp q))
theorem x_icmp_ltN {a b : Nat} {off : Int} {tgt : Nat} (hd : nD y pc (.if_icmp .lt off) 3 p2 o) (ht : (pc : Int) + off = (tgt : Int)) (ha : a < 2 ^ 31) (hb : b < 2 ^ 31) (k1 : a < b → nG y κ cu su tgt ls st h) (k2 : ¬ a < b → nG y κ cu su p2 ls st h) : nG y κ cu su pc ls (.int (nI b) :: .int (nI a) :: st) h :=
  x_icmp_lt hd ht (fun q => k1 ((nI_ltI (a := a) (b := b) ha hb).mp q)) (fun q => k2 (fun e => q ((nI_ltI (a := a) (b := b) ha hb).mpr e)))
theorem x_if_ltN {a : Nat} {off : Int} {tgt : Nat} (hd : nD y pc (.ifCond .lt off) 3 p2 o) (ht : (pc : Int) + off = (tgt : Int)) (ha : a < 2 ^ 31) (k1 : a < 0 → nG y κ cu su tgt ls st h) (k2 : ¬ a < 0 → nG y κ cu su p2 ls st h) : nG y κ cu su pc ls (.int (nI a) :: st) h :=
  x_if_lt hd ht (fun q => k1 ((nI_ltI (a := a) (b := 0) ha (by decide)).mp q)) (fun q => k2 (fun e => q ((nI_ltI (a := a) (b := 0) ha (by decide)).mpr e)))
theorem x_icmp_geN {a b : Nat} {off : Int} {tgt : Nat} (hd : nD y pc (.if_icmp .ge off) 3 p2 o) (ht : (pc : Int) + off = (tgt : Int)) (ha : a < 2 ^ 31) (hb : b < 2 ^ 31) (k1 : b ≤ a → nG y κ cu su tgt ls st h) (k2 : ¬ b ≤ a → nG y κ cu su p2 ls st h) : nG y κ cu su pc ls (.int (nI b) :: .int (nI a) :: st) h :=
  x_icmp_ge hd ht (fun q => k1 ((nI_leI (a := b) (b := a) hb ha).mp q)) (fun q => k2 (fun e => q ((nI_leI (a := b) (b := a) hb ha).mpr e)))
theorem x_if_geN {a : Nat} {off : Int} {tgt : Nat} (hd : nD y pc (.ifCond .ge off) 3 p2 o) (ht : (pc : Int) + off = (tgt : Int)) (ha : a < 2 ^ 31) (k1 : 0 ≤ a → nG y κ cu su tgt ls st h) (k2 : ¬ 0 ≤ a → nG y κ cu su p2 ls st h) : nG y κ cu su pc ls (.int (nI a) :: st) h :=
  x_if_ge hd ht (fun q => k1 ((nI_leI (a := 0) (b := a) (by decide) ha).mp q)) (fun q => k2 (fun e => q ((nI_leI (a := 0) (b := a) (by decide) ha).mpr e)))
theorem x_icmp_gtN {a b : Nat} {off : Int} {tgt : Nat} (hd : nD y pc (.if_icmp .gt off) 3 p2 o) (ht : (pc : Int) + off = (tgt : Int)) (ha : a < 2 ^ 31) (hb : b < 2 ^ 31) (k1 : b < a → nG y κ cu su tgt ls st h) (k2 : ¬ b < a → nG y κ cu su p2 ls st h) : nG y κ cu su pc ls (.int (nI b) :: .int (nI a) :: st) h :=
  x_icmp_gt hd ht (fun q => k1 ((nI_ltI (a := b) (b := a) hb ha).mp q)) (fun q => k2 (fun e => q ((nI_ltI (a := b) (b := a) hb ha).mpr e)))
theorem x_if_gtN {a : Nat} {off : Int} {tgt : Nat} (hd : nD y pc (.ifCond .gt off) 3 p2 o) (ht : (pc : Int) + off = (tgt : Int)) (ha : a < 2 ^ 31) (k1 : 0 < a → nG y κ cu su tgt ls st h) (k2 : ¬ 0 < a → nG y κ cu su p2 ls st h) : nG y κ cu su pc ls (.int (nI a) :: st) h :=
  x_if_gt hd ht (fun q => k1 ((nI_ltI (a := 0) (b := a) (by decide) ha).mp q)) (fun q => k2 (fun e => q ((nI_ltI (a := 0) (b := a) (by decide) ha).mpr e)))
theorem x_icmp_leN {a b : Nat} {off : Int} {tgt : Nat} (hd : nD y pc (.if_icmp .le off) 3 p2 o) (ht : (pc : Int) + off = (tgt : Int)) (ha : a < 2 ^ 31) (hb : b < 2 ^ 31) (k1 : a ≤ b → nG y κ cu su tgt ls st h) (k2 : ¬ a ≤ b → nG y κ cu su p2 ls st h) : nG y κ cu su pc ls (.int (nI b) :: .int (nI a) :: st) h :=
  x_icmp_le hd ht (fun q => k1 ((nI_leI (a := a) (b := b) ha hb).mp q)) (fun q => k2 (fun e => q ((nI_leI (a := a) (b := b) ha hb).mpr e)))
theorem x_if_leN {a : Nat} {off : Int} {tgt : Nat} (hd : nD y pc (.ifCond .le off) 3 p2 o) (ht : (pc : Int) + off = (tgt : Int)) (ha : a < 2 ^ 31) (k1 : a ≤ 0 → nG y κ cu su tgt ls st h) (k2 : ¬ a ≤ 0 → nG y κ cu su p2 ls st h) : nG y κ cu su pc ls (.int (nI a) :: st) h :=
  x_if_le hd ht (fun q => k1 ((nI_leI (a := a) (b := 0) ha (by decide)).mp q)) (fun q => k2 (fun e => q ((nI_leI (a := a) (b := 0) ha (by decide)).mpr e)))
/-- a call that reads only -/
theorem nRet {mc ms : Nat} {z : nM} {r : Value} {rest : List Value} (e1 : nCe z = 0) (e2 : nSl z = 0) (kk : nG y κ cu su p2 ls (r :: rest) h) : ∀ (v : Option Value) (h2 : nPH), (v = some r ∧ h2 = h) → h2.1 = h.1 → h2.2.1 = h.2.1 → nG y κ (cu + nCe z) (su + nSl z) p2 ls (v.toList ++ rest) h2 := by
  rintro _ _ ⟨rfl, rfl⟩ _ _
  rw [e1, e2]
  exact kk
theorem x_rdV {z : nM} {idx n c b : Nat} {As rest st0 fs : List Value} {r : Value} (hd : nD y pc (.invokevirtual idx) 3 p2 o) (hl : nLk o idx z) (hm : nMo z n) (hv : nVi z) (hz : nRd z (.ref b :: As) h r) (hat : nAt h b = some (nOb c fs)) (hcn : ∃ q : vw_C, vwCl[c]? = some q ∧ q.1 = z.1.cls) (hn : As.length = n) (hro : nRo κ z) (e1 : nCe z = 0) (e2 : nSl z = 0) (hrc : cu ≤ κ.1.cells) (hrs : su ≤ κ.1.slots) (hw : (rest.map fun v => v.category).sum ≤ 8) (hst : As.reverse ++ .ref b :: rest = st0)
    (kk : nG y κ cu su p2 ls (r :: rest) h) : nG y κ cu su pc ls st0 h :=
  x_callV hd hl hm hv hz hat hcn hn hro (by rw [e1]; exact hrc) (by rw [e2]; exact hrs) hw hst (nRet (mc := 0) (ms := 0) e1 e2 kk)
theorem x_rdS {z : nM} {idx n : Nat} {As rest st0 : List Value} {r : Value} (hd : nD y pc (.invokestatic idx) 3 p2 o) (hl : nLk o idx z) (hm : nMo z n) (hv : nSc z) (hz : nRd z As h r) (hn : As.length = n) (hro : nRo κ z) (e1 : nCe z = 0) (e2 : nSl z = 0) (hrc : cu ≤ κ.1.cells) (hrs : su ≤ κ.1.slots) (hw : (rest.map fun v => v.category).sum ≤ 8) (hst : As.reverse ++ rest = st0)
    (kk : nG y κ cu su p2 ls (r :: rest) h) : nG y κ cu su pc ls st0 h :=
  x_callS hd hl hm hv hz hn hro (by rw [e1]; exact hrc) (by rw [e2]; exact hrs) hw hst (nRet (mc := 0) (ms := 0) e1 e2 kk)
theorem x_rdSN {z : nM} {idx n : Nat} {As rest st0 : List Value} {r : Value} (hd : nD y pc (.invokestatic idx) 3 p2 o) (hl : nLn o idx z) (hm : nMo z n) (hv : nSc z) (hz : nRd z As h r) (hn : As.length = n) (hro : nRo κ z) (e1 : nCe z = 0) (e2 : nSl z = 0) (hrc : cu ≤ κ.1.cells) (hrs : su ≤ κ.1.slots) (hw : (rest.map fun v => v.category).sum ≤ 8) (hst : As.reverse ++ rest = st0)
    (kk : nG y κ cu su p2 ls (r :: rest) h) : nG y κ cu su pc ls st0 h :=
  x_callSN hd hl hm hv hz hn hro (by rw [e1]; exact hrc) (by rw [e2]; exact hrs) hw hst (nRet (mc := 0) (ms := 0) e1 e2 kk)
end NN
