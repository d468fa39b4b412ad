/-! the loft: all that it holds -/
def o7 (h : nPH) (a : Nat) (D : Nat → Nat → Nat) : Prop := h.2.1 ≤ a ∧ nAt h a = some (nOb 7 [.ref (a + 1), .int (nI (D 1 0)), .ref (a + 2), .int (nV (D 3 0)), .ref (a + 3), .ref (a + 28), .ref (a + 53), .ref (a + 56), .ref (a + 57), .ref (a + 59)]) ∧ nAt h (a + 1) = some (nAr (.object "NetLoft$Panel") 12 (fun r => if r < D 1 0 then some (D 0 r) else none)) ∧ nAt h (a + 2) = some (nAi 101 (fun i => nI (D 2 i)))
theorem o7_B {h : nPH} {a : Nat} {D : Nat → Nat → Nat} (H : o7 h a D) : h.2.1 ≤ a := H.1
theorem o7_o {h : nPH} {a : Nat} {D : Nat → Nat → Nat} (H : o7 h a D) : nAt h a = some (nOb 7 [.ref (a + 1), .int (nI (D 1 0)), .ref (a + 2), .int (nV (D 3 0)), .ref (a + 3), .ref (a + 28), .ref (a + 53), .ref (a + 56), .ref (a + 57), .ref (a + 59)]) := H.2.1
theorem o7_0 {h : nPH} {a : Nat} {D : Nat → Nat → Nat} (H : o7 h a D) : nAt h (a + 1) = some (nAr (.object "NetLoft$Panel") 12 (fun r => if r < D 1 0 then some (D 0 r) else none)) := H.2.2.1
theorem o7_2 {h : nPH} {a : Nat} {D : Nat → Nat → Nat} (H : o7 h a D) : nAt h (a + 2) = some (nAi 101 (fun i => nI (D 2 i))) := H.2.2.2
theorem o7_kept {h h2 : nPH} {a : Nat} {D : Nat → Nat → Nat} (H : o7 h a D) (hB : h2.2.1 = h.2.1) (hq : ∀ q, a ≤ q → q < a + 3 → nAt h2 q = nAt h q) : o7 h2 a D := ⟨by rw [hB]; exact H.1, (hq a (by omega) (by omega)).trans (o7_o H), (hq (a + 1) (by omega) (by omega)).trans (o7_0 H), (hq (a + 2) (by omega) (by omega)).trans (o7_2 H)⟩
theorem o7_put3 (v : Nat) {h : nPH} {a : Nat} {D : Nat → Nat → Nat} (H : o7 h a D) : o7 (nSt h a (nOb 7 (List.set [.ref (a + 1), .int (nI (D 1 0)), .ref (a + 2), .int (nV (D 3 0)), .ref (a + 3), .ref (a + 28), .ref (a + 53), .ref (a + 56), .ref (a + 57), .ref (a + 59)] 3 (.int (nV v))))) a (u2 D 3 0 v) :=
  ⟨H.1, nAt_eq, (nAt_ne (by omega)).trans (o7_0 (D := D) H), (nAt_ne (by omega)).trans (o7_2 (D := D) H)⟩
theorem o7_g3 {S : Nat → Prop} {h0 : nPH} (v : Nat) {h : nPH} {a : Nat} {D : Nat → Nat → Nat} (H : o7 h a D) (F : nFr S h0 h) (hs : S a) : nFr S h0 (nSt h a (nOb 7 (List.set [.ref (a + 1), .int (nI (D 1 0)), .ref (a + 2), .int (nV (D 3 0)), .ref (a + 3), .ref (a + 28), .ref (a + 53), .ref (a + 56), .ref (a + 57), .ref (a + 59)] 3 (.int (nV v))))) := F.st (o7_o H) hs
theorem o7_f2 {S : Nat → Prop} {h0 : nPH} (j v : Nat) {h : nPH} {a : Nat} {D : Nat → Nat → Nat} (H : o7 h a D) (F : nFr S h0 h) (hs : S (a + 2)) : nFr S h0 (nSt h (a + 2) (nAi 101 (nUp (fun i => nI (D 2 i)) j (nI v)))) := F.st (o7_2 H) hs
theorem o7_ast2 (j v : Nat) {h : nPH} {a : Nat} {D : Nat → Nat → Nat} (H : o7 h a D) : o7 (nSt h (a + 2) (nAi 101 (nUp (fun i => nI (D 2 i)) j (nI v)))) a (u2 D 2 j v) :=
  ⟨H.1, (nAt_ne (by omega)).trans (o7_o (D := D) H), (nAt_ne (by omega)).trans (o7_0 (D := D) H), (nAt_eq.trans (by rw [u2_up]))⟩
/-- the cells of a panel -/
def pS (b : Nat) (P : Nat → Nat → Nat) (q : Nat) : Prop := nIv b 3 q ∨ ∃ r, r < P 5 0 ∧ nIv (P 4 r) 7 q
theorem pW_kept {h h2 : nPH} {b : Nat} {P : Nat → Nat → Nat} {R : Nat → Nat → Nat → Nat} (W : pW h b P R) (hB : h2.2.1 = h.2.1) (hq : ∀ q, pS b P q → nAt h2 q = nAt h q) : pW h2 b P R :=
  ⟨o2_kept W.1 hB (fun q h1 h3 => hq q (Or.inl ⟨h1, h3⟩)), W.2.1, fun r hr => ⟨o3_kept (W.2.2.1 r hr).1 hB (fun q h1 h3 => hq q (Or.inr ⟨r, hr, h1, h3⟩)), (W.2.2.1 r hr).2⟩, W.2.2.2⟩
theorem pW_lt {h : nPH} {b : Nat} {P : Nat → Nat → Nat} {R : Nat → Nat → Nat → Nat} (W : pW h b P R) (hw : nWF h) {q : Nat} (hq : pS b P q) : q < h.2.2.1 := by
  rcases hq with z | ⟨r, hr, z⟩
  · have := o2_lt W.1 hw
    have := z.2
    omega
  · have := o3_lt (W.2.2.1 r hr).1 hw
    have := z.2
    omega
theorem apW_S {x n b q : Nat} {P : Nat → Nat → Nat} (A : apW x n b P) (h : pS b P q) : ¬ nIv x n q := fun z => by
  have z1 := z.1
  have z2 := z.2
  rcases h with y | ⟨r, hr, y⟩
  · have y1 := y.1
    have y2 := y.2
    rcases A.1 with e | e <;> omega
  · have y1 := y.1
    have y2 := y.2
    rcases A.2 r hr with e | e <;> omega
/-- two panels share no cell -/
def apP (b : Nat) (P : Nat → Nat → Nat) (c : Nat) (Q : Nat → Nat → Nat) : Prop := apW b 3 c Q ∧ ∀ r, r < P 5 0 → apW (P 4 r) 7 c Q
theorem apP_S {b c q : Nat} {P Q : Nat → Nat → Nat} (A : apP b P c Q) (h : pS b P q) : ¬ pS c Q q := fun z => by
  rcases h with y | ⟨r, hr, y⟩
  · exact apW_S A.1 z y
  · exact apW_S (A.2 r hr) z y
def cF (h : nPH) (a : Nat) (V E Y T S : Nat → Nat → Nat) : Prop := o7 h a V ∧ o0 h (a + 3) E ∧ (∃ G, o0 h (a + 28) G) ∧ o6 h (a + 53) Y ∧ o5 h (a + 56) T ∧ o4 h (a + 57) S ∧ ∃ L, o1 h (a + 59) L
def cQ (h : nPH) (a b n : Nat) (V0 : Nat → Nat) (P : Nat → Nat → Nat → Nat) (R : Nat → Nat → Nat → Nat → Nat) : Prop :=
  (∀ p, p < n → pW h (V0 p) (P p) (R p) ∧ 1 ≤ P p 5 0 ∧ apW a 82 (V0 p) (P p) ∧ apW b 24 (V0 p) (P p)) ∧ (∀ p p2, p < n → p2 < n → p ≠ p2 → apP (V0 p) (P p) (V0 p2) (P p2))
def cW (h : nPH) (a b : Nat) (V : Nat → Nat → Nat) (P : Nat → Nat → Nat → Nat) (R : Nat → Nat → Nat → Nat → Nat) (E Y T S : Nat → Nat → Nat) : Prop :=
  cF h a V E Y T S ∧ cQ h a b (V 1 0) (V 0) P R ∧ V 1 0 ≤ 12 ∧ nWF h ∧ ap a 82 b 24 ∧ b + 24 ≤ h.2.2.1
theorem cF_kept {h h2 : nPH} {a : Nat} {V E Y T S : Nat → Nat → Nat} (H : cF h a V E Y T S) (hB : h2.2.1 = h.2.1) (hq : ∀ q, a ≤ q → q < a + 82 → nAt h2 q = nAt h q) : cF h2 a V E Y T S := by
  obtain ⟨h1, h2_, ⟨G, h3⟩, h4, h5, h6, L, h7⟩ := H
  exact ⟨o7_kept h1 hB (fun q x y => hq q (by omega) (by omega)), o0_kept h2_ hB (fun q x y => hq q (by omega) (by omega)), ⟨G, o0_kept h3 hB (fun q x y => hq q (by omega) (by omega))⟩, o6_kept h4 hB (fun q x y => hq q (by omega) (by omega)), o5_kept h5 hB (fun q x y => hq q (by omega) (by omega)), o4_kept h6 hB (fun q x y => hq q (by omega) (by omega)), L, o1_kept h7 hB (fun q x y => hq q (by omega) (by omega))⟩
theorem cF_lt {h : nPH} {a : Nat} {V E Y T S : Nat → Nat → Nat} (H : cF h a V E Y T S) (hw : nWF h) : a + 82 ≤ h.2.2.1 := by
  obtain ⟨-, -, -, -, -, -, L, h7⟩ := H
  have := hw.lt (o1_3 h7)
  omega
def kB (b : Nat) (h h2 : nPH) : Prop := h2.1 = h.1 ∧ h2.2.1 = h.2.1 ∧ ∀ q, b ≤ q → q < b + 24 → nAt h2 q = nAt h q
theorem kB.rf (b : Nat) (h : nPH) : kB b h h := ⟨rfl, rfl, fun _ _ _ => rfl⟩
theorem kB.tr {b : Nat} {h h2 h3 : nPH} (x : kB b h h2) (y : kB b h2 h3) : kB b h h3 := ⟨y.1.trans x.1, y.2.1.trans x.2.1, fun q h1 h3 => (y.2.2 q h1 h3).trans (x.2.2 q h1 h3)⟩
def uP {α : Type} (P : Nat → α) (p : Nat) (X : α) : Nat → α := fun q => if q = p then X else P q
theorem uP_eq {α : Type} (P : Nat → α) (p : Nat) (X : α) : uP P p X p = X := if_pos rfl
theorem uP_ne {α : Type} {P : Nat → α} {p q : Nat} {X : α} (h : q ≠ p) : uP P p X q = P q := if_neg h
section CW
variable {h h2 : nPH} {a b : Nat} {V : Nat → Nat → Nat} {P : Nat → Nat → Nat → Nat} {R : Nat → Nat → Nat → Nat → Nat} {E Y T S : Nat → Nat → Nat}
/-- one panel is another one now -/
theorem cW_p (W : cW h a b V P R E Y T S) {p : Nat} (hp : p < V 1 0) {P2 : Nat → Nat → Nat} {R2 : Nat → Nat → Nat → Nat} (hw2 : nWF h2) (hD : h2.1 = h.1) (hB : h2.2.1 = h.2.1) (hz : h.2.2.1 ≤ h2.2.2.1) (hk : ∀ q, q < h.2.2.1 → ¬ pS (V 0 p) (P p) q → nAt h2 q = nAt h q) (Wp : pW h2 (V 0 p) P2 R2) (h1 : 1 ≤ P2 5 0) (hA : ∀ r, r < P2 5 0 → (r < P p 5 0 ∧ P2 4 r = P p 4 r) ∨ h.2.2.1 ≤ P2 4 r) : kB b h h2 ∧ cW h2 a b V (uP P p P2) (uP R p R2) E Y T S := by
  obtain ⟨w1, ⟨w2, w3⟩, w4, w5, w6, w7⟩ := W
  have l1 := cF_lt w1 w5
  have hS : ∀ q, q < h.2.2.1 → pS (V 0 p) P2 q → pS (V 0 p) (P p) q := fun q hq z => by
    rcases z with z | ⟨r, hr, z⟩
    · exact Or.inl z
    · rcases hA r hr with ⟨e1, e2⟩ | e
      · exact Or.inr ⟨r, e1, by rw [← e2]; exact z⟩
      · have := z.1
        omega
  have hap : ∀ x n, x + n ≤ h.2.2.1 → apW x n (V 0 p) (P p) → apW x n (V 0 p) P2 := fun x n hx A => ⟨A.1, fun r hr => by
    rcases hA r hr with ⟨e1, e2⟩ | e
    · rw [e2]; exact A.2 r e1
    · exact Or.inl (by omega)⟩
  refine ⟨⟨hD, hB, fun q q1 q2 => hk q (by omega) (fun z => apW_S (w2 p hp).2.2.2 z ⟨q1, q2⟩)⟩, cF_kept w1 hB (fun q q1 q2 => hk q (by omega) (fun z => apW_S (w2 p hp).2.2.1 z ⟨q1, q2⟩)), ⟨fun p2 hp2 => ?_, fun p2 p3 hp2 hp3 hne => ?_⟩, w4, hw2, w6, by omega⟩
  · by_cases e : p2 = p
    · subst e
      rw [uP_eq, uP_eq]
      exact ⟨Wp, h1, hap _ _ l1 (w2 p2 hp2).2.2.1, hap _ _ w7 (w2 p2 hp2).2.2.2⟩
    · rw [uP_ne e, uP_ne e]
      have A := w3 p2 p hp2 hp e
      exact ⟨pW_kept (w2 p2 hp2).1 hB (fun q hq => hk q (pW_lt (w2 p2 hp2).1 w5 hq) (apP_S A hq)), (w2 p2 hp2).2⟩
  · by_cases e : p2 = p
    · subst e
      have e3 : p3 ≠ p2 := fun z => hne z.symm
      rw [uP_eq, uP_ne e3]
      have A := w3 p2 p3 hp2 hp3 hne
      have B := w3 p3 p2 hp3 hp2 e3
      refine ⟨A.1, fun r hr => ?_⟩
      rcases hA r hr with ⟨e1, e2⟩ | e
      · rw [e2]; exact A.2 r e1
      · refine ⟨Or.inr ?_, fun r2 hr2 => Or.inr ?_⟩
        · have := o2_lt (w2 p3 hp3).1.1 w5
          omega
        · have := o3_lt ((w2 p3 hp3).1.2.2.1 r2 hr2).1 w5
          omega
    · rw [uP_ne e]
      by_cases e3 : p3 = p
      · subst e3
        rw [uP_eq]
        have A := w3 p2 p3 hp2 hp3 hne
        exact ⟨hap _ _ (o2_lt (w2 p2 hp2).1.1 w5) A.1, fun r hr => hap _ _ (o3_lt ((w2 p2 hp2).1.2.2.1 r hr).1 w5) (A.2 r hr)⟩
      · rw [uP_ne e3]
        exact w3 p2 p3 hp2 hp3 hne
theorem cW_pf (W : cW h a b V P R E Y T S) {p : Nat} (hp : p < V 1 0) {X : Nat → Prop} {R2 : Nat → Nat → Nat → Nat} (F : nFr X h h2) (hX : ∀ q, X q → pS (V 0 p) (P p) q) {P2 : Nat → Nat → Nat} (Wp : pW h2 (V 0 p) P2 R2) (h5 : P2 5 0 = P p 5 0) (h4 : ∀ r, P2 4 r = P p 4 r) : kB b h h2 ∧ cW h2 a b V (uP P p P2) (uP R p R2) E Y T S :=
  cW_p W hp (F.2.2.2.1 W.2.2.2.1) F.1 F.2.1 (by rw [F.2.2.1]; exact Nat.le_refl _) (fun q _ hq => F.2.2.2.2 q (fun z => hq (hX q z))) Wp (by rw [h5]; exact (W.2.1.1 p hp).2.1) (fun r hr => Or.inl ⟨by rw [← h5]; exact hr, h4 r⟩)
/-- a change in the loft's own cells -/
theorem cW_o (W : cW h a b V P R E Y T S) {X : Nat → Prop} {V2 E2 Y2 T2 S2 : Nat → Nat → Nat} (F : nFr X h h2) (hX : ∀ q, X q → nIv a 82 q) (C : cF h2 a V2 E2 Y2 T2 S2) (h1 : V2 1 0 = V 1 0) (h0 : ∀ p, V2 0 p = V 0 p) : kB b h h2 ∧ cW h2 a b V2 P R E2 Y2 T2 S2 := by
  obtain ⟨w1, ⟨w2, w3⟩, w4, w5, w6, w7⟩ := W
  have e0 : V2 0 = V 0 := funext h0
  refine ⟨⟨F.1, F.2.1, fun q q1 q2 => F.2.2.2.2 q (fun z => by have z1 := (hX q z).1; have z2 := (hX q z).2; rcases w6 with e | e <;> omega)⟩, C, ?_, by rw [h1]; exact w4, F.2.2.2.1 w5, w6, by rw [F.2.2.1]; exact w7⟩
  rw [h1, e0]
  exact ⟨fun p hp => ⟨pW_kept (w2 p hp).1 F.2.1 (fun q hq => F.2.2.2.2 q (fun z => apW_S (w2 p hp).2.2.1 hq (hX q z))), (w2 p hp).2⟩, w3⟩
/-- a change in the other's cells -/
theorem cW_m (W : cW h a b V P R E Y T S) (F : nFr (nIv b 24) h h2) : cW h2 a b V P R E Y T S := by
  obtain ⟨w1, ⟨w2, w3⟩, w4, w5, w6, w7⟩ := W
  exact ⟨cF_kept w1 F.2.1 (fun q q1 q2 => F.2.2.2.2 q (fun z => by have z1 := z.1; have z2 := z.2; rcases w6 with e | e <;> omega)), ⟨fun p hp => ⟨pW_kept (w2 p hp).1 F.2.1 (fun q hq => F.2.2.2.2 q (fun z => apW_S (w2 p hp).2.2.2 hq z)), (w2 p hp).2⟩, w3⟩, w4, F.2.2.2.1 w5, w6, by rw [F.2.2.1]; exact w7⟩
theorem cW_wf (W : cW h a b V P R E Y T S) : nWF h := W.2.2.2.1
theorem cW_n (W : cW h a b V P R E Y T S) : V 1 0 ≤ 12 := W.2.2.1
theorem cW_7 (W : cW h a b V P R E Y T S) : o7 h a V := W.1.1
theorem cW_q (W : cW h a b V P R E Y T S) {p : Nat} (hp : p < V 1 0) : pW h (V 0 p) (P p) (R p) := (W.2.1.1 p hp).1
theorem cW_1 (W : cW h a b V P R E Y T S) {p : Nat} (hp : p < V 1 0) : 1 ≤ P p 5 0 := (W.2.1.1 p hp).2.1
theorem cW_a (W : cW h a b V P R E Y T S) {p : Nat} (hp : p < V 1 0) : apW a 82 (V 0 p) (P p) := (W.2.1.1 p hp).2.2.1
theorem apW_sub {x n y m c : Nat} {Q : Nat → Nat → Nat} (A : apW x n c Q) (h1 : x ≤ y) (h2 : y + m ≤ x + n) : apW y m c Q := by
  refine ⟨?_, fun r hr => ?_⟩
  · rcases A.1 with e | e
    · exact Or.inl (by omega)
    · exact Or.inr (by omega)
  · rcases A.2 r hr with e | e
    · exact Or.inl (by omega)
    · exact Or.inr (by omega)
theorem nFr_up {x n y m : Nat} (h1 : x ≤ y) (h2 : y + m ≤ x + n) : ∀ q, nIv y m q → nIv x n q := fun q z => ⟨by have := z.1; omega, by have := z.2; omega⟩
end CW
