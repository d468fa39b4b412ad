/-! the hole and the loads: rows of rows, place k of row r at 20 * k + r -/
theorem u2_upN (D : Nat → Nat → Nat) (f r j v : Nat) (hr : r < 20) : nUp (fun k => nI (D f (20 * k + r))) j (nI v) = fun k => nI (u2 D f (20 * j + r) v f (20 * k + r)) := by
  funext i
  by_cases h : i = j
  · simp [nUp, u2, h]
  · rw [u2_ne (by omega)]
    exact if_neg h
theorem u2_upNL (D : Nat → Nat → Nat) (f r j v : Nat) (hr : r < 20) : nUp (fun k => lN (D f (20 * k + r))) j (lN v) = fun k => lN (u2 D f (20 * j + r) v f (20 * k + r)) := by
  funext i
  by_cases h : i = j
  · simp [nUp, u2, h]
  · rw [u2_ne (by omega)]
    exact if_neg h
theorem u2_otN (D : Nat → Nat → Nat) (f r r2 j v : Nat) (hr : r < 20) (hr2 : r2 < 20) (e : r2 ≠ r) : (fun k => nI (u2 D f (20 * j + r) v f (20 * k + r2))) = fun k => nI (D f (20 * k + r2)) := by
  funext i
  rw [u2_ne (by omega)]
theorem u2_otNL (D : Nat → Nat → Nat) (f r r2 j v : Nat) (hr : r < 20) (hr2 : r2 < 20) (e : r2 ≠ r) : (fun k => lN (u2 D f (20 * j + r) v f (20 * k + r2))) = fun k => lN (D f (20 * k + r2)) := by
  funext i
  rw [u2_ne (by omega)]
def o0 (h : nPH) (a : Nat) (D : Nat → Nat → Nat) : Prop := h.2.1 ≤ a ∧ nAt h a = some (nOb 0 [.int (nI (D 0 0)), .int (nI (D 1 0)), .int (nI (D 2 0)), .int (nI (D 3 0)), .ref (a + 1), .ref (a + 2), .ref (a + 3), .ref (a + 24), .int (nI (D 8 0))]) ∧ nAt h (a + 1) = some (nAi 480 (fun i => nI (D 4 i))) ∧ nAt h (a + 2) = some (nAi 480 (fun i => nI (D 5 i))) ∧ nAt h (a + 3) = some (nAr (.array .int) 20 (fun r => some (a + (4 + r)))) ∧ (∀ r, r < 20 → nAt h (a + (4 + r)) = some (nAi 24 (fun k => nI (D 6 (20 * k + r))))) ∧ nAt h (a + 24) = some (nAi 480 (fun i => nI (D 7 i)))
theorem o0_B {h : nPH} {a : Nat} {D : Nat → Nat → Nat} (H : o0 h a D) : h.2.1 ≤ a := H.1
theorem o0_o {h : nPH} {a : Nat} {D : Nat → Nat → Nat} (H : o0 h a D) : nAt h a = some (nOb 0 [.int (nI (D 0 0)), .int (nI (D 1 0)), .int (nI (D 2 0)), .int (nI (D 3 0)), .ref (a + 1), .ref (a + 2), .ref (a + 3), .ref (a + 24), .int (nI (D 8 0))]) := H.2.1
theorem o0_4 {h : nPH} {a : Nat} {D : Nat → Nat → Nat} (H : o0 h a D) : nAt h (a + 1) = some (nAi 480 (fun i => nI (D 4 i))) := H.2.2.1
theorem o0_5 {h : nPH} {a : Nat} {D : Nat → Nat → Nat} (H : o0 h a D) : nAt h (a + 2) = some (nAi 480 (fun i => nI (D 5 i))) := H.2.2.2.1
theorem o0_6 {h : nPH} {a : Nat} {D : Nat → Nat → Nat} (H : o0 h a D) : nAt h (a + 3) = some (nAr (.array .int) 20 (fun r => some (a + (4 + r)))) := H.2.2.2.2.1
theorem o0_6i {h : nPH} {a : Nat} {D : Nat → Nat → Nat} (H : o0 h a D) {r : Nat} (hr : r < 20) : nAt h (a + (4 + r)) = some (nAi 24 (fun k => nI (D 6 (20 * k + r)))) := (H.2.2.2.2.2.1) r hr
theorem o0_7 {h : nPH} {a : Nat} {D : Nat → Nat → Nat} (H : o0 h a D) : nAt h (a + 24) = some (nAi 480 (fun i => nI (D 7 i))) := H.2.2.2.2.2.2
theorem o0_kept {h h2 : nPH} {a : Nat} {D : Nat → Nat → Nat} (H : o0 h a D) (hB : h2.2.1 = h.2.1) (hq : ∀ q, a ≤ q → q < a + 25 → nAt h2 q = nAt h q) : o0 h2 a D := ⟨by rw [hB]; exact H.1, (hq a (by omega) (by omega)).trans (o0_o H), (hq (a + 1) (by omega) (by omega)).trans (o0_4 H), (hq (a + 2) (by omega) (by omega)).trans (o0_5 H), (hq (a + 3) (by omega) (by omega)).trans (o0_6 H), fun r hr => (hq (a + (4 + r)) (by omega) (by omega)).trans (o0_6i H hr), (hq (a + 24) (by omega) (by omega)).trans (o0_7 H)⟩
theorem o0_fr {S : Nat → Prop} {h h2 : nPH} {a : Nat} {D : Nat → Nat → Nat} (H : o0 h a D) (f : nFr S h h2) (hs : ∀ q, a ≤ q → q < a + 25 → ¬ S q) : o0 h2 a D := o0_kept H f.2.1 (fun q h1 h3 => f.2.2.2.2 q (hs q h1 h3))
theorem o0_cg {D2 : Nat → Nat → Nat} {h : nPH} {a : Nat} {D : Nat → Nat → Nat} (H : o0 h a D) (e : ∀ k i, D2 k i = D k i) : o0 h a D2 := by
  have : D2 = D := funext fun k => funext fun i => e k i
  rw [this]; exact H
theorem o0_g0 {S : Nat → Prop} {h0 : nPH} (v : Nat) {h : nPH} {a : Nat} {D : Nat → Nat → Nat} (H : o0 h a D) (F : nFr S h0 h) (hs : S a) : nFr S h0 (nSt h a (nOb 0 (List.set [.int (nI (D 0 0)), .int (nI (D 1 0)), .int (nI (D 2 0)), .int (nI (D 3 0)), .ref (a + 1), .ref (a + 2), .ref (a + 3), .ref (a + 24), .int (nI (D 8 0))] 0 (.int (nI v))))) := F.st (o0_o H) hs
theorem o0_put0 (v : Nat) {h : nPH} {a : Nat} {D : Nat → Nat → Nat} (H : o0 h a D) : o0 (nSt h a (nOb 0 (List.set [.int (nI (D 0 0)), .int (nI (D 1 0)), .int (nI (D 2 0)), .int (nI (D 3 0)), .ref (a + 1), .ref (a + 2), .ref (a + 3), .ref (a + 24), .int (nI (D 8 0))] 0 (.int (nI v))))) a (u2 D 0 0 v) := ⟨H.1, nAt_eq, (nAt_ne (by omega)).trans (o0_4 (D := D) H), (nAt_ne (by omega)).trans (o0_5 (D := D) H), (nAt_ne (by omega)).trans (o0_6 (D := D) H), fun r hr => (nAt_ne (by omega)).trans (o0_6i (D := D) H hr), (nAt_ne (by omega)).trans (o0_7 (D := D) H)⟩
theorem o0_g1 {S : Nat → Prop} {h0 : nPH} (v : Nat) {h : nPH} {a : Nat} {D : Nat → Nat → Nat} (H : o0 h a D) (F : nFr S h0 h) (hs : S a) : nFr S h0 (nSt h a (nOb 0 (List.set [.int (nI (D 0 0)), .int (nI (D 1 0)), .int (nI (D 2 0)), .int (nI (D 3 0)), .ref (a + 1), .ref (a + 2), .ref (a + 3), .ref (a + 24), .int (nI (D 8 0))] 1 (.int (nI v))))) := F.st (o0_o H) hs
theorem o0_put1 (v : Nat) {h : nPH} {a : Nat} {D : Nat → Nat → Nat} (H : o0 h a D) : o0 (nSt h a (nOb 0 (List.set [.int (nI (D 0 0)), .int (nI (D 1 0)), .int (nI (D 2 0)), .int (nI (D 3 0)), .ref (a + 1), .ref (a + 2), .ref (a + 3), .ref (a + 24), .int (nI (D 8 0))] 1 (.int (nI v))))) a (u2 D 1 0 v) := ⟨H.1, nAt_eq, (nAt_ne (by omega)).trans (o0_4 (D := D) H), (nAt_ne (by omega)).trans (o0_5 (D := D) H), (nAt_ne (by omega)).trans (o0_6 (D := D) H), fun r hr => (nAt_ne (by omega)).trans (o0_6i (D := D) H hr), (nAt_ne (by omega)).trans (o0_7 (D := D) H)⟩
theorem o0_g2 {S : Nat → Prop} {h0 : nPH} (v : Nat) {h : nPH} {a : Nat} {D : Nat → Nat → Nat} (H : o0 h a D) (F : nFr S h0 h) (hs : S a) : nFr S h0 (nSt h a (nOb 0 (List.set [.int (nI (D 0 0)), .int (nI (D 1 0)), .int (nI (D 2 0)), .int (nI (D 3 0)), .ref (a + 1), .ref (a + 2), .ref (a + 3), .ref (a + 24), .int (nI (D 8 0))] 2 (.int (nI v))))) := F.st (o0_o H) hs
theorem o0_put2 (v : Nat) {h : nPH} {a : Nat} {D : Nat → Nat → Nat} (H : o0 h a D) : o0 (nSt h a (nOb 0 (List.set [.int (nI (D 0 0)), .int (nI (D 1 0)), .int (nI (D 2 0)), .int (nI (D 3 0)), .ref (a + 1), .ref (a + 2), .ref (a + 3), .ref (a + 24), .int (nI (D 8 0))] 2 (.int (nI v))))) a (u2 D 2 0 v) := ⟨H.1, nAt_eq, (nAt_ne (by omega)).trans (o0_4 (D := D) H), (nAt_ne (by omega)).trans (o0_5 (D := D) H), (nAt_ne (by omega)).trans (o0_6 (D := D) H), fun r hr => (nAt_ne (by omega)).trans (o0_6i (D := D) H hr), (nAt_ne (by omega)).trans (o0_7 (D := D) H)⟩
theorem o0_g3 {S : Nat → Prop} {h0 : nPH} (v : Nat) {h : nPH} {a : Nat} {D : Nat → Nat → Nat} (H : o0 h a D) (F : nFr S h0 h) (hs : S a) : nFr S h0 (nSt h a (nOb 0 (List.set [.int (nI (D 0 0)), .int (nI (D 1 0)), .int (nI (D 2 0)), .int (nI (D 3 0)), .ref (a + 1), .ref (a + 2), .ref (a + 3), .ref (a + 24), .int (nI (D 8 0))] 3 (.int (nI v))))) := F.st (o0_o H) hs
theorem o0_put3 (v : Nat) {h : nPH} {a : Nat} {D : Nat → Nat → Nat} (H : o0 h a D) : o0 (nSt h a (nOb 0 (List.set [.int (nI (D 0 0)), .int (nI (D 1 0)), .int (nI (D 2 0)), .int (nI (D 3 0)), .ref (a + 1), .ref (a + 2), .ref (a + 3), .ref (a + 24), .int (nI (D 8 0))] 3 (.int (nI v))))) a (u2 D 3 0 v) := ⟨H.1, nAt_eq, (nAt_ne (by omega)).trans (o0_4 (D := D) H), (nAt_ne (by omega)).trans (o0_5 (D := D) H), (nAt_ne (by omega)).trans (o0_6 (D := D) H), fun r hr => (nAt_ne (by omega)).trans (o0_6i (D := D) H hr), (nAt_ne (by omega)).trans (o0_7 (D := D) H)⟩
theorem o0_g8 {S : Nat → Prop} {h0 : nPH} (v : Nat) {h : nPH} {a : Nat} {D : Nat → Nat → Nat} (H : o0 h a D) (F : nFr S h0 h) (hs : S a) : nFr S h0 (nSt h a (nOb 0 (List.set [.int (nI (D 0 0)), .int (nI (D 1 0)), .int (nI (D 2 0)), .int (nI (D 3 0)), .ref (a + 1), .ref (a + 2), .ref (a + 3), .ref (a + 24), .int (nI (D 8 0))] 8 (.int (nI v))))) := F.st (o0_o H) hs
theorem o0_put8 (v : Nat) {h : nPH} {a : Nat} {D : Nat → Nat → Nat} (H : o0 h a D) : o0 (nSt h a (nOb 0 (List.set [.int (nI (D 0 0)), .int (nI (D 1 0)), .int (nI (D 2 0)), .int (nI (D 3 0)), .ref (a + 1), .ref (a + 2), .ref (a + 3), .ref (a + 24), .int (nI (D 8 0))] 8 (.int (nI v))))) a (u2 D 8 0 v) := ⟨H.1, nAt_eq, (nAt_ne (by omega)).trans (o0_4 (D := D) H), (nAt_ne (by omega)).trans (o0_5 (D := D) H), (nAt_ne (by omega)).trans (o0_6 (D := D) H), fun r hr => (nAt_ne (by omega)).trans (o0_6i (D := D) H hr), (nAt_ne (by omega)).trans (o0_7 (D := D) H)⟩
theorem o0_f4 {S : Nat → Prop} {h0 : nPH} (j v : Nat) {h : nPH} {a : Nat} {D : Nat → Nat → Nat} (H : o0 h a D) (F : nFr S h0 h) (hs : S (a + 1)) : nFr S h0 (nSt h (a + 1) (nAi 480 (nUp (fun i => nI (D 4 i)) j (nI v)))) := F.st (o0_4 H) hs
theorem o0_ast4 (j v : Nat) {h : nPH} {a : Nat} {D : Nat → Nat → Nat} (H : o0 h a D) : o0 (nSt h (a + 1) (nAi 480 (nUp (fun i => nI (D 4 i)) j (nI v)))) a (u2 D 4 j v) := ⟨H.1, (nAt_ne (by omega)).trans (o0_o (D := D) H), (nAt_eq.trans (by rw [u2_up])), (nAt_ne (by omega)).trans (o0_5 (D := D) H), (nAt_ne (by omega)).trans (o0_6 (D := D) H), fun r hr => (nAt_ne (by omega)).trans (o0_6i (D := D) H hr), (nAt_ne (by omega)).trans (o0_7 (D := D) H)⟩
theorem o0_f5 {S : Nat → Prop} {h0 : nPH} (j v : Nat) {h : nPH} {a : Nat} {D : Nat → Nat → Nat} (H : o0 h a D) (F : nFr S h0 h) (hs : S (a + 2)) : nFr S h0 (nSt h (a + 2) (nAi 480 (nUp (fun i => nI (D 5 i)) j (nI v)))) := F.st (o0_5 H) hs
theorem o0_ast5 (j v : Nat) {h : nPH} {a : Nat} {D : Nat → Nat → Nat} (H : o0 h a D) : o0 (nSt h (a + 2) (nAi 480 (nUp (fun i => nI (D 5 i)) j (nI v)))) a (u2 D 5 j v) := ⟨H.1, (nAt_ne (by omega)).trans (o0_o (D := D) H), (nAt_ne (by omega)).trans (o0_4 (D := D) H), (nAt_eq.trans (by rw [u2_up])), (nAt_ne (by omega)).trans (o0_6 (D := D) H), fun r hr => (nAt_ne (by omega)).trans (o0_6i (D := D) H hr), (nAt_ne (by omega)).trans (o0_7 (D := D) H)⟩
theorem o0_f6 {S : Nat → Prop} {h0 : nPH} (r j v : Nat) (hr : r < 20) {h : nPH} {a : Nat} {D : Nat → Nat → Nat} (H : o0 h a D) (F : nFr S h0 h) (hs : S (a + (4 + r))) : nFr S h0 (nSt h (a + (4 + r)) (nAi 24 (nUp (fun k => nI (D 6 (20 * k + r))) j (nI v)))) := F.st (o0_6i H hr) hs
theorem o0_ast6 (r j v : Nat) (hr : r < 20) {h : nPH} {a : Nat} {D : Nat → Nat → Nat} (H : o0 h a D) : o0 (nSt h (a + (4 + r)) (nAi 24 (nUp (fun k => nI (D 6 (20 * k + r))) j (nI v)))) a (u2 D 6 (20 * j + r) v) := by
  refine ⟨H.1, (nAt_ne (by omega)).trans (o0_o (D := D) H), (nAt_ne (by omega)).trans (o0_4 (D := D) H), (nAt_ne (by omega)).trans (o0_5 (D := D) H), (nAt_ne (by omega)).trans (o0_6 (D := D) H), fun r2 hr2 => ?_, (nAt_ne (by omega)).trans (o0_7 (D := D) H)⟩
  by_cases e : r2 = r
  · subst e
    exact nAt_eq.trans (by rw [u2_upN D 6 r2 j v hr])
  · refine (nAt_ne (by omega)).trans ((o0_6i (D := D) H hr2).trans ?_)
    rw [u2_otN D 6 r r2 j v hr hr2 e]
theorem o0_f7 {S : Nat → Prop} {h0 : nPH} (j v : Nat) {h : nPH} {a : Nat} {D : Nat → Nat → Nat} (H : o0 h a D) (F : nFr S h0 h) (hs : S (a + 24)) : nFr S h0 (nSt h (a + 24) (nAi 480 (nUp (fun i => nI (D 7 i)) j (nI v)))) := F.st (o0_7 H) hs
theorem o0_ast7 (j v : Nat) {h : nPH} {a : Nat} {D : Nat → Nat → Nat} (H : o0 h a D) : o0 (nSt h (a + 24) (nAi 480 (nUp (fun i => nI (D 7 i)) j (nI v)))) a (u2 D 7 j v) := ⟨H.1, (nAt_ne (by omega)).trans (o0_o (D := D) H), (nAt_ne (by omega)).trans (o0_4 (D := D) H), (nAt_ne (by omega)).trans (o0_5 (D := D) H), (nAt_ne (by omega)).trans (o0_6 (D := D) H), fun r hr => (nAt_ne (by omega)).trans (o0_6i (D := D) H hr), (nAt_eq.trans (by rw [u2_up]))⟩
def o1 (h : nPH) (a : Nat) (D : Nat → Nat → Nat) : Prop := h.2.1 ≤ a ∧ nAt h a = some (nOb 1 [.long (lN (D 0 0)), .long (lN (D 1 0)), .ref (a + 1), .ref (a + 22)]) ∧ nAt h (a + 1) = some (nAr (.array .long) 20 (fun r => some (a + (2 + r)))) ∧ (∀ r, r < 20 → nAt h (a + (2 + r)) = some (nAl 24 (fun k => lN (D 2 (20 * k + r))))) ∧ nAt h (a + 22) = some (nAi 24 (fun i => nI (D 3 i)))
theorem o1_B {h : nPH} {a : Nat} {D : Nat → Nat → Nat} (H : o1 h a D) : h.2.1 ≤ a := H.1
theorem o1_o {h : nPH} {a : Nat} {D : Nat → Nat → Nat} (H : o1 h a D) : nAt h a = some (nOb 1 [.long (lN (D 0 0)), .long (lN (D 1 0)), .ref (a + 1), .ref (a + 22)]) := H.2.1
theorem o1_2 {h : nPH} {a : Nat} {D : Nat → Nat → Nat} (H : o1 h a D) : nAt h (a + 1) = some (nAr (.array .long) 20 (fun r => some (a + (2 + r)))) := H.2.2.1
theorem o1_2i {h : nPH} {a : Nat} {D : Nat → Nat → Nat} (H : o1 h a D) {r : Nat} (hr : r < 20) : nAt h (a + (2 + r)) = some (nAl 24 (fun k => lN (D 2 (20 * k + r)))) := (H.2.2.2.1) r hr
theorem o1_3 {h : nPH} {a : Nat} {D : Nat → Nat → Nat} (H : o1 h a D) : nAt h (a + 22) = some (nAi 24 (fun i => nI (D 3 i))) := H.2.2.2.2
theorem o1_kept {h h2 : nPH} {a : Nat} {D : Nat → Nat → Nat} (H : o1 h a D) (hB : h2.2.1 = h.2.1) (hq : ∀ q, a ≤ q → q < a + 23 → nAt h2 q = nAt h q) : o1 h2 a D := ⟨by rw [hB]; exact H.1, (hq a (by omega) (by omega)).trans (o1_o H), (hq (a + 1) (by omega) (by omega)).trans (o1_2 H), fun r hr => (hq (a + (2 + r)) (by omega) (by omega)).trans (o1_2i H hr), (hq (a + 22) (by omega) (by omega)).trans (o1_3 H)⟩
theorem o1_fr {S : Nat → Prop} {h h2 : nPH} {a : Nat} {D : Nat → Nat → Nat} (H : o1 h a D) (f : nFr S h h2) (hs : ∀ q, a ≤ q → q < a + 23 → ¬ S q) : o1 h2 a D := o1_kept H f.2.1 (fun q h1 h3 => f.2.2.2.2 q (hs q h1 h3))
theorem o1_cg {D2 : Nat → Nat → Nat} {h : nPH} {a : Nat} {D : Nat → Nat → Nat} (H : o1 h a D) (e : ∀ k i, D2 k i = D k i) : o1 h a D2 := by
  have : D2 = D := funext fun k => funext fun i => e k i
  rw [this]; exact H
theorem o1_g0 {S : Nat → Prop} {h0 : nPH} (v : Nat) {h : nPH} {a : Nat} {D : Nat → Nat → Nat} (H : o1 h a D) (F : nFr S h0 h) (hs : S a) : nFr S h0 (nSt h a (nOb 1 (List.set [.long (lN (D 0 0)), .long (lN (D 1 0)), .ref (a + 1), .ref (a + 22)] 0 (.long (lN v))))) := F.st (o1_o H) hs
theorem o1_put0 (v : Nat) {h : nPH} {a : Nat} {D : Nat → Nat → Nat} (H : o1 h a D) : o1 (nSt h a (nOb 1 (List.set [.long (lN (D 0 0)), .long (lN (D 1 0)), .ref (a + 1), .ref (a + 22)] 0 (.long (lN v))))) a (u2 D 0 0 v) := ⟨H.1, nAt_eq, (nAt_ne (by omega)).trans (o1_2 (D := D) H), fun r hr => (nAt_ne (by omega)).trans (o1_2i (D := D) H hr), (nAt_ne (by omega)).trans (o1_3 (D := D) H)⟩
theorem o1_g1 {S : Nat → Prop} {h0 : nPH} (v : Nat) {h : nPH} {a : Nat} {D : Nat → Nat → Nat} (H : o1 h a D) (F : nFr S h0 h) (hs : S a) : nFr S h0 (nSt h a (nOb 1 (List.set [.long (lN (D 0 0)), .long (lN (D 1 0)), .ref (a + 1), .ref (a + 22)] 1 (.long (lN v))))) := F.st (o1_o H) hs
theorem o1_put1 (v : Nat) {h : nPH} {a : Nat} {D : Nat → Nat → Nat} (H : o1 h a D) : o1 (nSt h a (nOb 1 (List.set [.long (lN (D 0 0)), .long (lN (D 1 0)), .ref (a + 1), .ref (a + 22)] 1 (.long (lN v))))) a (u2 D 1 0 v) := ⟨H.1, nAt_eq, (nAt_ne (by omega)).trans (o1_2 (D := D) H), fun r hr => (nAt_ne (by omega)).trans (o1_2i (D := D) H hr), (nAt_ne (by omega)).trans (o1_3 (D := D) H)⟩
theorem o1_f2 {S : Nat → Prop} {h0 : nPH} (r j v : Nat) (hr : r < 20) {h : nPH} {a : Nat} {D : Nat → Nat → Nat} (H : o1 h a D) (F : nFr S h0 h) (hs : S (a + (2 + r))) : nFr S h0 (nSt h (a + (2 + r)) (nAl 24 (nUp (fun k => lN (D 2 (20 * k + r))) j (lN v)))) := F.st (o1_2i H hr) hs
theorem o1_ast2 (r j v : Nat) (hr : r < 20) {h : nPH} {a : Nat} {D : Nat → Nat → Nat} (H : o1 h a D) : o1 (nSt h (a + (2 + r)) (nAl 24 (nUp (fun k => lN (D 2 (20 * k + r))) j (lN v)))) a (u2 D 2 (20 * j + r) v) := by
  refine ⟨H.1, (nAt_ne (by omega)).trans (o1_o (D := D) H), (nAt_ne (by omega)).trans (o1_2 (D := D) H), fun r2 hr2 => ?_, (nAt_ne (by omega)).trans (o1_3 (D := D) H)⟩
  by_cases e : r2 = r
  · subst e
    exact nAt_eq.trans (by rw [u2_upNL D 2 r2 j v hr])
  · refine (nAt_ne (by omega)).trans ((o1_2i (D := D) H hr2).trans ?_)
    rw [u2_otNL D 2 r r2 j v hr hr2 e]
theorem o1_f3 {S : Nat → Prop} {h0 : nPH} (j v : Nat) {h : nPH} {a : Nat} {D : Nat → Nat → Nat} (H : o1 h a D) (F : nFr S h0 h) (hs : S (a + 22)) : nFr S h0 (nSt h (a + 22) (nAi 24 (nUp (fun i => nI (D 3 i)) j (nI v)))) := F.st (o1_3 H) hs
theorem o1_ast3 (j v : Nat) {h : nPH} {a : Nat} {D : Nat → Nat → Nat} (H : o1 h a D) : o1 (nSt h (a + 22) (nAi 24 (nUp (fun i => nI (D 3 i)) j (nI v)))) a (u2 D 3 j v) := ⟨H.1, (nAt_ne (by omega)).trans (o1_o (D := D) H), (nAt_ne (by omega)).trans (o1_2 (D := D) H), fun r hr => (nAt_ne (by omega)).trans (o1_2i (D := D) H hr), (nAt_eq.trans (by rw [u2_up]))⟩
