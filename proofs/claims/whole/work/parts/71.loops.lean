/-! the class's one loop beside the model's loops in loops -/
section LP1
theorem cs_hl {n : Nat} {sc : T2} {f : T1} (hR : Cr n sc f) : P_X7_halfWindow sc = hlf f ∧ sc 15 2 = f 11 := by
  have a1 : f 1 = sc 1 1 := hR.1.1.2.1
  have d1 : f 10 = sc 15 1 := hR.1.2.1.2.1
  have d2 : f 11 = sc 15 2 := hR.1.2.1.2.2.1
  refine ⟨?_, d2.symm⟩
  unfold P_X7_halfWindow P_X7_halfWindow_b0
  rw [← a1, ← d1]
  exact (nm_half hR.2.1).2.2
theorem cs_over0 {n : Nat} {sc : T2} {f : T1} {q : Int32} (hR : Cr n sc f) (hv : Nov f q) : P_X7_isWindowOver sc q = 0 := by
  unfold P_X7_isWindowOver P_X7_isWindowOver_b0
  obtain ⟨e1, e2⟩ := cs_hl hR
  rw [e1, e2]
  by_cases c : f 11 = -6
  · rw [if_pos c]
  · rw [if_neg c, if_pos ((nm_win hR.2.1 c q).mpr ?_)]
    rcases hv with h | h
    · exact absurd h c
    · exact h
theorem cs_over1 {n : Nat} {sc : T2} {f : T1} {q : Int32} (hR : Cr n sc f) (hv : ¬ Nov f q) : P_X7_isWindowOver sc q = 1 := by
  unfold P_X7_isWindowOver P_X7_isWindowOver_b0
  obtain ⟨e1, e2⟩ := cs_hl hR
  have c : ¬ f 11 = -6 := fun h => hv (Or.inl h)
  rw [e1, e2, if_neg c, if_neg (fun h => hv (Or.inr ((nm_win hR.2.1 c q).mp h)))]
theorem run_step {c k : Nat} {sc : T2} {until_ T : Int32} (hk : k < 2000) (hT : (sc 2 2 ≤ sc 16 0 ∧ T = 1000000) ∨ (¬ sc 2 2 ≤ sc 16 0 ∧ P_X5_timeOf (fun j => sc (2 + j)) (sc 16 0) = T)) : P_X7_runTo_b2 (c + 1) sc until_ (nI k) = P_X7_runTo_b45 (P_X7_runTo_b2 c) sc until_ (nI k) T ∧ (S_X7_runTo_b45 (S_X7_runTo_b2 c) sc until_ (nI k) T → S_X7_runTo_b2 (c + 1) sc until_ (nI k)) := by
  have h2 : ¬ (2000 : Int32) ≤ nI k := nI_ge (a := k) (b := 2000) hk (by omega)
  rw [P_X7_runTo_b2_e, S_X7_runTo_b2_e, if_neg h2]
  rcases hT with ⟨c1, e⟩ | ⟨c1, e⟩
  · rw [if_pos c1, e]
    exact ⟨rfl, fun hs => ⟨fun h => absurd h h2, fun _ => ⟨fun _ => hs, fun h => absurd c1 h⟩⟩⟩
  · rw [if_neg c1, e]
    exact ⟨rfl, fun hs => ⟨fun h => absurd h h2, fun _ => ⟨fun h => absurd h c1, fun _ => ⟨cs_times _ _, hs⟩⟩⟩⟩
theorem run_hold {n k : Nat} {sc : T2} {f : T1} {until_ T q : Int32} {pk : T2 → Int32 → Int32 → T2} {sk : T2 → Int32 → Int32 → Prop} (hR : Cr n sc f) (hq : (4 : Int32) * (if until_ < T then until_ else T) = q) (hv : ¬ Nov f q) : P_X7_runTo_b45 pk sc until_ (nI k) T = pk (P_X7_holdBlow sc) until_ (nI (k + 1)) ∧ (sk (P_X7_holdBlow sc) until_ (nI (k + 1)) → S_X7_runTo_b45 sk sc until_ (nI k) T) := by
  have h1 : ¬ P_X7_isWindowOver sc q = 0 := by rw [cs_over1 hR hv]; decide
  unfold P_X7_runTo_b45 S_X7_runTo_b45 P_X7_runTo_b64c P_X7_runTo_b83 S_X7_runTo_b64c S_X7_runTo_b83
  rw [hq, if_neg h1, nI_1]
  exact ⟨rfl, fun hs => ⟨cs_overs _ _, fun h => absurd h h1, fun _ => ⟨s_hold7 _, hs⟩⟩⟩
theorem run_end {n k : Nat} {sc : T2} {f : T1} {until_ T q : Int32} {pk : T2 → Int32 → Int32 → T2} {sk : T2 → Int32 → Int32 → Prop} (hR : Cr n sc f) (hq : (4 : Int32) * (if until_ < T then until_ else T) = q) (hv : Nov f q) (hu : until_ < T) : P_X7_runTo_b45 pk sc until_ (nI k) T = u2 sc 0 (upd (sc 0) 6 until_) ∧ S_X7_runTo_b45 sk sc until_ (nI k) T := by
  have h1 : P_X7_isWindowOver sc q = 0 := cs_over0 hR hv
  unfold P_X7_runTo_b45 S_X7_runTo_b45 P_X7_runTo_b89 S_X7_runTo_b89
  rw [hq, if_pos h1, if_pos hu]
  exact ⟨rfl, cs_overs _ _, fun _ => ⟨fun _ => trivial, fun h => absurd hu h⟩, fun h => absurd h1 h⟩
theorem run_hear {n k : Nat} {sc : T2} {f : T1} {until_ T q : Int32} {pk : T2 → Int32 → Int32 → T2} {sk : T2 → Int32 → Int32 → Prop} (hR : Cr n sc f) (hq : (4 : Int32) * (if until_ < T then until_ else T) = q) (hv : Nov f q) (hu : ¬ until_ < T) : P_X7_runTo_b45 pk sc until_ (nI k) T = pk (P_X7_hearBeat sc (sc 16 0)) until_ (nI (k + 1)) ∧ (sk (P_X7_hearBeat sc (sc 16 0)) until_ (nI (k + 1)) → S_X7_runTo_b45 sk sc until_ (nI k) T) := by
  have h1 : P_X7_isWindowOver sc q = 0 := cs_over0 hR hv
  unfold P_X7_runTo_b45 S_X7_runTo_b45 P_X7_runTo_b83 S_X7_runTo_b83
  rw [hq, if_pos h1, if_neg hu, nI_1]
  exact ⟨rfl, fun hs => ⟨cs_overs _ _, fun _ => ⟨fun h => absurd h hu, fun _ => ⟨cs_hears _ _, hs⟩⟩, fun h => absurd h1 h⟩⟩
theorem hold_stop {m : Nat} {μ : T2} {q : Int32} (hN : Num (μ 1)) (hv : Nov (μ 1) q) : P_X10_holdUpTo_b0 (m + 1) μ q = μ ∧ S_X10_holdUpTo_b0 (m + 1) μ q := by
  rw [P_X10_holdUpTo_b0_e, S_X10_holdUpTo_b0_e]
  rw [show P_X10_halfWindow μ = hlf (μ 1) from rfl]
  by_cases c : μ 1 11 = -6
  · have h0 : μ 1 11 < 0 := (nm_neg hN).1.mpr c
    rw [if_pos h0]
    exact ⟨rfl, fun _ => trivial, fun h => absurd h0 h⟩
  · have h0 : ¬ μ 1 11 < 0 := fun h => c ((nm_neg hN).1.mp h)
    have h1 : q < μ 1 11 + hlf (μ 1) + 1 := (nm_win hN c q).mpr (by
      rcases hv with h | h
      · exact absurd h c
      · exact h)
    rw [if_neg h0, if_pos h1]
    exact ⟨rfl, fun h => absurd h h0, fun _ => ⟨trivial, fun _ => trivial, fun h => absurd h1 h⟩⟩
theorem hold_go {m n : Nat} {μ : T2} {q : Int32} (hN : Num (μ 1)) (hn : n < 1048576) (e12 : μ 1 12 = nI n) (hv : ¬ Nov (μ 1) q) : P_X10_holdUpTo_b0 (m + 1) μ q = P_X10_holdUpTo_b0 m (P_X10_holdOn μ) q ∧ (S_X10_holdUpTo_b0 m (P_X10_holdOn μ) q → S_X10_holdUpTo_b0 (m + 1) μ q) := by
  rw [P_X10_holdUpTo_b0_e, S_X10_holdUpTo_b0_e]
  rw [show P_X10_halfWindow μ = hlf (μ 1) from rfl]
  have c : ¬ μ 1 11 = -6 := fun h => hv (Or.inl h)
  have h0 : ¬ μ 1 11 < 0 := fun h => c ((nm_neg hN).1.mp h)
  have h1 : ¬ q < μ 1 11 + hlf (μ 1) + 1 := fun h => hv (Or.inr ((nm_win hN c q).mp h))
  rw [if_neg h0, if_neg h1]
  exact ⟨rfl, fun hs => ⟨fun h => absurd h h0, fun _ => ⟨trivial, fun h => absurd h h1, fun _ => ⟨s_hold10 hn e12, hs⟩⟩⟩⟩
theorem hold_phase (Q : Nat → T2 → T1 → Prop) (q until_ T : Int32) (hq : (4 : Int32) * (if until_ < T then until_ else T) = q) (hq2 : q.toInt ≤ 520000)
    (hQ1 : ∀ n sc f, Q n sc f → Cr n sc f)
    (hQ2 : ∀ n (sc μ : T2), Q n sc (μ 1) → ¬ μ 1 11 = -6 → (μ 1 11).toInt ≤ 520000 → n < 1048576 → Q (n + 1) (P_X7_holdBlow sc) (P_X10_holdOn μ 1))
    (hT : ∀ n sc f, Q n sc f → (sc 2 2 ≤ sc 16 0 ∧ T = 1000000) ∨ (¬ sc 2 2 ≤ sc 16 0 ∧ P_X5_timeOf (fun j => sc (2 + j)) (sc 16 0) = T)) :
    ∀ (L fm fc k n : Nat) (sc μ : T2), hlN (μ 1) ≤ L → L < fm → L < fc → k + L < 2000 → n + L < 1048576 → Q n sc (μ 1) →
    S_X10_holdUpTo_b0 fm μ q ∧ ∃ j sc', j ≤ L ∧ Q (n + j) sc' (P_X10_holdUpTo_b0 fm μ q 1) ∧ (∀ i, i ≠ 1 → P_X10_holdUpTo_b0 fm μ q i = μ i) ∧ Nov (P_X10_holdUpTo_b0 fm μ q 1) q ∧ P_X10_holdUpTo_b0 fm μ q 1 8 = μ 1 8 ∧ P_X7_runTo_b2 fc sc until_ (nI k) = P_X7_runTo_b2 (fc - j) sc' until_ (nI (k + j)) ∧ (S_X7_runTo_b2 (fc - j) sc' until_ (nI (k + j)) → S_X7_runTo_b2 fc sc until_ (nI k)) := by
  intro L
  induction L with
  | zero =>
    intro fm fc k n sc μ hL hfm hfc hk hn hR
    obtain ⟨m, rfl⟩ : ∃ m, fm = m + 1 := ⟨fm - 1, by omega⟩
    have hC := hQ1 _ _ _ hR
    have hv : Nov (μ 1) q := by
      refine Or.inl ?_
      by_cases c : μ 1 11 = -6
      · exact c
      · exfalso
        have h21 := hC.2.1.2.2.2
        unfold hlN at hL
        rw [if_neg c] at hL
        omega
    obtain ⟨h1, h2⟩ := hold_stop (m := m) hC.2.1 hv
    rw [h1]
    exact ⟨h2, 0, sc, Nat.le_refl 0, hR, fun _ _ => rfl, hv, rfl, rfl, fun h => h⟩
  | succ L ih =>
    intro fm fc k n sc μ hL hfm hfc hk hn hR
    obtain ⟨m, rfl⟩ : ∃ m, fm = m + 1 := ⟨fm - 1, by omega⟩
    obtain ⟨c, rfl⟩ : ∃ c, fc = c + 1 := ⟨fc - 1, by omega⟩
    have hC := hQ1 _ _ _ hR
    by_cases hv : Nov (μ 1) q
    · obtain ⟨h1, h2⟩ := hold_stop (m := m) hC.2.1 hv
      rw [h1]
      exact ⟨h2, 0, sc, Nat.zero_le _, hR, fun _ _ => rfl, hv, rfl, rfl, fun h => h⟩
    · have c11 : ¬ μ 1 11 = -6 := fun h => hv (Or.inl h)
      have hb : (μ 1 11).toInt ≤ 520000 := by
        have h1 := (nm_half hC.2.1).1
        have h2 : ¬ q.toInt < (μ 1 11).toInt + (hlf (μ 1)).toInt + 1 := fun h => hv (Or.inr h)
        omega
      obtain ⟨g1, g2⟩ := hold_go (m := m) hC.2.1 (by omega : n < 1048576) hC.2.2.1 hv
      obtain ⟨r1, r2⟩ := run_step (c := c) (until_ := until_) (by omega : k < 2000) (hT _ _ _ hR)
      obtain ⟨r3, r4⟩ := run_hold (k := k) (pk := P_X7_runTo_b2 c) (sk := S_X7_runTo_b2 c) hC hq hv
      obtain ⟨-, hh, h8, -⟩ := Cr_hold hC c11 hb (by omega : n < 1048576)
      obtain ⟨i1, j, sc', i2, i3, i4, i5, i8, i6, i7⟩ := ih m c (k + 1) (n + 1) (P_X7_holdBlow sc) (P_X10_holdOn μ) (by omega) (by omega) (by omega) (by omega) (by omega) (hQ2 n sc μ hR c11 hb (by omega))
      rw [g1, r1, r3]
      refine ⟨g2 i1, j + 1, sc', by omega, ?_, fun i hi => ?_, i5, ?_, ?_, fun hs => r2 (r4 (i7 ?_))⟩
      · rw [show n + (j + 1) = n + 1 + j by omega]; exact i3
      · rw [i4 i hi, f_hold10 (by omega : n < 1048576) hC.2.2.1 hi]
      · rw [i8, h8 8 (by omega)]
      · rw [i6, show c + 1 - (j + 1) = c - j by omega, show k + (j + 1) = k + 1 + j by omega]
      · rw [show c + 1 - (j + 1) = c - j by omega, show k + (j + 1) = k + 1 + j by omega] at hs
        exact hs
end LP1
