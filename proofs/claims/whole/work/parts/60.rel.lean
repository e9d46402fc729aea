/-! the two states beside each other: the numbers of a scene and of the model's row -/
section REL1
theorem upd_at (f : T1) (k : Nat) (v : Int32) : upd f k v k = v := by simp [upd]
theorem upd_lo {f : T1} {k i : Nat} {v : Int32} (hi : i < 28) (hk : 28 ≤ k) : upd f k v i = f i := by
  have h : ¬ i = k := by omega
  simp [upd, h]
def Sc (sc : T2) (f : T1) : Prop :=
  (f 0 = sc 1 0 ∧ f 1 = sc 1 1 ∧ f 2 = sc 1 2 ∧ f 3 = sc 1 3 ∧ f 4 = sc 1 4 ∧ f 5 = sc 1 5 ∧ f 6 = sc 1 6 ∧ f 7 = sc 1 7) ∧
  (f 9 = sc 15 0 ∧ f 10 = sc 15 1 ∧ f 11 = sc 15 2 ∧ f 19 = sc 15 3 ∧ f 20 = sc 15 4 ∧ f 21 = sc 15 5 ∧ f 25 = sc 15 6) ∧
  (f 15 = sc 16 1 ∧ f 13 = sc 16 2 ∧ f 16 = sc 16 3 ∧ f 17 = sc 16 4 ∧ f 23 = sc 16 5 ∧ f 18 = sc 16 6 ∧ f 24 = sc 16 7 ∧ f 26 = sc 16 8 ∧ f 27 = sc 16 9)
theorem Sc_lo {sc : T2} {f g : T1} (h : Sc sc f) (hg : ∀ i, i < 28 → g i = f i) : Sc sc g := by
  obtain ⟨⟨a0, a1, a2, a3, a4, a5, a6, a7⟩, ⟨d0, d1, d2, d3, d4, d5, d6⟩, ⟨t1, t2, t3, t4, t5, t6, t7, t8, t9⟩⟩ := h
  refine ⟨⟨?_, ?_, ?_, ?_, ?_, ?_, ?_, ?_⟩, ⟨?_, ?_, ?_, ?_, ?_, ?_, ?_⟩, ⟨?_, ?_, ?_, ?_, ?_, ?_, ?_, ?_, ?_⟩⟩ <;> (rw [hg _ (by decide)]; assumption)
theorem r_loseLock {sc μ : T2} (h : Sc sc (μ 1)) : Sc (P_X7_loseLock sc) (P_X10_loseLock μ 1) := by
  obtain ⟨⟨a0, a1, a2, a3, a4, a5, a6, a7⟩, ⟨d0, d1, d2, d3, d4, d5, d6⟩, ⟨t1, t2, t3, t4, t5, t6, t7, t8, t9⟩⟩ := h
  simp [Sc, P_X7_loseLock, P_X7_loseLock_b0, P_X10_loseLock, P_X10_loseLock_b0, u2, upd, *]
theorem r_judge_end {sc μ : T2} (h : Sc sc (μ 1)) : Sc (P_X7_judge_b100 sc) (P_X10_judge_b98 μ 1) := by
  have e9 : μ 1 9 = sc 15 0 := h.2.1.1
  have e20 : μ 1 20 = sc 15 4 := h.2.1.2.2.2.2.1
  have e6 : μ 1 6 = sc 1 6 := h.1.2.2.2.2.2.2.1
  unfold P_X7_judge_b100 P_X10_judge_b98
  rw [e9, e20, e6]
  by_cases c1 : sc 15 0 = 0
  · rw [if_pos c1, if_pos c1]; exact h
  · rw [if_neg c1, if_neg c1]
    by_cases c2 : sc 15 4 < sc 1 6
    · rw [if_pos c2, if_pos c2]; exact h
    · rw [if_neg c2, if_neg c2]; exact r_loseLock h
/-- setting one paired number on both sides -/
theorem Sc_good {sc μ : T2} {v : Int32} (h : Sc sc (μ 1)) : Sc (u2 sc 15 (upd (sc 15) 3 v)) (u2 μ 1 (upd (μ 1) 19 v) 1) := by
  obtain ⟨⟨a0, a1, a2, a3, a4, a5, a6, a7⟩, ⟨d0, d1, d2, d3, d4, d5, d6⟩, ⟨t1, t2, t3, t4, t5, t6, t7, t8, t9⟩⟩ := h
  simp [Sc, u2, upd, *]
theorem Sc_bad {sc μ : T2} {v : Int32} (h : Sc sc (μ 1)) : Sc (u2 sc 15 (upd (sc 15) 4 v)) (u2 μ 1 (upd (μ 1) 20 v) 1) := by
  obtain ⟨⟨a0, a1, a2, a3, a4, a5, a6, a7⟩, ⟨d0, d1, d2, d3, d4, d5, d6⟩, ⟨t1, t2, t3, t4, t5, t6, t7, t8, t9⟩⟩ := h
  simp [Sc, u2, upd, *]
theorem Sc_win {sc μ : T2} {v : Int32} (h : Sc sc (μ 1)) : Sc (u2 (u2 sc 15 (upd (upd (sc 15) 4 v) 0 1)) 16 (upd (sc 16) 3 (sc 16 3 + 1))) (u2 μ 1 (upd (upd (upd (μ 1) 20 v) 9 1) 16 (μ 1 16 + 1)) 1) := by
  obtain ⟨⟨a0, a1, a2, a3, a4, a5, a6, a7⟩, ⟨d0, d1, d2, d3, d4, d5, d6⟩, ⟨t1, t2, t3, t4, t5, t6, t7, t8, t9⟩⟩ := h
  simp [Sc, u2, upd, *]
/-- what is good or bad, counted alike: g what the class is told, t whether the model was told that a beat was taken -/
theorem r_judge {sc μ : T2} {g t : Int32} (h : Sc sc (μ 1)) (hg : ¬ g = 0 → ¬ t = 0) (h0 : g = 0 → ¬ t = 0 → 0 < sc 1 5) : Sc (P_X7_judge sc g) (P_X10_judge μ g t 1) := by
  have e19 : μ 1 19 = sc 15 3 := h.2.1.2.2.2.1
  have e20 : μ 1 20 = sc 15 4 := h.2.1.2.2.2.2.1
  unfold P_X7_judge P_X7_judge_b0 P_X10_judge P_X10_judge_b0
  by_cases c0 : g = 0
  · rw [if_pos c0, if_pos c0]
    unfold P_X7_judge_b21 P_X10_judge_b23
    rw [if_pos c0, if_pos c0]
    have h1 := Sc_good (v := 0) h
    generalize hσ : u2 sc 15 (upd (sc 15) 3 0) = σ at h1 ⊢
    generalize hν : u2 μ 1 (upd (μ 1) 19 0) = ν at h1 ⊢
    have hz : ν 1 19 = 0 := by rw [← hν]; simp [u2, upd]
    have hw : ν 1 5 = sc 1 5 := by rw [← hν]; simp [u2, upd, h.1.2.2.2.2.2.1]
    unfold P_X7_judge_b45 P_X10_judge_b47
    rw [if_pos c0, e20]
    have h2 := r_judge_end (Sc_bad (v := sc 15 4 + 1) h1)
    by_cases c1 : ν 1 9 = 1
    · rw [if_pos c1]; exact h2
    · rw [if_neg c1]
      by_cases c2 : t = 0
      · rw [if_pos c2]; exact h2
      · rw [if_neg c2, hz, hw, if_pos (h0 c0 c2)]; exact h2
  · rw [if_neg c0, if_neg c0]
    unfold P_X7_judge_b21 P_X10_judge_b23
    rw [if_neg c0, if_neg c0, e19]
    have h1 := Sc_good (v := sc 15 3 + 1) h
    generalize u2 sc 15 (upd (sc 15) 3 (sc 15 3 + 1)) = σ at h1 ⊢
    generalize u2 μ 1 (upd (μ 1) 19 (sc 15 3 + 1)) = ν at h1 ⊢
    unfold P_X7_judge_b45 P_X10_judge_b47
    have e9 : ν 1 9 = σ 15 0 := h1.2.1.1
    have e19' : ν 1 19 = σ 15 3 := h1.2.1.2.2.2.1
    have e5 : ν 1 5 = σ 1 5 := h1.1.2.2.2.2.2.1
    have e16 : ν 1 16 = σ 16 3 := h1.2.2.2.2.1
    rw [if_neg c0, e9, e19', e5]
    have h2 := r_judge_end (Sc_bad (v := 0) h1)
    by_cases c1 : σ 15 0 = 1
    · rw [if_pos c1, if_pos c1]; exact h2
    · rw [if_neg c1, if_neg c1, if_neg (hg c0)]
      by_cases c2 : σ 15 3 < σ 1 5
      · rw [if_pos c2, if_pos c2]; exact h2
      · rw [if_neg c2, if_neg c2]
        exact r_judge_end (Sc_win (v := 0) h1)
theorem f_judge7 {sc : T2} {g : Int32} {j : Nat} (h15 : j ≠ 15) (h16 : j ≠ 16) : P_X7_judge sc g j = sc j := by
  simp only [P_X7_judge, P_X7_judge_b0, P_X7_judge_b21, P_X7_judge_b45, P_X7_judge_b100, P_X7_loseLock, P_X7_loseLock_b0]
  repeat' split
  all_goals simp [u2, h15, h16]
theorem f_judge10 {μ : T2} {g t : Int32} {j : Nat} (h : j ≠ 1) : P_X10_judge μ g t j = μ j := by
  simp only [P_X10_judge, P_X10_judge_b0, P_X10_judge_b23, P_X10_judge_b47, P_X10_judge_b98, P_X10_loseLock, P_X10_loseLock_b0]
  repeat' split
  all_goals simp [u2, h]
theorem f_judge10i {μ : T2} {g t : Int32} {i : Nat} (h9 : i ≠ 9) (h16 : i ≠ 16) (h17 : i ≠ 17) (h19 : i ≠ 19) (h20 : i ≠ 20) : P_X10_judge μ g t 1 i = μ 1 i := by
  simp only [P_X10_judge, P_X10_judge_b0, P_X10_judge_b23, P_X10_judge_b47, P_X10_judge_b98, P_X10_loseLock, P_X10_loseLock_b0]
  repeat' split
  all_goals simp [u2, upd, h9, h16, h17, h19, h20]
end REL1
