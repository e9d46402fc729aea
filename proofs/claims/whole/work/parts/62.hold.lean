/-! a held blow -/
section HOLD1
theorem x_row {n : Nat} (hn : n < 1048576) : (nI n &&& (63 : Int32)).toNatClampNeg = n % 64 := by
  rw [pk_andN (m := (63 : Int32)) (by omega) 6 (by decide), nI_clamp (by omega)]
theorem Sc_lo12 {sc : T2} {f g : T1} (h : Sc sc f) (hg : ∀ i, i < 28 → i ≠ 12 → g i = f i) : Sc sc g := by
  obtain ⟨⟨a0, a1, a2, a3, a4, a5, a6, a7⟩, ⟨d0, d1, d2, d3, d4, d5, d6⟩, ⟨t1, t2, t3, t4, t5, t6, t7, t8, t9⟩⟩ := h
  refine ⟨⟨?_, ?_, ?_, ?_, ?_, ?_, ?_, ?_⟩, ⟨?_, ?_, ?_, ?_, ?_, ?_, ?_⟩, ⟨?_, ?_, ?_, ?_, ?_, ?_, ?_, ?_, ?_⟩⟩ <;> (rw [hg _ (by decide) (by decide)]; assumption)
/-- the class's cells for blows and fates don't stand in Sc -/
theorem Sc_sb {sc τ : T2} {f : T1} {o n : Nat} (h : Sc sc f) (h1 : o + n ≤ 15) (h2 : 2 ≤ o) : Sc (sb sc o n τ) f := by
  have e1 : sb sc o n τ 1 = sc 1 := by unfold sb; rw [if_neg (by omega)]
  have e15 : sb sc o n τ 15 = sc 15 := by unfold sb; rw [if_neg (by omega)]
  have e16 : sb sc o n τ 16 = sc 16 := by unfold sb; rw [if_neg (by omega)]
  unfold Sc at h ⊢
  rw [e1, e15, e16]
  exact h
theorem Sc_end {sc μ : T2} {n : Nat} (h : Sc sc (μ 1)) (hn : n < 1048576) (e : μ 1 12 = nI (n + 1)) : Sc sc (P_X10_endBlow μ 1) := by
  rw [x_endBlow hn e]
  refine Sc_lo12 h (fun i hi _ => ?_)
  show upd (upd (μ 1) _ _) _ _ i = μ 1 i
  rw [upd_lo hi (by omega), upd_lo hi (by omega)]
theorem Sc_silent0 {sc μ : T2} (h : Sc sc (μ 1)) (h0 : sc 15 0 = 0) : Sc (P_X7_fallSilent sc) (u2 (u2 μ 1 (upd (μ 1) 23 (μ 1 23 + 1))) 1 (upd (upd (upd (upd (upd (upd (u2 μ 1 (upd (μ 1) 23 (μ 1 23 + 1)) 1) 17 (μ 1 17 + 0)) 9 0) 19 0) 20 0) 21 0) 11 (-6)) 1) := by
  obtain ⟨⟨a0, a1, a2, a3, a4, a5, a6, a7⟩, ⟨d0, d1, d2, d3, d4, d5, d6⟩, ⟨t1, t2, t3, t4, t5, t6, t7, t8, t9⟩⟩ := h
  simp [Sc, P_X7_fallSilent, P_X7_fallSilent_b0, P_X7_fallSilent_b27, u2, upd, *]
theorem Sc_silent1 {sc μ : T2} (h : Sc sc (μ 1)) (h0 : ¬ sc 15 0 = 0) : Sc (P_X7_fallSilent sc) (u2 (u2 μ 1 (upd (μ 1) 23 (μ 1 23 + 1))) 1 (upd (upd (upd (upd (upd (upd (u2 μ 1 (upd (μ 1) 23 (μ 1 23 + 1)) 1) 17 (μ 1 17 + 1)) 9 0) 19 0) 20 0) 21 0) 11 (-6)) 1) := by
  obtain ⟨⟨a0, a1, a2, a3, a4, a5, a6, a7⟩, ⟨d0, d1, d2, d3, d4, d5, d6⟩, ⟨t1, t2, t3, t4, t5, t6, t7, t8, t9⟩⟩ := h
  simp [Sc, P_X7_fallSilent, P_X7_fallSilent_b0, P_X7_fallSilent_b27, P_X7_loseLock, P_X7_loseLock_b0, u2, upd, *]
/-- the end of a held blow, behind what it is judged -/
theorem r_hold_end {sc μ : T2} {n : Nat} {v : Int32} (h : Sc sc (μ 1)) (hn : n < 1048576) (e : μ 1 12 = nI (n + 1)) : Sc (P_X7_holdBlow_b74c sc v) (P_X10_holdOn_b88c μ 1) := by
  have e21 : μ 1 21 = sc 15 5 := h.2.1.2.2.2.2.2.1
  have e7 : μ 1 7 = sc 1 7 := h.1.2.2.2.2.2.2.2
  have e9 : μ 1 9 = sc 15 0 := h.2.1.1
  unfold P_X7_holdBlow_b74c P_X10_holdOn_b88c
  rw [e21, e7, e9]
  by_cases c1 : sc 15 5 < sc 1 7
  · rw [if_pos c1, if_pos c1]
    exact Sc_end (Sc_sb h (by decide) (by decide)) hn e
  · rw [if_neg c1, if_neg c1]
    unfold P_X7_holdBlow_b95
    refine Sc_sb ?_ (by decide) (by decide)
    by_cases c2 : sc 15 0 = 0
    · rw [if_pos c2]
      unfold P_X10_holdOn_b139 P_X10_holdOn_b182
      exact Sc_end (Sc_silent0 h c2) hn (by simp [u2, upd, e])
    · rw [if_neg c2]
      unfold P_X10_holdOn_b139 P_X10_holdOn_b182
      exact Sc_end (Sc_silent1 h c2) hn (by simp [u2, upd, e])
theorem r_hold {sc μ : T2} {n : Nat} (h : Sc sc (μ 1)) (hn : n < 1048576) (e : μ 1 12 = nI n) : Sc (P_X7_holdBlow sc) (P_X10_holdOn μ 1) := by
  unfold P_X7_holdBlow P_X7_holdBlow_b0 P_X10_holdOn P_X10_holdOn_b0
  rw [x_strike hn e]
  generalize hν : u2 μ 1 (upd (upd (upd (μ 1) (416 + 4 * (n % 64)) (μ 1 11)) (417 + 4 * (n % 64)) (-6)) 12 (nI (n + 1))) = ν
  have hS : Sc sc (ν 1) := by
    refine Sc_lo12 h (fun i hi h12 => ?_)
    rw [← hν]
    show upd (upd (upd (μ 1) _ _) _ _) 12 _ i = μ 1 i
    rw [show ∀ (f : T1) (w : Int32), upd f 12 w i = f i from fun f w => by simp [upd, h12], upd_lo hi (by omega), upd_lo hi (by omega)]
  have e12 : ν 1 12 = nI (n + 1) := by rw [← hν]; simp [u2, upd]
  unfold P_X10_holdOn_b13c P_X10_holdOn_b81 P_X7_holdBlow_b69
  have e9 : ν 1 9 = sc 15 0 := hS.2.1.1
  obtain ⟨⟨a0, a1, a2, a3, a4, a5, a6, a7⟩, ⟨d0, d1, d2, d3, d4, d5, d6⟩, ⟨t1, t2, t3, t4, t5, t6, t7, t8, t9⟩⟩ := hS
  by_cases c1 : sc 15 0 = 1
  · rw [if_pos c1, if_pos (e9.trans c1)]
    refine r_hold_end (r_judge ?_ (fun hh => absurd rfl hh) (fun _ hh => absurd rfl hh)) hn ?_
    · simp [Sc, u2, upd, *]
    · rw [f_judge10i (by decide) (by decide) (by decide) (by decide) (by decide)]
      simp [u2, upd, e12]
  · have c2 : ¬ ν 1 9 = 1 := by rw [e9]; exact c1
    rw [if_neg c1, if_neg c2]
    refine r_hold_end (r_judge ?_ (fun hh => absurd rfl hh) (fun _ hh => absurd rfl hh)) hn ?_
    · simp [Sc, u2, upd, *]
    · rw [f_judge10i (by decide) (by decide) (by decide) (by decide) (by decide)]
      simp [u2, upd, e12]
end HOLD1
