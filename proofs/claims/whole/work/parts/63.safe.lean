/-! nothing throws in a held blow -/
section SAFE1
theorem s_judge10 (μ : T2) (g t : Int32) : S_X10_judge μ g t := by
  simp [S_X10_judge, S_X10_judge_b0, S_X10_judge_b23, S_X10_judge_b47, S_X10_judge_b98, S_X10_loseLock, S_X10_loseLock_b0]
theorem s_judge7 (σ : T2) (g : Int32) : S_X7_judge σ g := by
  simp [S_X7_judge, S_X7_judge_b0, S_X7_judge_b21, S_X7_judge_b45, S_X7_judge_b100, S_X7_loseLock, S_X7_loseLock_b0]
theorem s_silent7 (σ : T2) : S_X7_fallSilent σ := by
  simp [S_X7_fallSilent, S_X7_fallSilent_b0, S_X7_fallSilent_b27, S_X7_loseLock, S_X7_loseLock_b0]
theorem s_append (σ : T2) (a b c d : Int32) : S_X0_append σ a b c d := by
  have h : vp_in (P_X0_rowOf σ (σ 0 4)) 64 := by
    unfold P_X0_rowOf P_X0_rowOf_b0
    exact pk_andIn (m := (63 : Int32)) (σ 0 4) 6 (by decide) (by decide)
  simp [S_X0_append, S_X0_append_b0, S_X0_rowOf, S_X0_rowOf_b0, h]
theorem s_hold_end10 {μ : T2} {n : Nat} (hn : n < 1048576) (e : μ 1 12 = nI (n + 1)) : S_X10_holdOn_b88c μ := by
  unfold S_X10_holdOn_b88c
  refine ⟨fun _ => ⟨s_endBlow hn e, trivial⟩, fun _ => ⟨fun _ => ⟨s_endBlow hn ?_, trivial⟩, fun _ => ⟨s_endBlow hn ?_, trivial⟩⟩⟩ <;> simp [u2, upd, e]
theorem s_hold10 {μ : T2} {n : Nat} (hn : n < 1048576) (e : μ 1 12 = nI n) : S_X10_holdOn μ := by
  unfold S_X10_holdOn S_X10_holdOn_b0
  refine ⟨s_strike hn e, ?_⟩
  rw [x_strike hn e]
  generalize hν : u2 μ 1 (upd (upd (upd (μ 1) (416 + 4 * (n % 64)) (μ 1 11)) (417 + 4 * (n % 64)) (-6)) 12 (nI (n + 1))) = ν
  have e12 : ν 1 12 = nI (n + 1) := by rw [← hν]; simp [u2, upd]
  unfold S_X10_holdOn_b13c S_X10_holdOn_b81
  refine ⟨fun _ => ⟨s_judge10 _ _ _, s_hold_end10 hn ?_⟩, fun _ => ⟨s_judge10 _ _ _, s_hold_end10 hn ?_⟩⟩ <;> (rw [f_judge10i (by decide) (by decide) (by decide) (by decide) (by decide)]; simp [u2, upd, e12])
theorem s_hold7 (σ : T2) : S_X7_holdBlow σ := by
  simp [S_X7_holdBlow, S_X7_holdBlow_b0, S_X7_holdBlow_b69, S_X7_holdBlow_b74c, S_X7_holdBlow_b95, s_judge7, s_silent7, s_append]
end SAFE1
