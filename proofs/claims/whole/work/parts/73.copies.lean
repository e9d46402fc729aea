/-! the model's rows laid aside and back, kept and taken back -/
section CP1
def cpyT (D S a c j : Nat) (μ : T2) : T2 := u2 μ D (fun i => if a + j ≤ i ∧ i < a + 672 then μ S (c + (i - a)) else μ D i)
theorem cpy_step {D S a c j : Nat} {μ : T2} (hDS : S ≠ D) (hj : j < 672) : cpyT D S a c (j + 1) (u2 μ D (upd (μ D) (a + j) (μ S (c + j)))) = cpyT D S a c j μ := by
  unfold cpyT
  rw [u2_same, u2_ne hDS, u2_at]
  congr 1
  funext i
  by_cases c1 : i = a + j
  · subst c1
    rw [if_neg (by omega), pk_us, if_pos (by omega), show a + j - a = j by omega]
  · rw [pk_un c1]
    by_cases c2 : a + j ≤ i ∧ i < a + 672
    · rw [if_pos c2, if_pos (by omega)]
    · rw [if_neg c2, if_neg (by omega)]
theorem cpy_end {D S a c : Nat} {μ : T2} : cpyT D S a c 672 μ = μ := by
  unfold cpyT
  have h : (fun i => if a + 672 ≤ i ∧ i < a + 672 then μ S (c + (i - a)) else μ D i) = μ D := by
    funext i
    rw [if_neg (by omega)]
  rw [h, u2_self]
theorem cpy_ix {p j : Nat} : (672 : Int32) * nI p + nI j = nI (672 * p + j) := by
  rw [show (672 : Int32) = nI 672 from rfl, pk_mul, nI_add]
theorem c672 {j : Nat} (h : j < 672) : ¬ (672 : Int32) ≤ nI j := nI_ge (a := j) (b := 672) h (by omega)
theorem c672' : (672 : Int32) ≤ nI 672 := nI_le (a := 672) (b := 672) (Nat.le_refl _) (by omega)
theorem keep_loop {p : Nat} (hp : p < 6) : ∀ (d n j : Nat) (μ : T2), j + d = 672 → d < n → P_X10_keep_b47 n μ (nI p) (nI j) = u2 (cpyT 2 1 (672 * p) 0 j μ) 0 (upd ((cpyT 2 1 (672 * p) 0 j μ) 0) 3 ((cpyT 2 1 (672 * p) 0 j μ) 0 3 + 1)) ∧ S_X10_keep_b47 n μ (nI p) (nI j) := by
  intro d
  induction d with
  | zero =>
    intro n j μ hj hn
    obtain ⟨m, rfl⟩ : ∃ m, n = m + 1 := ⟨n - 1, by omega⟩
    obtain rfl : j = 672 := by omega
    rw [P_X10_keep_b47_e, S_X10_keep_b47_e, if_pos c672', cpy_end]
    exact ⟨rfl, fun _ => trivial, fun h => absurd c672' h⟩
  | succ d ih =>
    intro n j μ hj hn
    obtain ⟨m, rfl⟩ : ∃ m, n = m + 1 := ⟨n - 1, by omega⟩
    have hs := cpy_step (D := 2) (S := 1) (a := (672 * p)) (c := 0) (j := j) (μ := μ) (by decide) (by omega)
    rw [P_X10_keep_b47_e, S_X10_keep_b47_e, if_neg (c672 (by omega)), cpy_ix, nI_1, nI_clamp (n := j) (by omega), nI_clamp (n := 672 * p + j) (by omega)]
    obtain ⟨h1, h2⟩ := ih m (j + 1) (u2 μ 2 (upd (μ 2) (672 * p + j) (μ 1 (j)))) (by omega) (by omega)
    have e : u2 μ 2 (upd (μ 2) (672 * p + j) (μ 1 (j))) = u2 μ 2 (upd (μ 2) ((672 * p) + j) (μ 1 (0 + j))) := by simp only [Nat.zero_add]
    rw [h1]
    refine ⟨by rw [e, hs], fun h => absurd h (c672 (by omega)), fun _ => ?_⟩
    exact ⟨vp_in_nI (by omega) (by omega), vp_in_nI (by omega) (by omega), h2⟩
theorem aside_loop : ∀ (d n j : Nat) (μ : T2), j + d = 672 → d < n → P_X10_layAside_b2 n μ (nI j) = (cpyT 5 1 0 0 j μ) ∧ S_X10_layAside_b2 n μ (nI j) := by
  intro d
  induction d with
  | zero =>
    intro n j μ hj hn
    obtain ⟨m, rfl⟩ : ∃ m, n = m + 1 := ⟨n - 1, by omega⟩
    obtain rfl : j = 672 := by omega
    rw [P_X10_layAside_b2_e, S_X10_layAside_b2_e, if_pos c672', cpy_end]
    exact ⟨rfl, fun _ => trivial, fun h => absurd c672' h⟩
  | succ d ih =>
    intro n j μ hj hn
    obtain ⟨m, rfl⟩ : ∃ m, n = m + 1 := ⟨n - 1, by omega⟩
    have hs := cpy_step (D := 5) (S := 1) (a := 0) (c := 0) (j := j) (μ := μ) (by decide) (by omega)
    rw [P_X10_layAside_b2_e, S_X10_layAside_b2_e, if_neg (c672 (by omega)), nI_1, nI_clamp (n := j) (by omega)]
    obtain ⟨h1, h2⟩ := ih m (j + 1) (u2 μ 5 (upd (μ 5) (j) (μ 1 (j)))) (by omega) (by omega)
    have e : u2 μ 5 (upd (μ 5) (j) (μ 1 (j))) = u2 μ 5 (upd (μ 5) (0 + j) (μ 1 (0 + j))) := by simp only [Nat.zero_add]
    rw [h1]
    refine ⟨by rw [e, hs], fun h => absurd h (c672 (by omega)), fun _ => ?_⟩
    exact ⟨vp_in_nI (by omega) (by omega), vp_in_nI (by omega) (by omega), h2⟩
theorem back_loop : ∀ (d n j : Nat) (μ : T2), j + d = 672 → d < n → P_X10_layBack_b2 n μ (nI j) = (cpyT 1 5 0 0 j μ) ∧ S_X10_layBack_b2 n μ (nI j) := by
  intro d
  induction d with
  | zero =>
    intro n j μ hj hn
    obtain ⟨m, rfl⟩ : ∃ m, n = m + 1 := ⟨n - 1, by omega⟩
    obtain rfl : j = 672 := by omega
    rw [P_X10_layBack_b2_e, S_X10_layBack_b2_e, if_pos c672', cpy_end]
    exact ⟨rfl, fun _ => trivial, fun h => absurd c672' h⟩
  | succ d ih =>
    intro n j μ hj hn
    obtain ⟨m, rfl⟩ : ∃ m, n = m + 1 := ⟨n - 1, by omega⟩
    have hs := cpy_step (D := 1) (S := 5) (a := 0) (c := 0) (j := j) (μ := μ) (by decide) (by omega)
    rw [P_X10_layBack_b2_e, S_X10_layBack_b2_e, if_neg (c672 (by omega)), nI_1, nI_clamp (n := j) (by omega)]
    obtain ⟨h1, h2⟩ := ih m (j + 1) (u2 μ 1 (upd (μ 1) (j) (μ 5 (j)))) (by omega) (by omega)
    have e : u2 μ 1 (upd (μ 1) (j) (μ 5 (j))) = u2 μ 1 (upd (μ 1) (0 + j) (μ 5 (0 + j))) := by simp only [Nat.zero_add]
    rw [h1]
    refine ⟨by rw [e, hs], fun h => absurd h (c672 (by omega)), fun _ => ?_⟩
    exact ⟨vp_in_nI (by omega) (by omega), vp_in_nI (by omega) (by omega), h2⟩
theorem undo_loop {p : Nat} (hp : p < 6) : ∀ (d n j : Nat) (μ : T2), j + d = 672 → d < n → P_X10_undo_b35 n μ (nI p) (nI j) = ((cpyT 1 2 0 (672 * p) j μ) 0 3, (cpyT 1 2 0 (672 * p) j μ)) ∧ S_X10_undo_b35 n μ (nI p) (nI j) := by
  intro d
  induction d with
  | zero =>
    intro n j μ hj hn
    obtain ⟨m, rfl⟩ : ∃ m, n = m + 1 := ⟨n - 1, by omega⟩
    obtain rfl : j = 672 := by omega
    rw [P_X10_undo_b35_e, S_X10_undo_b35_e, if_pos c672', cpy_end]
    exact ⟨rfl, fun _ => trivial, fun h => absurd c672' h⟩
  | succ d ih =>
    intro n j μ hj hn
    obtain ⟨m, rfl⟩ : ∃ m, n = m + 1 := ⟨n - 1, by omega⟩
    have hs := cpy_step (D := 1) (S := 2) (a := 0) (c := (672 * p)) (j := j) (μ := μ) (by decide) (by omega)
    rw [P_X10_undo_b35_e, S_X10_undo_b35_e, if_neg (c672 (by omega)), cpy_ix, nI_1, nI_clamp (n := j) (by omega), nI_clamp (n := 672 * p + j) (by omega)]
    obtain ⟨h1, h2⟩ := ih m (j + 1) (u2 μ 1 (upd (μ 1) (j) (μ 2 (672 * p + j)))) (by omega) (by omega)
    have e : u2 μ 1 (upd (μ 1) (j) (μ 2 (672 * p + j))) = u2 μ 1 (upd (μ 1) (0 + j) (μ 2 ((672 * p) + j))) := by simp only [Nat.zero_add]
    rw [h1]
    refine ⟨by rw [e, hs], fun h => absurd h (c672 (by omega)), fun _ => ?_⟩
    exact ⟨vp_in_nI (by omega) (by omega), vp_in_nI (by omega) (by omega), h2⟩
theorem save_loop {p : Nat} (hp : p < 2) : ∀ (d n j : Nat) (μ : T2), j + d = 672 → d < n → P_X10_save_b14 n μ (nI p) (nI j) = ((cpyT 3 1 (672 * p) 0 j μ) 1 8, u2 (cpyT 3 1 (672 * p) 0 j μ) 4 (upd ((cpyT 3 1 (672 * p) 0 j μ) 4) p (vp_nar .boolean (1 : Int32)))) ∧ S_X10_save_b14 n μ (nI p) (nI j) := by
  intro d
  induction d with
  | zero =>
    intro n j μ hj hn
    obtain ⟨m, rfl⟩ : ∃ m, n = m + 1 := ⟨n - 1, by omega⟩
    obtain rfl : j = 672 := by omega
    rw [P_X10_save_b14_e, S_X10_save_b14_e, if_pos c672', cpy_end]
    rw [nI_clamp (n := p) (by omega)]
    exact ⟨rfl, fun _ => ⟨vp_in_nI hp (by omega), trivial⟩, fun h => absurd c672' h⟩
  | succ d ih =>
    intro n j μ hj hn
    obtain ⟨m, rfl⟩ : ∃ m, n = m + 1 := ⟨n - 1, by omega⟩
    have hs := cpy_step (D := 3) (S := 1) (a := (672 * p)) (c := 0) (j := j) (μ := μ) (by decide) (by omega)
    rw [P_X10_save_b14_e, S_X10_save_b14_e, if_neg (c672 (by omega)), cpy_ix, nI_1, nI_clamp (n := j) (by omega), nI_clamp (n := 672 * p + j) (by omega)]
    obtain ⟨h1, h2⟩ := ih m (j + 1) (u2 μ 3 (upd (μ 3) (672 * p + j) (μ 1 (j)))) (by omega) (by omega)
    have e : u2 μ 3 (upd (μ 3) (672 * p + j) (μ 1 (j))) = u2 μ 3 (upd (μ 3) ((672 * p) + j) (μ 1 (0 + j))) := by simp only [Nat.zero_add]
    rw [h1]
    refine ⟨by rw [e, hs], fun h => absurd h (c672 (by omega)), fun _ => ?_⟩
    exact ⟨vp_in_nI (by omega) (by omega), vp_in_nI (by omega) (by omega), h2⟩
theorem restore_loop {p : Nat} (hp : p < 2) : ∀ (d n j : Nat) (μ : T2), j + d = 672 → d < n → P_X10_restore_b30 n μ (nI p) (nI j) = ((cpyT 1 3 0 (672 * p) j μ) 1 8, (cpyT 1 3 0 (672 * p) j μ)) ∧ S_X10_restore_b30 n μ (nI p) (nI j) := by
  intro d
  induction d with
  | zero =>
    intro n j μ hj hn
    obtain ⟨m, rfl⟩ : ∃ m, n = m + 1 := ⟨n - 1, by omega⟩
    obtain rfl : j = 672 := by omega
    rw [P_X10_restore_b30_e, S_X10_restore_b30_e, if_pos c672', cpy_end]
    exact ⟨rfl, fun _ => trivial, fun h => absurd c672' h⟩
  | succ d ih =>
    intro n j μ hj hn
    obtain ⟨m, rfl⟩ : ∃ m, n = m + 1 := ⟨n - 1, by omega⟩
    have hs := cpy_step (D := 1) (S := 3) (a := 0) (c := (672 * p)) (j := j) (μ := μ) (by decide) (by omega)
    rw [P_X10_restore_b30_e, S_X10_restore_b30_e, if_neg (c672 (by omega)), cpy_ix, nI_1, nI_clamp (n := j) (by omega), nI_clamp (n := 672 * p + j) (by omega)]
    obtain ⟨h1, h2⟩ := ih m (j + 1) (u2 μ 1 (upd (μ 1) (j) (μ 3 (672 * p + j)))) (by omega) (by omega)
    have e : u2 μ 1 (upd (μ 1) (j) (μ 3 (672 * p + j))) = u2 μ 1 (upd (μ 1) (0 + j) (μ 3 ((672 * p) + j))) := by simp only [Nat.zero_add]
    rw [h1]
    refine ⟨by rw [e, hs], fun h => absurd h (c672 (by omega)), fun _ => ?_⟩
    exact ⟨vp_in_nI (by omega) (by omega), vp_in_nI (by omega) (by omega), h2⟩
end CP1
