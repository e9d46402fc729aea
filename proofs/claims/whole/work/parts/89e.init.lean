/-! the two fresh objects -/
section IN1
theorem init_ok : Rel 0 q_S9 q_M0 := by
  have m1 : q_M0 1 = upd (upd (upd (upd (upd (upd (upd (upd (upd (upd (fun _ => 0) 0 (100 : Int32)) 1 (30 : Int32)) 2 (8 : Int32)) 3 (4 : Int32)) 4 (8 : Int32)) 5 (3 : Int32)) 6 (3 : Int32)) 7 (6 : Int32)) 10 (400 : Int32)) 11 (-6 : Int32) := by
    unfold q_M0
    rw [u2_at]
  have m0 : q_M0 0 = upd (fun _ => 0) 7 (-6) := by
    unfold q_M0
    rw [u2_ne (by decide), u2_at]
  have mj : ∀ j, j ≠ 0 → j ≠ 1 → q_M0 j = fun _ => 0 := fun j a b => by
    unfold q_M0
    rw [u2_ne b, u2_ne a]
  have z : ∀ i, 12 ≤ i → q_M0 1 i = 0 := fun i hi => by
    rw [m1, pk_un (by omega), pk_un (by omega), pk_un (by omega), pk_un (by omega), pk_un (by omega), pk_un (by omega), pk_un (by omega), pk_un (by omega), pk_un (by omega), pk_un (by omega)]
  have z8 : q_M0 1 8 = 0 := by
    rw [m1, pk_un (by decide), pk_un (by decide), pk_un (by decide), pk_un (by decide), pk_un (by decide), pk_un (by decide), pk_un (by decide), pk_un (by decide), pk_un (by decide), pk_un (by decide)]
  have z9 : q_M0 1 9 = 0 := by
    rw [m1, pk_un (by decide), pk_un (by decide), pk_un (by decide), pk_un (by decide), pk_un (by decide), pk_un (by decide), pk_un (by decide), pk_un (by decide), pk_un (by decide), pk_un (by decide)]
  have s1 : ∀ i, i < 8 → q_M0 1 i = q_S1 1 i := fun i hi => by
    rcases (show i = 0 ∨ i = 1 ∨ i = 2 ∨ i = 3 ∨ i = 4 ∨ i = 5 ∨ i = 6 ∨ i = 7 by omega) with h | h | h | h | h | h | h | h <;> subst h <;> rfl
  have hG : RS 64 0 0 0 q_S0 (q_M0 1) := by
    unfold q_S0
    refine RS_begin ?_ s1 ?_ ?_ ?_ (fun i a b c d e => ?_) (by decide) ?_ ⟨fun c hc => ?_, fun i hi => absurd hi (by omega), fun i j hij hj => absurd hj (by omega)⟩ (fun i hi => absurd hi (by omega))
    · unfold NumS
      rw [s1 0 (by decide), s1 1 (by decide), s1 2 (by decide), s1 3 (by decide), s1 4 (by decide), s1 5 (by decide), s1 6 (by decide), s1 7 (by decide)]
      decide
    · rw [s1 0 (by decide)]; rfl
    · rw [m1, pk_us]
    · rw [z 22 (by decide)]; rfl
    · by_cases h12 : 12 ≤ i
      · exact z i h12
      · rcases (show i = 8 ∨ i = 9 by omega) with h | h <;> subst h
        · exact z8
        · exact z9
    · rfl
    · rw [if_neg (by decide)] at hc; omega
  have hs : ∀ j, j < 17 → q_S9 (1 + j) = q_S0 j := fun j hj => by
    unfold q_S9
    rw [if_neg (by omega), if_pos (by omega), show 1 + j - 1 = j by omega]
  have q35 : q_S9 35 = fun _ => 0 := by
    unfold q_S9 q_S3
    rw [if_neg (by decide), if_neg (by decide), if_neg (by decide), if_pos (by decide), if_pos (by decide)]
  have q17 : ∀ j, 174 ≤ j → q_S9 j = fun _ => 0 := fun j hj => by
    unfold q_S9
    rw [if_neg (by omega), if_neg (by omega), if_neg (by omega), if_neg (by omega), if_neg (by omega), if_neg (by omega)]
  refine ⟨⟨0, 0, 0, by decide, RS_cells hG (fun j _ hj => hs j hj), ?_, ?_⟩, ⟨0, 0, 0, by decide, ⟨?_, ?_, ?_, ?_⟩, by decide, by decide, by decide, fun i hi => absurd hi (by omega)⟩, fun s hs2 => Or.inl ⟨?_, ?_⟩, ⟨0, by decide, ?_, ?_, fun i hi => absurd hi (by omega)⟩, ?_⟩
  · rw [z8]
    show 0 = q_S9 (1 + 0) 6
    rw [hs 0 (by decide)]
    unfold q_S0
    rw [cs_begin, u2_ne (by decide), u2_ne (by decide), u2_ne (by decide), u2_at, pk_us]
  · rw [z8, ia_0]; decide
  · rw [q35]; rfl
  · rw [q35]; rfl
  · rw [m0, pk_un (by decide)]; rfl
  · rw [m0, pk_un (by decide)]; rfl
  · rw [q17 174 (by decide)]
  · rw [mj 4 (by decide) (by decide)]
  · rw [q17 175 (by decide)]; rfl
  · rw [m0, pk_un (by decide)]; rfl
  · rw [m0, pk_us]
end IN1
