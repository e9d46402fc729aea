/-! the numbers of a scene: their ranges -/
section NM1
def Num (f : T1) : Prop := ((20 ≤ (f 0).toInt ∧ (f 0).toInt ≤ 400) ∧ (5 ≤ (f 1).toInt ∧ (f 1).toInt ≤ 50) ∧ (0 ≤ (f 2).toInt ∧ (f 2).toInt ≤ 16) ∧ (0 ≤ (f 3).toInt ∧ (f 3).toInt ≤ 16) ∧ (0 ≤ (f 4).toInt ∧ (f 4).toInt ≤ 40) ∧ (1 ≤ (f 5).toInt ∧ (f 5).toInt ≤ 8) ∧ (1 ≤ (f 6).toInt ∧ (f 6).toInt ≤ 8) ∧ (1 ≤ (f 7).toInt ∧ (f 7).toInt ≤ 20)) ∧ (2 * (f 0).toInt ≤ (f 10).toInt ∧ (f 10).toInt ≤ 8 * (f 0).toInt) ∧ (f 11 = -6 ∨ (0 ≤ (f 11).toInt ∧ (f 11).toInt ≤ 530000)) ∧ (0 ≤ (f 21).toInt ∧ (f 21).toInt ≤ 19)
def Nov (f : T1) (q : Int32) : Prop := f 11 = -6 ∨ q.toInt < (f 11).toInt + (hlf f).toInt + 1
/-- how many blows can still be held up to the silence -/
def hlN (f : T1) : Nat := if f 11 = -6 then 0 else 20 - (f 21).toInt.toNat
theorem Num_c {f g : T1} (h : Num f) (e : ∀ i, i < 8 → g i = f i) (h10 : 2 * (f 0).toInt ≤ (g 10).toInt ∧ (g 10).toInt ≤ 8 * (f 0).toInt) (h11 : g 11 = -6 ∨ (0 ≤ (g 11).toInt ∧ (g 11).toInt ≤ 530000)) (h21 : 0 ≤ (g 21).toInt ∧ (g 21).toInt ≤ 19) : Num g := by
  unfold Num
  rw [e 0 (by decide), e 1 (by decide), e 2 (by decide), e 3 (by decide), e 4 (by decide), e 5 (by decide), e 6 (by decide), e 7 (by decide)]
  exact ⟨h.1, h10, h11, h21⟩
theorem Num_e {f g : T1} (h : Num f) (e : ∀ i, i < 8 → g i = f i) (h10 : g 10 = f 10) (h11 : g 11 = f 11) (h21 : g 21 = f 21) : Num g :=
  Num_c h e (by rw [h10]; exact h.2.1) (by rw [h11]; exact h.2.2.1) (by rw [h21]; exact h.2.2.2)
theorem hlf_eq {f g : T1} (h10 : g 10 = f 10) (h1 : g 1 = f 1) : hlf g = hlf f := by
  unfold hlf
  rw [h10, h1]
theorem nm_half {f : T1} (h : Num f) : 0 ≤ (hlf f).toInt ∧ 2 * (hlf f).toInt ≤ (f 10).toInt ∧ P_J9_floorDiv_7cf53 (f 10 * f 1) 100 = hlf f := by
  obtain ⟨⟨a0, a1, a2, a3, a4, a5, a6, a7⟩, hp, -, -⟩ := h
  obtain ⟨e1, e2, e3⟩ := ia_half (p := f 10) (w := f 1) (by omega) (by omega) (by omega) (by omega)
  exact ⟨e2, e3, e1⟩
theorem nm_per {f : T1} (h : Num f) : 40 ≤ (f 10).toInt ∧ (f 10).toInt ≤ 3200 := by
  obtain ⟨⟨a0, -⟩, hp, -, -⟩ := h
  omega
theorem nm_neg {f : T1} (h : Num f) : (f 11 < 0 ↔ f 11 = -6) ∧ (0 ≤ f 11 ↔ ¬ f 11 = -6) := by
  rw [ia_lt, ia_le, ia_0, ia_eq, ia_m6]
  rcases h.2.2.1 with c | c
  · rw [c, ia_m6]; exact ⟨⟨fun _ => rfl, fun _ => by decide⟩, ⟨fun h => absurd h (by decide), fun h => absurd rfl h⟩⟩
  · omega
/-- the end of a window, in 32 bits -/
theorem nm_win {f : T1} (h : Num f) (h11 : ¬ f 11 = -6) (q : Int32) : q < f 11 + hlf f + 1 ↔ q.toInt < (f 11).toInt + (hlf f).toInt + 1 := by
  have h1 := nm_half h
  have h2 := nm_per h
  have h3 : 0 ≤ (f 11).toInt ∧ (f 11).toInt ≤ 530000 := by
    rcases h.2.2.1 with c | c
    · exact absurd c h11
    · exact c
  have e1 : (f 11 + hlf f).toInt = (f 11).toInt + (hlf f).toInt := ia_add (by omega) (by omega)
  have e2 : (f 11 + hlf f + 1).toInt = (f 11).toInt + (hlf f).toInt + 1 := by
    rw [ia_add (by rw [ia_1]; omega) (by rw [ia_1]; omega), e1, ia_1]
  rw [ia_lt, e2]
theorem nm_hl20 (f : T1) : hlN f ≤ 20 := by
  unfold hlN
  split <;> omega
/-- a held blow -/
theorem nm_hold {f g : T1} {n : Nat} (h : Num f) (h11 : ¬ f 11 = -6) (hb : (f 11).toInt ≤ 520000) (e : ∀ i, i < 8 → g i = f i) (e10 : g 10 = f 10) (ho : (g 11 = -6 ∧ g 21 = 0) ∨ (g 11 = f 11 + f 10 ∧ g 21 = f 21 + 1 ∧ f 21 + 1 < f 7)) : Num (enb g n) ∧ hlN (enb g n) + 1 ≤ hlN f := by
  have hE : ∀ i, i < 32 → enb g n i = g i := fun i hi => enb_o (by omega) (by omega)
  have h2 := nm_per h
  have h3 : 0 ≤ (f 11).toInt := by
    rcases h.2.2.1 with c | c
    · exact absurd c h11
    · exact c.1
  have h21 := h.2.2.2
  have h7 := h.1.2.2.2.2.2.2.2
  have hlf0 : hlN f = 20 - (f 21).toInt.toNat := if_neg h11
  rcases ho with ⟨c1, c2⟩ | ⟨c1, c2, c3⟩
  · refine ⟨Num_c h (fun i hi => by rw [hE i (by omega), e i hi]) (by rw [hE 10 (by decide), e10]; exact h.2.1) (Or.inl (by rw [hE 11 (by decide), c1])) (by rw [hE 21 (by decide), c2, ia_0]; decide), ?_⟩
    have : hlN (enb g n) = 0 := if_pos (by rw [hE 11 (by decide), c1])
    omega
  · have e11 : (g 11).toInt = (f 11).toInt + (f 10).toInt := by
      rw [c1]; exact ia_add (by omega) (by omega)
    have e21 : (g 21).toInt = (f 21).toInt + 1 := by
      rw [c2, ia_add (by rw [ia_1]; omega) (by rw [ia_1]; omega), ia_1]
    have e3 : (g 21).toInt < (f 7).toInt := by
      rw [c2]; exact ia_lt.mp c3
    refine ⟨Num_c h (fun i hi => by rw [hE i (by omega), e i hi]) (by rw [hE 10 (by decide), e10]; exact h.2.1) (Or.inr (by rw [hE 11 (by decide)]; omega)) (by rw [hE 21 (by decide)]; omega), ?_⟩
    have e4 : ¬ enb g n 11 = -6 := by
      rw [hE 11 (by decide), ia_eq, ia_m6]; omega
    have e5 : hlN (enb g n) = 20 - (g 21).toInt.toNat := by
      unfold hlN
      rw [if_neg e4, hE 21 (by decide)]
    omega
/-- a beat that is taken: the period and the next blow then -/
theorem nm_tk {f : T1} {t : Int32} (h : Num f) (h11 : ¬ f 11 = -6) (ht0 : 0 ≤ t.toInt) (ht : t.toInt ≤ 100000) (h1 : -(hlf f) ≤ (4 : Int32) * t - f 11) (h2 : Nov f ((4 : Int32) * t)) : (-500000 ≤ ((4 : Int32) * t - f 11).toInt ∧ ((4 : Int32) * t - f 11).toInt ≤ 500000) ∧ (2 * (f 0).toInt ≤ (tkp f ((4 : Int32) * t - f 11)).toInt ∧ (tkp f ((4 : Int32) * t - f 11)).toInt ≤ 8 * (f 0).toInt) ∧ 4 * t.toInt ≤ (f 11 + (P_X10_part (((4 : Int32) * t - f 11) * f 2) 16 + tkp f ((4 : Int32) * t - f 11))).toInt ∧ (f 11 + (P_X10_part (((4 : Int32) * t - f 11) * f 2) 16 + tkp f ((4 : Int32) * t - f 11))).toInt ≤ 410000 := by
  have hh := nm_half h
  have hp := nm_per h
  have h3 : 0 ≤ (f 11).toInt ∧ (f 11).toInt ≤ 530000 := by
    rcases h.2.2.1 with c | c
    · exact absurd c h11
    · exact c
  have e4 : ((4 : Int32) * t).toInt = 4 * t.toInt := ia_mul4 ht0 (by omega)
  have eo : ((4 : Int32) * t - f 11).toInt = 4 * t.toInt - (f 11).toInt := by
    rw [ia_sub (by omega) (by omega), e4]
  have hlo : -(hlf f).toInt ≤ 4 * t.toInt - (f 11).toInt := by
    rw [ia_le, eo, ia_neg (by omega)] at h1
    exact h1
  have hhi : 4 * t.toInt - (f 11).toInt ≤ (hlf f).toInt := by
    rcases h2 with c | c
    · exact absurd c h11
    · omega
  generalize (4 : Int32) * t - f 11 = off at eo ⊢
  obtain ⟨-, hq1, hq2⟩ := ia_off (e := off) (q := f 2) (by omega) (by omega) h.1.2.2.1.1 h.1.2.2.1.2
  obtain ⟨-, hr1, hr2⟩ := ia_off (e := off) (q := f 3) (by omega) (by omega) h.1.2.2.2.1.1 h.1.2.2.2.1.2
  have hB := h.1.1
  have hpp := h.2.1
  have e2B : ((2 : Int32) * f 0).toInt = 2 * (f 0).toInt := by
    rw [ia_mul (by rw [ia_2]; omega) (by rw [ia_2]; omega), ia_2]
  have e8B : ((8 : Int32) * f 0).toInt = 8 * (f 0).toInt := by
    rw [ia_mul (by rw [ia_8]; omega) (by rw [ia_8]; omega), ia_8]
  generalize P_X10_part (off * f 2) 16 = Q at hq1 hq2 ⊢
  have ev : (f 10 + P_X10_part (off * f 3) 16).toInt = (f 10).toInt + (P_X10_part (off * f 3) 16).toInt := by
    refine ia_add ?_ ?_ <;> (by_cases c : 0 ≤ off.toInt <;> omega)
  have hT : 2 * (f 0).toInt ≤ (tkp f off).toInt ∧ (tkp f off).toInt ≤ 8 * (f 0).toInt ∧ (0 ≤ off.toInt → (f 10).toInt ≤ (tkp f off).toInt) := by
    unfold tkp
    by_cases c1 : (2 : Int32) * f 0 ≤ f 10 + P_X10_part (off * f 3) 16
    · rw [if_pos c1]
      rw [ia_le, e2B, ev] at c1
      by_cases c2 : f 10 + P_X10_part (off * f 3) 16 ≤ (8 : Int32) * f 0
      · rw [if_pos c2]
        rw [ia_le, e8B, ev] at c2
        rw [ev]
        exact ⟨c1, c2, fun c => by omega⟩
      · rw [if_neg c2, e8B]
        exact ⟨by omega, by omega, fun c => by omega⟩
    · rw [if_neg c1]
      rw [ia_le, e2B, ev] at c1
      rw [e2B]
      exact ⟨by omega, by omega, fun c => by omega⟩
  generalize tkp f off = p' at hT ⊢
  have es : (Q + p').toInt = Q.toInt + p'.toInt := by
    refine ia_add ?_ ?_ <;> (by_cases c : 0 ≤ off.toInt <;> omega)
  have ex : (f 11 + (Q + p')).toInt = (f 11).toInt + (Q.toInt + p'.toInt) := by
    rw [ia_add ?_ ?_, es] <;> (rw [es]; by_cases c : 0 ≤ off.toInt <;> omega)
  rw [ex]
  by_cases c : 0 ≤ off.toInt
  · have := hq1 c
    have := hT.2.2 c
    omega
  · have := hq2 (by omega)
    omega
end NM1
