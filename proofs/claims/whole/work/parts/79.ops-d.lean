/-! what there is: ofBeat, ofBlow, count, slips; nextBlow -/
section OD1
theorem ok_slips : Ok_slips Rel := by
  intro k ξ μ hk hR
  obtain ⟨h, n, b, hn, hRS, -⟩ := hR.1
  refine ⟨trivial, trivial, ?_, Rel_mono _ _ _ hR⟩
  have e : μ 1 24 = ξ 17 7 := hRS.1.2.2.2.2.2.2.2.2.1
  show (100000 : Int32) + ξ 17 7 = (100000 : Int32) + μ 1 24
  rw [e]
theorem ok_nextBlow : Ok_nextBlow Rel := by
  intro k ξ μ x0 hk hR
  obtain ⟨h, n, b, hn, hRS, -⟩ := hR.1
  have hN := hRS.2.1
  have hneg := nm_neg hN
  have e11 : μ 1 11 = ξ 16 2 := hRS.1.2.1.2.2.1
  have e10 : μ 1 10 = ξ 16 1 := hRS.1.2.1.2.1
  have e21 : μ 1 21 = ξ 16 5 := hRS.1.2.1.2.2.2.2.2.1
  have e7 : μ 1 7 = ξ 2 7 := hRS.1.1.2.2.2.2.2.2.2
  have h21 := hN.2.2.2
  have h7 := hN.1.2.2.2.2.2.2.2
  refine ⟨?_, ?_, ?_, Rel_mono _ _ _ hR⟩
  · unfold S_X9_nextBlow S_X9_nextBlow_b0 S_X9_nextBlow_b63
    exact ⟨isis _ _ _, fun _ => trivial, fun _ => ⟨fun _ => trivial, fun _ => ⟨fun _ => trivial, fun _ => ⟨fun _ => trivial, fun _ => trivial⟩⟩⟩⟩
  · unfold S_X10_nextBlow S_X10_nextBlow_b0 S_X10_nextBlow_b48 S_X10_nextBlow_b49 S_X10_nextBlow_b69
    have h49 : ∀ t : Int32, (t = 0 → (μ 1 11 < 0 → True) ∧ (¬ μ 1 11 < 0 → (x0 = 1 → True) ∧ (¬ x0 = 1 → True))) ∧ (¬ t = 0 → True) := fun t => ⟨fun _ => ⟨fun _ => trivial, fun _ => ⟨fun _ => trivial, fun _ => trivial⟩⟩, fun _ => trivial⟩
    exact ⟨ins _ _ _, fun _ => trivial, fun _ => ⟨fun _ => h49 0, fun _ => ⟨fun _ => h49 0, fun _ => h49 1⟩⟩⟩
  · unfold P_X9_nextBlow P_X9_nextBlow_b0 P_X9_nextBlow_b63 P_X10_nextBlow P_X10_nextBlow_b0 P_X10_nextBlow_b48 P_X10_nextBlow_b49 P_X10_nextBlow_b69
    rw [in9, ← e11, ← e10, ← e21, ← e7]
    by_cases c0 : P_X10_in x0 1 20 = 0
    · rw [if_pos c0, if_pos c0]
    rw [if_neg c0, if_neg c0]
    have hx := in_ok c0
    rw [ia_1, show (20 : Int32).toInt = 20 from by decide] at hx
    by_cases c1 : μ 1 11 = -6
    · have c1' := hneg.1.mpr c1
      rw [if_pos c1, if_pos c1', if_pos rfl, if_pos c1']
    have c1' : ¬ μ 1 11 < 0 := fun h => c1 (hneg.1.mp h)
    rw [if_neg c1, if_neg c1', if_pos rfl, if_neg c1', if_neg (show ¬ (1 : Int32) = 0 by decide)]
    have ex : (x0 - 1).toInt = x0.toInt - 1 := by
      rw [ia_sub (by rw [ia_1]; omega) (by rw [ia_1]; omega), ia_1]
    have es : (μ 1 21 + (x0 - 1)).toInt = (μ 1 21).toInt + x0.toInt - 1 := by
      rw [ia_add (by omega) (by omega), ex]; omega
    have es2 : (μ 1 21 + x0 - 1).toInt = (μ 1 21).toInt + x0.toInt - 1 := by
      rw [ia_sub (by rw [ia_1, ia_add (by omega) (by omega)]; omega) (by rw [ia_1, ia_add (by omega) (by omega)]; omega), ia_add (by omega) (by omega), ia_1]
    by_cases c2 : x0 = 1
    · have c2' : x0 - 1 ≤ 0 := by rw [ia_le, ex, ia_0, c2, ia_1]; decide
      rw [if_pos c2', if_pos c2]
      split <;> rfl
    · have c2n : x0.toInt ≠ 1 := fun h => c2 (ia_eq.mpr (by rw [h, ia_1]))
      have c2' : ¬ x0 - 1 ≤ 0 := by rw [ia_le, ex, ia_0]; omega
      rw [if_neg c2', if_neg c2]
      by_cases c3 : μ 1 21 + (x0 - 1) < μ 1 7
      · rw [if_pos c3, if_neg (by rw [ia_le, es2]; rw [ia_lt, es] at c3; omega)]
      · rw [if_neg c3, if_pos (by rw [ia_le, es2]; rw [ia_lt, es] at c3; omega)]
theorem cs_heards (σ : T2) (v : Int32) : S_X7_isHeard σ v := by
  unfold S_X7_isHeard S_X7_isHeard_b0
  exact ⟨fun _ => trivial, fun _ => trivial⟩
theorem cs_rows (v : Int32) : S_X2_hasRow v := by
  unfold S_X2_hasRow S_X2_hasRow_b0
  exact ⟨fun _ => trivial, fun _ => ⟨fun _ => trivial, fun _ => trivial⟩⟩
theorem cs_rowin {v : Int32} (c : ¬ P_X2_hasRow v = 0) : vp_in v 64 := by
  by_cases h0 : v < 0
  · exact absurd (by unfold P_X2_hasRow P_X2_hasRow_b0; rw [if_pos h0]) c
  · by_cases h1 : (64 : Int32) ≤ v
    · exact absurd (by unfold P_X2_hasRow P_X2_hasRow_b0; rw [if_neg h0, if_pos h1]) c
    · obtain ⟨j, hj, e⟩ := nI_of h0
      rw [e] at h1 ⊢
      refine vp_in_nI ?_ (by omega)
      exact Nat.not_le.mp (fun hle => h1 (nI_le (a := 64) hle hj))
theorem cs_kinds (σ : T2) (v : Int32) : S_X2_kindOf σ v := ⟨cs_rows _, fun _ => trivial, fun c => ⟨cs_rowin c, trivial⟩⟩
theorem cs_blows (σ : T2) (v : Int32) : S_X2_blowOf σ v := ⟨cs_rows _, fun _ => trivial, fun c => ⟨cs_rowin c, trivial⟩⟩
theorem cs_offs (σ : T2) (v : Int32) : S_X2_offOf σ v := ⟨cs_rows _, fun _ => trivial, fun c => ⟨cs_rowin c, trivial⟩⟩
theorem cs_slips (σ : T2) (v : Int32) : S_X2_slipOf σ v := ⟨cs_rows _, fun _ => trivial, fun c => ⟨cs_rowin c, trivial⟩⟩
theorem lit_ne {x : Int32} {c : Int32} {z : Int} (hz : c.toInt = z) (h : x.toInt < 0 ∨ 5 < x.toInt) (h0 : 0 ≤ z) (h5 : z ≤ 5) : ¬ x = c := fun e => by rw [e, hz] at h; omega
theorem ok_ofBeat : Ok_ofBeat Rel := by
  intro k ξ μ x0 x1 hk hR
  obtain ⟨h, n, b, hn, hRS, -⟩ := hR.1
  obtain ⟨hS, hN, -, ⟨e22, hb, e14, hhb, e2, e16⟩, hs, ⟨hP1, hP2, hP3⟩, hF⟩ := hRS
  rw [wbF hb] at e2 hP1
  rw [if_neg (by omega)] at e16
  have e2' : (fun j => ξ (3 + j)) 0 2 = nI b := e2
  have e16' : (fun j => ξ (1 + j)) 16 0 = nI h := e16
  obtain ⟨⟨hF1, hF2⟩, -⟩ := hF (by decide)
  have hSn : S_X9_ofBeat ξ x0 x1 := by
    simp [S_X9_ofBeat, S_X9_ofBeat_b0, cs_hass, cs_times, cs_numbers, cs_heards, cs_kinds, cs_blows, cs_offs, cs_slips]
  have eb1 : (nI b - 1).toInt = (b : Int) - 1 := by
    rw [ia_sub (by rw [ia_1, nI_toInt (by omega)]; omega) (by rw [ia_1, nI_toInt (by omega)]; omega), ia_1, nI_toInt (by omega)]
  refine ⟨hSn, ?_, ?_, Rel_mono _ _ _ hR⟩
  · unfold S_X10_ofBeat S_X10_ofBeat_b0 S_X10_ofBeat_b63
    refine ⟨ins _ _ _, fun _ => trivial, fun c0 => ⟨ins _ _ _, fun _ => trivial, fun c1 => ?_⟩⟩
    have hx := in_ok c0
    rw [e22, eb1, ia_0] at hx
    obtain ⟨i, -, rfl, ei⟩ := nI_ex (x := x0) (by omega)
    have hy := in_ok c1
    rw [ia_0, show (5 : Int32).toInt = 5 from by decide] at hy
    obtain ⟨w, -, rfl, ew⟩ := nI_ex (x := x1) (by omega)
    exact ⟨ms_ofBs (k := w) rfl (by omega) (by omega), ms_ofBs (ki := 2) (k := 2) rfl (by omega) (by decide), fun _ => ⟨fun _ => trivial, fun _ => ⟨fun _ => trivial, fun _ => trivial⟩⟩, fun _ => ⟨fun _ => ⟨fun _ => trivial, fun _ => trivial⟩, fun _ => trivial⟩⟩
  · unfold P_X9_ofBeat P_X9_ofBeat_b0 P_X10_ofBeat P_X10_ofBeat_b0 P_X10_ofBeat_b63
    rw [e22]
    by_cases c0 : P_X10_in x0 0 (nI b - 1) = 0
    · rw [if_pos c0]
      have hx := in_no c0
      rw [eb1, ia_0] at hx
      have hz : P_X5_has (fun j => ξ (3 + j)) x0 = 0 := by
        unfold P_X5_has P_X5_has_b0
        rw [e2']
        by_cases c1 : x0 < 0
        · rw [if_pos c1]
        · rw [if_neg c1, if_pos (by rw [ia_le, nI_toInt (by omega)]; rw [ia_lt, ia_0] at c1; omega)]
      rw [hz, if_pos rfl]
    · rw [if_neg c0]
      have hx := in_ok c0
      rw [eb1, ia_0] at hx
      obtain ⟨i, -, rfl, ei⟩ := nI_ex (x := x0) (by omega)
      have hib : i < b := by omega
      have hH : P_X7_isHeard (fun j => ξ (1 + j)) (nI i) = if i < h then 1 else 0 := by
        unfold P_X7_isHeard P_X7_isHeard_b0
        rw [e16']
        by_cases c1 : i < h
        · rw [if_pos c1, if_neg (nI_ge c1 (by omega))]
        · rw [if_neg c1, if_pos (nI_le (by omega) (by omega))]
      have hK : P_X2_kindOf (fun j => ξ (6 + j)) (nI i) = ξ 7 i ∧ P_X2_blowOf (fun j => ξ (6 + j)) (nI i) = ξ 8 i ∧ P_X2_offOf (fun j => ξ (6 + j)) (nI i) = ξ 9 i ∧ P_X2_slipOf (fun j => ξ (6 + j)) (nI i) = ξ 10 i := by
        unfold P_X2_kindOf P_X2_kindOf_b0 P_X2_blowOf P_X2_blowOf_b0 P_X2_offOf P_X2_offOf_b0 P_X2_slipOf P_X2_slipOf_b0
        rw [cs_hasRow (by omega), if_neg (by decide), if_neg (by decide), if_neg (by decide), if_neg (by decide), nI_clamp (n := i) (by omega)]
        exact ⟨rfl, rfl, rfl, rfl⟩
      rw [cs_has (b := i) e2' hib hb, if_neg (by decide), cs_timeOf (b := i) e2' hib hb, cs_numberOf (b := i) e2' hib hb, hH, hK.1, hK.2.1, hK.2.2.1, hK.2.2.2]
      obtain ⟨p1, p2⟩ := hP1 i hib
      rw [show skp 64 i = i by unfold skp; rw [if_pos (by omega)]] at p1 p2
      by_cases c1 : P_X10_in x1 0 5 = 0
      · rw [if_pos c1]
        have hy := in_no c1
        rw [ia_0, show (5 : Int32).toInt = 5 from by decide] at hy
        rw [if_neg (lit_ne (c := 0) (z := 0) (by decide) hy (by decide) (by decide)), if_neg (lit_ne (c := 1) (z := 1) (by decide) hy (by decide) (by decide)), if_neg (lit_ne (c := 2) (z := 2) (by decide) hy (by decide) (by decide)), if_neg (lit_ne (c := 3) (z := 3) (by decide) hy (by decide) (by decide)), if_neg (lit_ne (c := 4) (z := 4) (by decide) hy (by decide) (by decide)), if_neg (lit_ne (c := 5) (z := 5) (by decide) hy (by decide) (by decide))]
      · rw [if_neg c1]
        have hy := in_ok c1
        rw [ia_0, show (5 : Int32).toInt = 5 from by decide] at hy
        obtain ⟨w, -, rfl, ew⟩ := nI_ex (x := x1) (by omega)
        rw [ms_ofB (ki := 2) (k := 2) rfl (by omega) (by decide), ms_ofB (ki := nI w) (k := w) rfl (by omega) (by omega)]
        have q2 : μ 1 (32 + 6 * i + 2) = μ 1 (34 + 6 * i) := by rw [show 32 + 6 * i + 2 = 34 + 6 * i by omega]
        rw [q2]
        rcases (show w = 0 ∨ w = 1 ∨ w = 2 ∨ w = 3 ∨ w = 4 ∨ w = 5 by omega) with hw | hw | hw | hw | hw | hw <;> subst hw
        · rw [if_pos (show nI 0 = 0 from rfl), if_neg (show ¬ nI 0 = 4 by decide), if_neg (show ¬ nI 0 = 5 by decide)]
          exact p1
        · rw [if_neg (show ¬ nI 1 = 0 by decide), if_pos (show nI 1 = 1 from rfl), if_neg (show ¬ nI 1 = 4 by decide), if_neg (show ¬ nI 1 = 5 by decide), show 32 + 6 * i + 1 = 33 + 6 * i by omega]
          exact p2
        · rw [if_neg (show ¬ nI 2 = 0 by decide), if_neg (show ¬ nI 2 = 1 by decide), if_pos (show nI 2 = 2 from rfl), if_neg (show ¬ nI 2 = 4 by decide), if_neg (show ¬ nI 2 = 5 by decide), show 32 + 6 * i + 2 = 34 + 6 * i by omega]
          by_cases c2 : i < h
          · rw [if_pos c2, if_neg (by decide)]
            exact (hF1 i c2).1
          · rw [if_neg c2, if_pos rfl]
            exact (hF2 i (by omega) hib).1.symm
        · rw [if_neg (show ¬ nI 3 = 0 by decide), if_neg (show ¬ nI 3 = 1 by decide), if_neg (show ¬ nI 3 = 2 by decide), if_pos (show nI 3 = 3 from rfl), if_neg (show ¬ nI 3 = 4 by decide), if_neg (show ¬ nI 3 = 5 by decide), show 32 + 6 * i + 3 = 35 + 6 * i by omega]
          by_cases c2 : i < h
          · rw [if_pos c2, if_neg (by decide)]
            exact (hF1 i c2).2.1
          · rw [if_neg c2, if_pos rfl]
            exact (hF2 i (by omega) hib).2.symm
        · rw [if_neg (show ¬ nI 4 = 0 by decide), if_neg (show ¬ nI 4 = 1 by decide), if_neg (show ¬ nI 4 = 2 by decide), if_neg (show ¬ nI 4 = 3 by decide), if_pos (show nI 4 = 4 from rfl), if_pos (show nI 4 = 4 from rfl), show 32 + 6 * i + 4 = 36 + 6 * i by omega]
          by_cases c2 : i < h
          · rw [if_pos c2, if_neg (by decide)]
            obtain ⟨f1, f2, f3⟩ := hF1 i c2
            have f1' : ξ 7 i = μ 1 (34 + 6 * i) := f1
            have f3' : kd (ξ 7 i) (ξ 9 i) (ξ 10 i) (μ 1 (36 + 6 * i)) (μ 1 (37 + 6 * i)) := f3
            rw [← f1']
            rcases f3' with ⟨a, b, c⟩ | ⟨a, b, c⟩ | ⟨a, b, c⟩
            · rw [if_pos a, b]
            · rw [a, if_neg (by decide), if_pos rfl, b]
            · rw [a, if_neg (by decide), if_neg (by decide), b]
          · rw [if_neg c2, if_pos rfl, (hF2 i (by omega) hib).1, if_neg (by decide), if_neg (by decide)]
        · rw [if_neg (show ¬ nI 5 = 0 by decide), if_neg (show ¬ nI 5 = 1 by decide), if_neg (show ¬ nI 5 = 2 by decide), if_neg (show ¬ nI 5 = 3 by decide), if_neg (show ¬ nI 5 = 4 by decide), if_pos (show nI 5 = 5 from rfl), if_neg (show ¬ nI 5 = 4 by decide), if_pos (show nI 5 = 5 from rfl), show 32 + 6 * i + 5 = 37 + 6 * i by omega]
          by_cases c2 : i < h
          · rw [if_pos c2, if_neg (by decide)]
            obtain ⟨f1, f2, f3⟩ := hF1 i c2
            have f1' : ξ 7 i = μ 1 (34 + 6 * i) := f1
            have f3' : kd (ξ 7 i) (ξ 9 i) (ξ 10 i) (μ 1 (36 + 6 * i)) (μ 1 (37 + 6 * i)) := f3
            rw [← f1']
            rcases f3' with ⟨a, b, c⟩ | ⟨a, b, c⟩ | ⟨a, b, c⟩
            · rw [a, if_pos (by decide), c]
            · rw [a, if_neg (by decide), c]
            · rw [a, if_neg (by decide), c]
          · rw [if_neg c2, if_pos rfl, (hF2 i (by omega) hib).1, if_pos (by decide)]
theorem cs_bhass (σ : T2) (v : Int32) : S_X0_has σ v := by
  unfold S_X0_has S_X0_has_b0
  exact ⟨fun _ => trivial, fun _ => ⟨fun _ => trivial, fun _ => ⟨fun _ => trivial, fun _ => trivial⟩⟩⟩
theorem cs_rowOfs (σ : T2) (v : Int32) : S_X0_rowOf σ v := trivial
theorem cs_rowOfin (σ : T2) (v : Int32) : vp_in (P_X0_rowOf σ v) 64 := by
  unfold P_X0_rowOf P_X0_rowOf_b0
  exact pk_andIn (m := (63 : Int32)) v 6 (by decide) (by decide)
theorem ok_ofBlow : Ok_ofBlow Rel := by
  intro k ξ μ x0 x1 hk hR
  obtain ⟨h, n, b, hn, hRS, -⟩ := hR.1
  obtain ⟨hS, hN, ⟨e12, e10⟩, ⟨e22, hb, e14, hhb, e2, e16⟩, hs, hP, hF⟩ := hRS
  obtain ⟨-, hB⟩ := hF (by decide)
  have e10' : (fun j => ξ (11 + j)) 0 4 = nI n := e10
  have hSn : S_X9_ofBlow ξ x0 x1 := by
    simp [S_X9_ofBlow, S_X9_ofBlow_b0, cs_bhass, cs_rowOfs, cs_rowOfin]
  have en : (nI n).toInt = (n : Int) := nI_toInt (by omega)
  have e64 : (64 : Int32).toInt = 64 := by decide
  have en1 : (nI n - 1).toInt = (n : Int) - 1 := by
    rw [ia_sub (by rw [ia_1, en]; omega) (by rw [ia_1, en]; omega), ia_1, en]
  have en64 : (nI n - 64).toInt = (n : Int) - 64 := by
    rw [ia_sub (by rw [e64, en]; omega) (by rw [e64, en]; omega), e64, en]
  refine ⟨hSn, ?_, ?_, Rel_mono _ _ _ hR⟩
  · unfold S_X10_ofBlow S_X10_ofBlow_b0
    refine ⟨fun _ => trivial, fun c0 => ⟨ins _ _ _, fun _ => trivial, fun c1 => ⟨ins _ _ _, fun _ => trivial, fun c2 => ⟨?_, trivial⟩⟩⟩⟩
    have hx := in_ok c1
    rw [e12, en1, en64] at hx
    have hy := in_ok c2
    rw [ia_0, show (3 : Int32).toInt = 3 from by decide] at hy
    rw [ia_lt, ia_0] at c0
    obtain ⟨i, -, rfl, ei⟩ := nI_ex (x := x0) (by omega)
    obtain ⟨w, -, rfl, ew⟩ := nI_ex (x := x1) (by omega)
    rw [idx_eq (by omega), nI_add]
    exact vp_in_nI (by omega) (by omega)
  · unfold P_X9_ofBlow P_X9_ofBlow_b0 P_X10_ofBlow P_X10_ofBlow_b0 P_X0_has P_X0_has_b0
    rw [e10', e12]
    by_cases c0 : x0 < 0
    · rw [if_pos c0, if_pos c0, if_pos rfl]
    rw [if_neg c0, if_neg c0]
    rw [ia_lt, ia_0] at c0
    obtain ⟨i, hi31, rfl, ei⟩ := nI_ex (x := x0) (by omega)
    by_cases c1 : nI n ≤ nI i
    · have c1' : P_X10_in (nI i) (nI n - 64) (nI n - 1) = 0 := by
        rw [ia_le, en, ei] at c1
        unfold P_X10_in P_X10_in_b0
        rw [if_neg (by rw [ia_lt, en64, ei]; omega), if_pos (by rw [ia_lt, en1, ei]; omega)]
      rw [if_pos c1, if_pos c1', if_pos rfl]
    rw [if_neg c1]
    rw [ia_le, en, ei] at c1
    by_cases c2 : nI i < nI n - 64
    · have c1' : P_X10_in (nI i) (nI n - 64) (nI n - 1) = 0 := by
        unfold P_X10_in P_X10_in_b0
        rw [if_pos c2]
      rw [if_pos c2, if_pos c1', if_pos rfl]
    have c1' : ¬ P_X10_in (nI i) (nI n - 64) (nI n - 1) = 0 := by
      unfold P_X10_in P_X10_in_b0
      rw [if_neg c2, if_neg (by rw [ia_lt, en1, ei]; omega)]
      decide
    rw [if_neg c2, if_neg c1', if_neg (by decide)]
    have er : (P_X0_rowOf (fun j => ξ (11 + j)) (nI i)).toNatClampNeg = i % 64 := by
      unfold P_X0_rowOf P_X0_rowOf_b0
      exact x_row (by omega)
    rw [er, idx_eq (by omega)]
    obtain ⟨b1, b2, b3, b4⟩ := hB (i % 64) (by omega) (by omega)
    have b1' : ξ 12 (i % 64) = μ 1 (416 + 4 * (i % 64)) := b1
    have b2' : ξ 13 (i % 64) = μ 1 (417 + 4 * (i % 64)) := b2
    have b3' : ξ 14 (i % 64) = μ 1 (418 + 4 * (i % 64)) := b3
    have b4' : ξ 15 (i % 64) = μ 1 (419 + 4 * (i % 64)) := b4
    by_cases c3 : P_X10_in x1 0 3 = 0
    · have hy := in_no c3
      rw [ia_0, show (3 : Int32).toInt = 3 from by decide] at hy
      have hne : ∀ (c : Int32) (z : Int), c.toInt = z → 0 ≤ z → z ≤ 3 → ¬ x1 = c := fun c z hz h0 h3 e => by rw [e, hz] at hy; omega
      rw [if_pos c3, if_neg (hne 0 0 (by decide) (by decide) (by decide)), if_neg (hne 1 1 (by decide) (by decide) (by decide)), if_neg (hne 2 2 (by decide) (by decide) (by decide)), if_neg (hne 3 3 (by decide) (by decide) (by decide))]
    · have hy := in_ok c3
      rw [ia_0, show (3 : Int32).toInt = 3 from by decide] at hy
      obtain ⟨w, -, rfl, ew⟩ := nI_ex (x := x1) (by omega)
      rw [if_neg c3, nI_add, nI_clamp (by omega)]
      rcases (show w = 0 ∨ w = 1 ∨ w = 2 ∨ w = 3 by omega) with hw | hw | hw | hw <;> subst hw
      · rw [if_pos (show nI 0 = 0 from rfl), b1']; rfl
      · rw [if_neg (show ¬ nI 1 = 0 by decide), if_pos (show nI 1 = 1 from rfl), b2', show 416 + 4 * (i % 64) + 1 = 417 + 4 * (i % 64) by omega]
      · rw [if_neg (show ¬ nI 2 = 0 by decide), if_neg (show ¬ nI 2 = 1 by decide), if_pos (show nI 2 = 2 from rfl), b3', show 416 + 4 * (i % 64) + 2 = 418 + 4 * (i % 64) by omega]
      · rw [if_neg (show ¬ nI 3 = 0 by decide), if_neg (show ¬ nI 3 = 1 by decide), if_neg (show ¬ nI 3 = 2 by decide), if_pos (show nI 3 = 3 from rfl), b4', show 416 + 4 * (i % 64) + 3 = 419 + 4 * (i % 64) by omega]
theorem ok_count : Ok_count Rel := by
  intro k ξ μ x0 hk hR
  have hRm := Rel_mono _ _ _ hR
  obtain ⟨h, n, b, hn, hRS, ht8, -⟩ := hR.1
  obtain ⟨-, ⟨nx, pf, pm, -, ⟨a1, a2, a3, a4⟩, -⟩, -, ⟨L, p1, p2, p3, p4⟩, -⟩ := hR
  obtain ⟨hS, hN, ⟨e12, e10⟩, ⟨e22, hb, e14, hhb, e2, e16⟩, hs, hP, hF⟩ := hRS
  rw [wbF hb] at e2
  rw [if_neg (by omega)] at e16
  obtain ⟨⟨s0, s1, s2, s3, s4, s5, s6, s7⟩, ⟨d0, d1, d2, d3, d4, d5, d6⟩, ⟨t1, t2, t3, t4, t5, t6, t7, t8, t9⟩⟩ := hS
  refine ⟨?_, ?_, ?_, hRm⟩
  · unfold S_X9_count S_X9_count_b0
    refine ⟨isis _ _ _, fun _ => by simp, fun c => ⟨?_, trivial⟩⟩
    rw [in9] at c
    have hx := in_ok c
    rw [ia_16, show (23 : Int32).toInt = 23 from by decide] at hx
    obtain ⟨i, -, rfl, ei⟩ := nI_ex (x := x0) (by omega)
    rw [show (16 : Int32) = nI 16 from rfl, pk_sub (show 16 ≤ i by omega)]
    exact vp_in_nI (by omega) (by omega)
  · unfold S_X10_count S_X10_count_b0
    refine ⟨ins _ _ _, fun _ => ⟨ins _ _ _, fun _ => by simp, fun c => ⟨?_, trivial⟩⟩, fun c => ⟨?_, trivial⟩⟩
    · have hx := in_ok c
      rw [ia_16, show (23 : Int32).toInt = 23 from by decide] at hx
      obtain ⟨i, -, rfl, ei⟩ := nI_ex (x := x0) (by omega)
      rw [show (16 : Int32) = nI 16 from rfl, pk_sub (show 16 ≤ i by omega)]
      exact vp_in_nI (by omega) (by omega)
    · have hx := in_ok c
      rw [ia_0, show (15 : Int32).toInt = 15 from by decide] at hx
      obtain ⟨i, -, rfl, ei⟩ := nI_ex (x := x0) (by omega)
      rw [show (8 : Int32) = nI 8 from rfl, nI_add]
      exact vp_in_nI (by omega) (by omega)
  · by_cases c : 0 ≤ x0.toInt ∧ x0.toInt ≤ 25
    · obtain ⟨i, -, rfl, ei⟩ := nI_ex (x := x0) c.1
      rcases (show i = 0 ∨ i = 1 ∨ i = 2 ∨ i = 3 ∨ i = 4 ∨ i = 5 ∨ i = 6 ∨ i = 7 ∨ i = 8 ∨ i = 9 ∨ i = 10 ∨ i = 11 ∨ i = 12 ∨ i = 13 ∨ i = 14 ∨ i = 15 ∨ i = 16 ∨ i = 17 ∨ i = 18 ∨ i = 19 ∨ i = 20 ∨ i = 21 ∨ i = 22 ∨ i = 23 ∨ i = 24 ∨ i = 25 by omega) with hw | hw | hw | hw | hw | hw | hw | hw | hw | hw | hw | hw | hw | hw | hw | hw | hw | hw | hw | hw | hw | hw | hw | hw | hw | hw <;> subst hw
      · exact ht8.symm
      · exact d0.symm
      · exact d1.symm
      · exact d2.symm
      · exact e10.trans e12.symm
      · exact t2.symm
      · exact e16.trans e14.symm
      · exact t1.symm
      · exact t3.symm
      · exact t4.symm
      · exact t6.symm
      · exact d3.symm
      · exact d4.symm
      · exact d5.symm
      · exact e2.trans e22.symm
      · exact t5.symm
      · exact s0.symm
      · exact s1.symm
      · exact s2.symm
      · exact s3.symm
      · exact s4.symm
      · exact s5.symm
      · exact s6.symm
      · exact s7.symm
      · exact p2.trans p3.symm
      · exact a2.trans a4.symm
    · have hn1 : P_X10_in x0 16 23 = 0 := by
        unfold P_X10_in P_X10_in_b0
        by_cases c2 : x0 < 16
        · rw [if_pos c2]
        · rw [if_neg c2, if_pos (by rw [ia_lt, show (23 : Int32).toInt = 23 from by decide]; rw [ia_lt, ia_16] at c2; omega)]
      have hn2 : P_X10_in x0 0 15 = 0 := by
        unfold P_X10_in P_X10_in_b0
        by_cases c2 : x0 < 0
        · rw [if_pos c2]
        · rw [if_neg c2, if_pos (by rw [ia_lt, show (15 : Int32).toInt = 15 from by decide]; rw [ia_lt, ia_0] at c2; omega)]
      have hne : ∀ (c9 : Int32) (z : Int), c9.toInt = z → 0 ≤ z → z ≤ 25 → ¬ x0 = c9 := fun c9 z hz h0 h3 e => c (by rw [e, hz]; exact ⟨h0, h3⟩)
      unfold P_X9_count P_X9_count_b0 P_X10_count P_X10_count_b0
      rw [in9, if_pos hn1, if_pos hn2, if_pos hn1, if_neg (hne 24 24 (by decide) (by decide) (by decide)), if_neg (hne 25 25 (by decide) (by decide) (by decide))]
      simp only [hne 0 0 (by decide) (by decide) (by decide), hne 1 1 (by decide) (by decide) (by decide), hne 2 2 (by decide) (by decide) (by decide), hne 3 3 (by decide) (by decide) (by decide), hne 4 4 (by decide) (by decide) (by decide), hne 5 5 (by decide) (by decide) (by decide), hne 6 6 (by decide) (by decide) (by decide), hne 7 7 (by decide) (by decide) (by decide), hne 8 8 (by decide) (by decide) (by decide), hne 9 9 (by decide) (by decide) (by decide), hne 10 10 (by decide) (by decide) (by decide), hne 11 11 (by decide) (by decide) (by decide), hne 12 12 (by decide) (by decide) (by decide), hne 13 13 (by decide) (by decide) (by decide), hne 14 14 (by decide) (by decide) (by decide), hne 15 15 (by decide) (by decide) (by decide), hne 16 16 (by decide) (by decide) (by decide), hne 17 17 (by decide) (by decide) (by decide), hne 18 18 (by decide) (by decide) (by decide), hne 19 19 (by decide) (by decide) (by decide), hne 20 20 (by decide) (by decide) (by decide), hne 21 21 (by decide) (by decide) (by decide), hne 22 22 (by decide) (by decide) (by decide), hne 23 23 (by decide) (by decide) (by decide), hne 24 24 (by decide) (by decide) (by decide), hne 25 25 (by decide) (by decide) (by decide), if_false]
end OD1
