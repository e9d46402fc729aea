/-! bestNudge -/
section BN1
def In (ξ μ ξs μs : T2) : Prop := (∀ j, ¬ (18 ≤ j ∧ j < 35) → ξs j = ξ j) ∧ ξs 20 2 = ξ 3 2 ∧ (∀ i, i < 64 → ξs 21 i = ξ 4 i ∧ ξs 22 i = ξ 5 i) ∧ (∀ j, j ≠ 1 → j ≠ 5 → μs j = μ j) ∧ (∀ i, i < 672 → μs 1 i = μ 1 i)
def Acc (s : Nat) (cb cf cl mb mf ml : Int32) : Prop := (s = 0 ∧ cf = 1000000 ∧ mb = -6) ∨ (cb = mb ∧ 0 ≤ mb.toInt ∧ cf = mf ∧ cl = ml)
theorem bn_step {h n b s nc nm : Nat} {ξ μ ξs μs : T2} {v1 ph pc cb cf cl mb mf ml : Int32} (hRS : RS 64 h n b (fun j => ξ (1 + j)) (μ 1)) (hl : μ 0 7 = -6) (hI : In ξ μ ξs μs) (hs : s ≤ 16) (hA : Acc s cb cf cl mb mf ml) (h1 : 0 ≤ ph.toInt ∧ ph.toInt ≤ 16) (h2 : 0 ≤ pc.toInt ∧ pc.toInt ≤ 16) :
    ∃ (ξ' μ' : T2) (cb' cf' cl' mb' mf' ml' : Int32), In ξ μ ξ' μ' ∧ Acc (s + 1) cb' cf' cl' mb' mf' ml' ∧ P_X9_bestNudge_b104 (P_X9_bestNudge_b58 nc) ξs v1 cb cf cl (nI s) pc ph = P_X9_bestNudge_b58 nc ξ' v1 cb' cf' cl' (nI (s + 1)) ∧ (S_X9_bestNudge_b58 nc ξ' v1 cb' cf' cl' (nI (s + 1)) → S_X9_bestNudge_b104 (S_X9_bestNudge_b58 nc) ξs v1 cb cf cl (nI s) pc ph) ∧ P_X10_bestNudge_b77 (P_X10_bestNudge_b23 nm) (P_X10_layAside μs) v1 mb mf ml (nI s) pc ph = P_X10_bestNudge_b23 nm μ' v1 mb' mf' ml' (nI (s + 1)) ∧ (S_X10_bestNudge_b23 nm μ' v1 mb' mf' ml' (nI (s + 1)) → S_X10_bestNudge_b77 (S_X10_bestNudge_b23 nm) (P_X10_layAside μs) v1 mb mf ml (nI s) pc ph) := by
  obtain ⟨i1, i2, i3, i4, i5⟩ := hI
  obtain ⟨l1, l2, l3⟩ := aside_ok μs
  obtain ⟨s1, s2, n', s3, s4, s5, s6⟩ := play64 (k := 0) (ξ1 := ξs) (μa := P_X10_layAside μs) (v1 := ph) (v2 := pc) hRS hl i2 i3 i1 (fun j h9 h5 => by rw [l2 j h5, i4 j h9 h5]) (fun i hi => by rw [l2 1 (by decide), i5 i hi]) h1 h2
  unfold P_X9_bestNudge_b104 S_X9_bestNudge_b104 P_X10_bestNudge_b77 S_X10_bestNudge_b77 P_X9_bestNudge_b107c S_X9_bestNudge_b107c P_X10_bestNudge_b80c S_X10_bestNudge_b80c P_X10_bestNudge_b102c S_X10_bestNudge_b102c P_X9_bestNudge_b150 S_X9_bestNudge_b150 P_X9_bestNudge_b160 S_X9_bestNudge_b160 P_X10_bestNudge_b125 S_X10_bestNudge_b125 P_X10_bestNudge_b135 S_X10_bestNudge_b135
  generalize P_X9_playTrial ξs ph pc = ξ2 at s3 s4 s5 ⊢
  generalize P_X10_playAll (P_X10_layAside μs) ph pc = μ2 at s3 s6 s2 ⊢
  obtain ⟨b1, b2, b3⟩ := back_ok μ2
  have hIn : In ξ μ ξ2 (P_X10_layBack μ2) := by
    refine ⟨fun j hj => ?_, ?_, fun i hi => ?_, fun j h9 h5 => ?_, fun i hi => ?_⟩
    · rw [s4 j hj, i1 j hj]
    · rw [s5 20 (by omega), i2]
    · rw [s5 21 (by omega), s5 22 (by omega)]; exact i3 i hi
    · rw [b2 j h9, s6 j h9, l2 j h5, i4 j h9 h5]
    · rw [b3 i hi, s6 5 (by decide), l3 i hi, i5 i hi]
  obtain ⟨-, -, ⟨t1, t2, t3, t4, t5, t6, t7, t8, t9⟩⟩ := s3.1
  have t6' : ξ2 34 6 = μ2 1 18 := t6.symm
  have t8' : ξ2 34 8 = μ2 1 26 := t8.symm
  have h18 := s3.2.2.2.2.1
  have hb := hRS.2.2.2.1.2.1
  rw [t6', t8', nI_1]
  generalize μ2 1 18 = T at h18 ⊢
  generalize μ2 1 26 = O
  have hns : 0 ≤ (nI s).toInt := by rw [nI_toInt (by omega)]; omega
  rcases hA with ⟨rfl, rfl, rfl⟩ | ⟨rfl, a2, rfl, rfl⟩
  · have c1 : T < 1000000 := by rw [ia_lt, ia_NV]; omega
    have c2 : (-6 : Int32) < 0 := by decide
    rw [if_pos c1, if_pos c2]
    refine ⟨ξ2, P_X10_layBack μ2, nI 0, T, O, nI 0, T, O, hIn, Or.inr ⟨rfl, hns, rfl, rfl⟩, rfl, fun hS => ⟨s1, fun _ => hS, fun h => absurd c1 h⟩, rfl, fun hS => ⟨s2, b1, fun _ => hS, fun h => absurd c2 h⟩⟩
  · have c0 : ¬ cb < 0 := by rw [ia_lt, ia_0]; omega
    rw [if_neg c0]
    by_cases c1 : T < cf
    · rw [if_pos c1, if_pos c1]
      refine ⟨ξ2, P_X10_layBack μ2, nI s, T, O, nI s, T, O, hIn, Or.inr ⟨rfl, hns, rfl, rfl⟩, rfl, fun hS => ⟨s1, fun _ => hS, fun h => absurd c1 h⟩, rfl, fun hS => ⟨s2, b1, fun h => absurd h c0, fun _ => ⟨fun _ => hS, fun h => absurd c1 h⟩⟩⟩
    · rw [if_neg c1, if_neg c1]
      by_cases c2 : T = cf
      · rw [if_pos c2, if_pos c2]
        by_cases c3 : cl ≤ O
        · rw [if_pos c3, if_pos c3]
          refine ⟨ξ2, P_X10_layBack μ2, cb, cf, cl, cb, cf, cl, hIn, Or.inr ⟨rfl, a2, rfl, rfl⟩, rfl, fun hS => ⟨s1, fun h => absurd h c1, fun _ => ⟨fun _ => ⟨fun _ => hS, fun h => absurd c3 h⟩, fun h => absurd c2 h⟩⟩, rfl, fun hS => ⟨s2, b1, fun h => absurd h c0, fun _ => ⟨fun h => absurd h c1, fun _ => ⟨fun _ => ⟨fun _ => hS, fun h => absurd c3 h⟩, fun h => absurd c2 h⟩⟩⟩⟩
        · rw [if_neg c3, if_neg c3]
          refine ⟨ξ2, P_X10_layBack μ2, nI s, T, O, nI s, T, O, hIn, Or.inr ⟨rfl, hns, rfl, rfl⟩, rfl, fun hS => ⟨s1, fun h => absurd h c1, fun _ => ⟨fun _ => ⟨fun h => absurd h c3, fun _ => hS⟩, fun h => absurd c2 h⟩⟩, rfl, fun hS => ⟨s2, b1, fun h => absurd h c0, fun _ => ⟨fun h => absurd h c1, fun _ => ⟨fun _ => ⟨fun h => absurd h c3, fun _ => hS⟩, fun h => absurd c2 h⟩⟩⟩⟩
      · rw [if_neg c2, if_neg c2]
        refine ⟨ξ2, P_X10_layBack μ2, cb, cf, cl, cb, cf, cl, hIn, Or.inr ⟨rfl, a2, rfl, rfl⟩, rfl, fun hS => ⟨s1, fun h => absurd h c1, fun _ => ⟨fun h => absurd h c2, fun _ => hS⟩⟩, rfl, fun hS => ⟨s2, b1, fun h => absurd h c0, fun _ => ⟨fun h => absurd h c1, fun _ => ⟨fun h => absurd h c2, fun _ => hS⟩⟩⟩⟩
theorem bn_loop {h n b : Nat} {ξ μ : T2} {v1 : Int32} (hRS : RS 64 h n b (fun j => ξ (1 + j)) (μ 1)) (hl : μ 0 7 = -6) (hb0 : 0 < b) (hv : v1 = 2 ∨ v1 = 3) : ∀ (d nc nm s : Nat) (ξs μs : T2) (cb cf cl mb mf ml : Int32), s + d = 17 → d < nc → d < nm → In ξ μ ξs μs → Acc s cb cf cl mb mf ml →
    S_X9_bestNudge_b58 nc ξs v1 cb cf cl (nI s) ∧ S_X10_bestNudge_b23 nm μs v1 mb mf ml (nI s) ∧ (P_X9_bestNudge_b58 nc ξs v1 cb cf cl (nI s)).1 = (P_X10_bestNudge_b23 nm μs v1 mb mf ml (nI s)).1 ∧ In ξ μ (P_X9_bestNudge_b58 nc ξs v1 cb cf cl (nI s)).2 (P_X10_bestNudge_b23 nm μs v1 mb mf ml (nI s)).2 := by
  obtain ⟨hset, hNS⟩ := pl_set hRS
  have hb := hRS.2.2.2.1.2.1
  intro d
  induction d with
  | zero =>
    intro nc nm s ξs μs cb cf cl mb mf ml hs hnc hnm hI hA
    obtain ⟨c, rfl⟩ : ∃ c, nc = c + 1 := ⟨nc - 1, by omega⟩
    obtain ⟨m, rfl⟩ : ∃ m, nm = m + 1 := ⟨nm - 1, by omega⟩
    obtain rfl : s = 17 := by omega
    have c1 : (16 : Int32) < nI 17 := by decide
    rw [P_X9_bestNudge_b58_e, S_X9_bestNudge_b58_e, P_X10_bestNudge_b23_e, S_X10_bestNudge_b23_e, if_pos c1, if_pos c1]
    refine ⟨⟨fun _ => trivial, fun h => absurd c1 h⟩, ⟨fun _ => trivial, fun h => absurd c1 h⟩, ?_, hI⟩
    rcases hA with ⟨h, -⟩ | ⟨h, -⟩
    · exact absurd h (by decide)
    · exact h
  | succ d ih =>
    intro nc nm s ξs μs cb cf cl mb mf ml hs hnc hnm hI hA
    obtain ⟨c, rfl⟩ : ∃ c, nc = c + 1 := ⟨nc - 1, by omega⟩
    obtain ⟨m, rfl⟩ : ∃ m, nm = m + 1 := ⟨nm - 1, by omega⟩
    have c1 : ¬ (16 : Int32) < nI s := nI_nlt (b := s) (a := 16) (by omega) (by omega)
    have c2 : ¬ μs 1 22 ≤ 0 := by
      rw [hI.2.2.2.2 22 (by decide), hRS.2.2.2.1.1]
      exact nI_nle hb0 (by omega)
    obtain ⟨l1, l2, l3⟩ := aside_ok μs
    rw [P_X9_bestNudge_b58_e, S_X9_bestNudge_b58_e, P_X10_bestNudge_b23_e, S_X10_bestNudge_b23_e, if_neg c1, if_neg c1, if_neg c2]
    have hns : 0 ≤ (nI s).toInt ∧ (nI s).toInt ≤ 16 := by rw [nI_toInt (by omega)]; omega
    have e2 : ξs 2 = ξ 2 := hI.1 2 (by omega)
    have m2 : P_X10_layAside μs 1 2 = ξs 2 2 := by
      rw [l2 1 (by decide), hI.2.2.2.2 2 (by decide), e2]; exact hset 2 (by decide)
    have m3 : P_X10_layAside μs 1 3 = ξs 2 3 := by
      rw [l2 1 (by decide), hI.2.2.2.2 3 (by decide), e2]; exact hset 3 (by decide)
    have r2 : 0 ≤ (ξs 2 2).toInt ∧ (ξs 2 2).toInt ≤ 16 := by
      rw [e2, show ξ 2 2 = μ 1 2 from (hset 2 (by decide)).symm]; exact hNS.2.2.1
    have r3 : 0 ≤ (ξs 2 3).toInt ∧ (ξs 2 3).toInt ≤ 16 := by
      rw [e2, show ξ 2 3 = μ 1 3 from (hset 3 (by decide)).symm]; exact hNS.2.2.2.1
    unfold P_X10_bestNudge_b44c S_X10_bestNudge_b44c P_X10_bestNudge_b61 S_X10_bestNudge_b61 P_X9_bestNudge_b85 S_X9_bestNudge_b85
    rcases hv with rfl | rfl
    · have n3 : ¬ (2 : Int32) = 3 := by decide
      rw [if_pos rfl, if_pos rfl, if_neg n3, if_neg n3, m3]
      obtain ⟨ξ', μ', cb', cf', cl', mb', mf', ml', q1, q2, q3, q4, q5, q6⟩ := bn_step (nc := c) (nm := m) (v1 := 2) hRS hl hI (by omega) hA hns r3
      obtain ⟨u1, u2, u3, u4⟩ := ih c m (s + 1) ξ' μ' cb' cf' cl' mb' mf' ml' (by omega) (by omega) (by omega) q1 q2
      rw [q3, q5]
      refine ⟨⟨fun h => absurd h c1, fun _ => ⟨fun _ => ⟨fun h => absurd h n3, fun _ => q4 u1⟩, fun h => absurd rfl h⟩⟩, ⟨fun h => absurd h c1, fun _ => ⟨fun h => absurd h c2, fun _ => ⟨l1, fun _ => ⟨fun h => absurd h n3, fun _ => q6 u2⟩, fun h => absurd rfl h⟩⟩⟩, u3, u4⟩
    · have n2 : ¬ (3 : Int32) = 2 := by decide
      rw [if_neg n2, if_neg n2, if_pos rfl, if_pos rfl, m2]
      obtain ⟨ξ', μ', cb', cf', cl', mb', mf', ml', q1, q2, q3, q4, q5, q6⟩ := bn_step (nc := c) (nm := m) (v1 := 3) hRS hl hI (by omega) hA r2 hns
      obtain ⟨u1, u2, u3, u4⟩ := ih c m (s + 1) ξ' μ' cb' cf' cl' mb' mf' ml' (by omega) (by omega) (by omega) q1 q2
      rw [q3, q5]
      refine ⟨⟨fun h => absurd h c1, fun _ => ⟨fun h => absurd h n2, fun _ => ⟨fun _ => q4 u1, fun h => absurd rfl h⟩⟩⟩, ⟨fun h => absurd h c1, fun _ => ⟨fun h => absurd h c2, fun _ => ⟨l1, fun h => absurd h n2, fun _ => ⟨fun _ => q6 u2, fun h => absurd rfl h⟩⟩⟩⟩, u3, u4⟩
theorem bn_both {k h n b : Nat} {ξ μ : T2} {v1 : Int32} (hR : Rel k ξ μ) (hRS : RS 64 h n b (fun j => ξ (1 + j)) (μ 1)) (hv : v1 = 2 ∨ v1 = 3) : S_X9_bestNudge_b13 ξ v1 ∧ S_X10_bestNudge_b23 FU μ v1 (-6) 0 0 0 ∧ (P_X9_bestNudge_b13 ξ v1).1 = (P_X10_bestNudge_b23 FU μ v1 (-6) 0 0 0).1 ∧ Rel (k + 1) (P_X9_bestNudge_b13 ξ v1).2 (P_X10_bestNudge_b23 FU μ v1 (-6) 0 0 0).2 := by
  have hRm := Rel_mono _ _ _ hR
  have hb := hRS.2.2.2.1.2.1
  have e22 := hRS.2.2.2.1.1
  have e2 : ξ 3 2 = nI b := by have := hRS.2.2.2.1.2.2.2.2.1; rw [wbF hb] at this; exact this
  have f1 := fu64
  unfold S_X9_bestNudge_b13 P_X9_bestNudge_b13
  rw [e2]
  by_cases c : b = 0
  · have z : nI b = 0 := by rw [c]; rfl
    rw [if_pos z]
    obtain ⟨m, hm⟩ : ∃ m, FU = m + 1 := ⟨FU - 1, by omega⟩
    have c1 : ¬ (16 : Int32) < 0 := by decide
    have c2 : μ 1 22 ≤ 0 := by rw [e22, z]; decide
    rw [hm, P_X10_bestNudge_b23_e, S_X10_bestNudge_b23_e, if_neg c1, if_pos c2]
    exact ⟨⟨fun _ => trivial, fun h => absurd z h⟩, ⟨fun h => absurd h c1, fun _ => ⟨fun _ => trivial, fun h => absurd c2 h⟩⟩, rfl, hRm⟩
  · have z : ¬ nI b = 0 := nI_ne0 (by omega) (by omega)
    rw [if_neg z]
    obtain ⟨q1, q2, q3⟩ := pcp ξ 20 3 21 22 rfl rfl (by omega)
    unfold P_X9_bestNudge_b46c S_X9_bestNudge_b46c
    generalize sb2 ξ 20 3 3 3 (P_X5_copyFrom (sel ξ 20 3 3)) = ξ1 at q1 q2 q3 ⊢
    have hI : In ξ μ ξ1 μ := ⟨fun j hj => q3 j (by omega), q1, q2, fun _ _ _ => rfl, fun _ _ => rfl⟩
    obtain ⟨u1, u2, u3, u4⟩ := bn_loop (v1 := v1) hRS hR.2.2.2.2 (by omega) hv 17 FU FU 0 ξ1 μ 0 1000000 1000000 (-6) 0 0 (by omega) (by omega) (by omega) hI (Or.inl ⟨rfl, rfl, rfl⟩)
    rw [nI_0] at u1 u2 u3 u4
    exact ⟨⟨fun h => absurd h z, fun _ => ⟨trivial, u1⟩⟩, u2, u3, Rel_wi hRm u4.1 u4.2.2.2.1 u4.2.2.2.2⟩
theorem ok_bestNudge : Ok_bestNudge Rel := by
  intro k ξ μ x0 hk hR
  obtain ⟨h, n, b, hn, hRS, ht8, ht0, ht1⟩ := hR.1
  unfold S_X9_bestNudge S_X9_bestNudge_b0 P_X9_bestNudge P_X9_bestNudge_b0 S_X10_bestNudge S_X10_bestNudge_b0 P_X10_bestNudge P_X10_bestNudge_b0
  by_cases c2 : x0 = 2
  · have c0 : ¬ P_X10_in x0 2 3 = 0 := by rw [c2]; unfold P_X10_in P_X10_in_b0; decide
    obtain ⟨u1, u2, u3, u4⟩ := bn_both (v1 := x0) hR hRS (Or.inl c2)
    rw [if_pos c2, if_neg c0]
    exact ⟨⟨fun _ => u1, fun h => absurd c2 h⟩, ⟨ins _ _ _, fun h => absurd h c0, fun _ => u2⟩, u3, u4⟩
  · rw [if_neg c2]
    by_cases c3 : x0 = 3
    · have c0 : ¬ P_X10_in x0 2 3 = 0 := by rw [c3]; unfold P_X10_in P_X10_in_b0; decide
      obtain ⟨u1, u2, u3, u4⟩ := bn_both (v1 := x0) hR hRS (Or.inr c3)
      rw [if_pos c3, if_neg c0]
      exact ⟨⟨fun h => absurd h c2, fun _ => ⟨fun _ => u1, fun h => absurd c3 h⟩⟩, ⟨ins _ _ _, fun h => absurd h c0, fun _ => u2⟩, u3, u4⟩
    · have c0 : P_X10_in x0 2 3 = 0 := by
        rcases in01 x0 2 3 with h | h
        · exact h
        · exfalso
          have hx := in_ok (a := x0) (b := 2) (c := 3) (by rw [h]; decide)
          rw [ia_2, show (3 : Int32).toInt = 3 from by decide] at hx
          have : x0.toInt = 2 ∨ x0.toInt = 3 := by omega
          rcases this with h | h
          · exact c2 (ia_eq.mpr (by rw [h, ia_2]))
          · exact c3 (ia_eq.mpr (by rw [h]; decide))
      rw [if_neg c3, if_pos c0]
      exact ⟨⟨fun h => absurd h c2, fun _ => ⟨fun h => absurd h c3, fun _ => trivial⟩⟩, ⟨ins _ _ _, fun _ => trivial, fun h => absurd c0 h⟩, rfl, Rel_mono _ _ _ hR⟩
end BN1
