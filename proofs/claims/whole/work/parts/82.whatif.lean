/-! what if: ifHeard, endWith -/
section WI1
theorem aside_ok (μ : T2) : S_X10_layAside μ ∧ (∀ j, j ≠ 5 → P_X10_layAside μ j = μ j) ∧ ∀ i, i < 672 → P_X10_layAside μ 5 i = μ 1 i := by
  unfold S_X10_layAside P_X10_layAside S_X10_layAside_b0 P_X10_layAside_b0
  obtain ⟨w1, w2⟩ := aside_loop 672 FU 0 μ (by omega) FU_672
  rw [nI_0] at w1 w2
  rw [w1]
  refine ⟨w2, fun j hj => ?_, fun i hi => ?_⟩
  · unfold cpyT; rw [u2_ne hj]
  · unfold cpyT
    rw [u2_at]
    simp only [Nat.zero_add, Nat.add_zero, Nat.sub_zero]
    rw [if_pos (by omega)]
theorem back_ok (μ : T2) : S_X10_layBack μ ∧ (∀ j, j ≠ 1 → P_X10_layBack μ j = μ j) ∧ ∀ i, i < 672 → P_X10_layBack μ 1 i = μ 5 i := by
  unfold S_X10_layBack P_X10_layBack S_X10_layBack_b0 P_X10_layBack_b0
  obtain ⟨w1, w2⟩ := back_loop 672 FU 0 μ (by omega) FU_672
  rw [nI_0] at w1 w2
  rw [w1]
  refine ⟨w2, fun j hj => ?_, fun i hi => ?_⟩
  · unfold cpyT; rw [u2_ne hj]
  · unfold cpyT
    rw [u2_at]
    simp only [Nat.zero_add, Nat.add_zero, Nat.sub_zero]
    rw [if_pos (by omega)]
/-- a what-if leaves all as it was -/
theorem Rel_wi {k : Nat} {ξ μ ξ' μ' : T2} (h : Rel k ξ μ) (e : ∀ j, ¬ (18 ≤ j ∧ j < 35) → ξ' j = ξ j) (m : ∀ j, j ≠ 1 → j ≠ 5 → μ' j = μ j) (m1 : ∀ i, i < 672 → μ' 1 i = μ 1 i) : Rel k ξ' μ' :=
  Rel_c h (fun j hj => e j (by omega)) (by rw [m 0 (by decide) (by decide)]; exact ⟨rfl, rfl, rfl, rfl⟩) m1 (m 2 (by decide) (by decide)) (m 3 (by decide) (by decide)) (m 4 (by decide) (by decide)) (m 6 (by decide) (by decide))
theorem Cr_c {n : Nat} {sc sc' : T2} {f : T1} (h : Cr n sc f) (e1 : sc' 1 = sc 1) (e15 : sc' 15 = sc 15) (e16 : sc' 16 = sc 16) (e10 : sc' 10 = sc 10) : Cr n sc' f :=
  ⟨Sc_cells h.1 e1 e15 e16, h.2.1, h.2.2.1, by rw [e10]; exact h.2.2.2⟩
theorem cs_fate2 {n : Nat} {sc : T2} {f : T1} {q : Int32} (hR : Cr n sc f) : P_X7_fateAt sc q = if 0 ≤ f 11 then (if -(hlf f) ≤ q - f 11 then 2 else 1) else 3 := by
  obtain ⟨e1, e2⟩ := cs_hl hR
  unfold P_X7_fateAt P_X7_fateAt_b0
  rw [e1, e2]
  by_cases c : f 11 = -6
  · rw [if_pos c, if_neg (fun h => ((nm_neg hR.2.1).2.mp h) c)]
  · rw [if_neg c, if_pos ((nm_neg hR.2.1).2.mpr c)]
theorem ok_ifHeard : Ok_ifHeard Rel := by
  intro k ξ μ x0 hk hR
  have hRm := Rel_mono _ _ _ hR
  obtain ⟨h, n, b, hn, hRS, ht8, ht0, ht1⟩ := hR.1
  unfold S_X9_ifHeard S_X9_ifHeard_b0 P_X9_ifHeard P_X9_ifHeard_b0 S_X10_ifHeard S_X10_ifHeard_b0 P_X10_ifHeard P_X10_ifHeard_b0
  rw [in9]
  by_cases c0 : P_X10_in x0 1 9999 = 0
  · rw [if_pos c0, if_pos c0]
    exact ⟨⟨isis _ _ _, fun _ => trivial, fun h => absurd c0 h⟩, ⟨ins _ _ _, fun _ => trivial, fun h => absurd c0 h⟩, rfl, hRm⟩
  rw [if_neg c0, if_neg c0]
  have hx := in_ok c0
  rw [ia_1, show (9999 : Int32).toInt = 9999 from by decide] at hx
  obtain ⟨hA, hO⟩ := scp ξ 18 1 (by omega)
  generalize sb2 ξ 18 17 1 17 (P_X7_copyFrom (sel ξ 18 17 1)) = ξ1 at hA hO ⊢
  obtain ⟨l1, l2, l3⟩ := aside_ok μ
  generalize P_X10_layAside μ = μa at l1 l2 l3 ⊢
  have eu : (μ 1 8 + x0).toInt = (μ 1 8).toInt + x0.toInt := ia_add (by omega) (by omega)
  unfold P_X9_ifHeard_b25c S_X9_ifHeard_b25c P_X9_ifHeard_b61c S_X9_ifHeard_b61c P_X10_ifHeard_b18c S_X10_ifHeard_b18c
  have e16 : ξ1 1 6 = μ 1 8 := by rw [hO 1 (by omega)]; exact ht8.symm
  rw [e16, l2 1 (by decide)]
  generalize μ 1 8 + x0 = u at eu ⊢
  -- the trial, with no beat to come
  have hT : RS 64 h n b (fun j => ξ1 (18 + j)) (μ 1) := RS_Ag hRS hA
  have h34 : ξ1 34 0 = nI h := by
    have := hT.2.2.2.1.2.2.2.2.2
    rw [if_neg (by have := hT.2.2.2.1.2.1; have := hT.2.2.2.1.2.2.2.1; omega)] at this
    exact this
  have hC : Cr n (fun j => u2 ξ1 20 (upd (ξ1 20) 2 (ξ1 34 0)) (18 + j)) (μa 1) := by
    rw [l2 1 (by decide)]
    refine Cr_c (RS_Cr hT) ?_ ?_ ?_ ?_ <;> exact u2_ne (by decide)
  have hlt : u < 1000000 := by rw [ia_lt, ia_NV]; omega
  have hq2 : ((4 : Int32) * u).toInt ≤ 520000 := by rw [ia_mul4 (by omega) (by omega)]; omega
  have hq : (4 : Int32) * (if u < 1000000 then u else 1000000) = (4 : Int32) * u := by rw [if_pos hlt]
  have f1 := fu1364
  obtain ⟨p1, j, sc', p2, ⟨p3, p31, p32⟩, p4, p5, p8, p6, p7⟩ := hold_phase (fun n sc f => Cr n sc f ∧ sc 2 2 = nI h ∧ sc 16 0 = nI h) ((4 : Int32) * u) u 1000000 hq hq2 (fun _ _ _ hR => hR.1) (fun n sc μ hR h11 hb hn => by
      obtain ⟨q1, -, -, q4, q5, -⟩ := Cr_hold hR.1 h11 hb hn
      exact ⟨q1, by rw [q4 2 (by decide)]; exact hR.2.1, by rw [q5]; exact hR.2.2⟩) (fun n sc f hR => Or.inl ⟨by rw [hR.2.1, hR.2.2]; exact nI_le (Nat.le_refl _) (by have := hT.2.2.2.1.2.1; have := hT.2.2.2.1.2.2.2.1; omega), rfl⟩) 20 FU FU 0 n (fun j => u2 ξ1 20 (upd (ξ1 20) 2 (ξ1 34 0)) (18 + j)) μa (nm_hl20 _) (by omega) (by omega) (by omega) (by omega) ⟨hC, by show upd (ξ1 20) 2 (ξ1 34 0) 2 = _; rw [pk_us]; exact h34, h34⟩
  rw [nI_0] at p6 p7
  obtain ⟨c, hc⟩ : ∃ c, FU - j = c + 1 := ⟨FU - j - 1, by omega⟩
  rw [hc] at p6 p7
  have hT0 : sc' 2 2 ≤ sc' 16 0 := by
    rw [p31, p32]; exact nI_le (Nat.le_refl _) (by have := hT.2.2.2.1.2.1; have := hT.2.2.2.1.2.2.2.1; omega)
  obtain ⟨r1, r2⟩ := run_step (c := c) (until_ := u) (T := 1000000) (by omega : 0 + j < 2000) (Or.inl ⟨hT0, rfl⟩)
  obtain ⟨r3, r4⟩ := run_end (k := 0 + j) (pk := P_X7_runTo_b2 c) (sk := S_X7_runTo_b2 c) p3 hq p5 hlt
  have hrun : P_X7_runTo (fun j => u2 ξ1 20 (upd (ξ1 20) 2 (ξ1 34 0)) (18 + j)) u = u2 sc' 0 (upd (sc' 0) 6 u) := by
    unfold P_X7_runTo P_X7_runTo_b0
    rw [p6, r1, r3]
  have hruns : S_X7_runTo (fun j => u2 ξ1 20 (upd (ξ1 20) 2 (ξ1 34 0)) (18 + j)) u := p7 (r2 r4)
  rw [hrun]
  have hC2 : Cr (n + j) (fun i => sb (u2 ξ1 20 (upd (ξ1 20) 2 (ξ1 34 0))) 18 17 (u2 sc' 0 (upd (sc' 0) 6 u)) (18 + i)) (P_X10_holdUpTo_b0 FU μa ((4 : Int32) * u) 1) := by
    refine Cr_c p3 ?_ ?_ ?_ ?_
    · exact (sb_i (by decide)).trans (u2_ne (by decide))
    · exact (sb_i (by decide)).trans (u2_ne (by decide))
    · exact (sb_i (by decide)).trans (u2_ne (by decide))
    · exact (sb_i (by decide)).trans (u2_ne (by decide))
  have e18 : sb (u2 ξ1 20 (upd (ξ1 20) 2 (ξ1 34 0))) 18 17 (u2 sc' 0 (upd (sc' 0) 6 u)) 18 6 = u := rfl
  rw [e18]
  rw [cs_fate2 hC2]
  have hp : P_X10_holdUpTo μa ((4 : Int32) * u) = P_X10_holdUpTo_b0 FU μa ((4 : Int32) * u) := rfl
  have hps : S_X10_holdUpTo μa ((4 : Int32) * u) := p1
  rw [hp]
  generalize P_X10_holdUpTo_b0 FU μa ((4 : Int32) * u) = μh at p3 p4 p5 hC2 ⊢
  unfold P_X10_ifHeard_b35c S_X10_ifHeard_b35c P_X10_ifHeard_b71 S_X10_ifHeard_b71
  obtain ⟨b1, b2, b3⟩ := back_ok μh
  have hfin : Rel (k + 1) (sb (u2 ξ1 20 (upd (ξ1 20) 2 (ξ1 34 0))) 18 17 (u2 sc' 0 (upd (sc' 0) 6 u))) (P_X10_layBack μh) := by
    refine Rel_wi hRm (fun j hj => ?_) (fun j h1 h5 => ?_) (fun i hi => ?_)
    · rw [sb_o (by omega), u2_ne (by omega), hO j (by omega)]
    · rw [b2 j h1, p4 j h1, l2 j h5]
    · rw [b3 i hi, p4 5 (by decide), l3 i hi]
  have hS10 : (0 ≤ μh 1 11 → S_X10_halfWindow μh ∧ (-(P_X10_halfWindow μh) ≤ (4 : Int32) * u - μh 1 11 → S_X10_layBack μh ∧ True) ∧ (¬ -(P_X10_halfWindow μh) ≤ (4 : Int32) * u - μh 1 11 → S_X10_layBack μh ∧ True)) ∧ (¬ 0 ≤ μh 1 11 → S_X10_layBack μh ∧ True) := ⟨fun _ => ⟨trivial, fun _ => ⟨b1, trivial⟩, fun _ => ⟨b1, trivial⟩⟩, fun _ => ⟨b1, trivial⟩⟩
  refine ⟨⟨isis _ _ _, fun h => absurd h c0, fun _ => ⟨cs_copies _, hruns, cs_fates _ _, trivial⟩⟩, ⟨ins _ _ _, fun h => absurd h c0, fun _ => ⟨l1, hps, hS10⟩⟩, ?_, ?_⟩
  · rw [show P_X10_halfWindow μh = hlf (μh 1) from rfl]
    by_cases c1 : 0 ≤ μh 1 11
    · rw [if_pos c1, if_pos c1]
      by_cases c2 : -(hlf (μh 1)) ≤ (4 : Int32) * u - μh 1 11
      · rw [if_pos c2, if_pos c2]
      · rw [if_neg c2, if_neg c2]
    · rw [if_neg c1, if_neg c1]
  · have hs2 : (if 0 ≤ μh 1 11 then (if -(P_X10_halfWindow μh) ≤ (4 : Int32) * u - μh 1 11 then ((2 : Int32), P_X10_layBack μh) else ((1 : Int32), P_X10_layBack μh)) else ((3 : Int32), P_X10_layBack μh)).2 = P_X10_layBack μh := by
      split
      · split <;> rfl
      · rfl
    rw [hs2]
    exact hfin
/-- a plan copied, o1 and o2 the places of the two plans in the world -/
theorem pcp (ξ : T2) (o1 o2 k1 k2 : Nat) (h1 : o1 + 1 = k1) (h2 : o1 + 2 = k2) (hd : o1 + 3 ≤ o2 ∨ o2 + 3 ≤ o1) : sb2 ξ o1 3 o2 3 (P_X5_copyFrom (sel ξ o1 3 o2)) o1 2 = ξ o2 2 ∧ (∀ i, i < 64 → sb2 ξ o1 3 o2 3 (P_X5_copyFrom (sel ξ o1 3 o2)) k1 i = ξ (o2 + 1) i ∧ sb2 ξ o1 3 o2 3 (P_X5_copyFrom (sel ξ o1 3 o2)) k2 i = ξ (o2 + 2) i) ∧ (∀ j, ¬ (o1 ≤ j ∧ j < o1 + 3) → sb2 ξ o1 3 o2 3 (P_X5_copyFrom (sel ξ o1 3 o2)) j = ξ j) := by
  subst h1 h2
  unfold P_X5_copyFrom P_X5_copyFrom_b0
  rw [sb2_u2 (k := o1) (by decide) (by omega), sb2_u2 (k := o1 + 2) (by decide) rfl, sb2_u2 (k := o1 + 1) (by decide) rfl, sb2_sel]
  have s3 : sel ξ o1 3 o2 3 = ξ o2 := by unfold sel; rw [if_neg (by decide)]; rfl
  have s4 : sel ξ o1 3 o2 4 = ξ (o2 + 1) := by unfold sel; rw [if_neg (by decide)]
  have s5 : sel ξ o1 3 o2 5 = ξ (o2 + 2) := by unfold sel; rw [if_neg (by decide)]
  rw [s3, s4, s5]
  have hc : ∀ (f g : T1) (i : Nat), i < 64 → va_cpy f g 0 0 64 i = f i := fun f g i hi => by
    rw [pk_cpy_in (Nat.zero_le _) (by omega)]
    simp
  refine ⟨?_, fun i hi => ⟨?_, ?_⟩, fun j hj => ?_⟩
  · rw [u2_at, pk_us]
  · rw [u2_ne (by omega), u2_ne (by omega), u2_at, hc _ _ i hi]
  · rw [u2_ne (by omega), u2_at, hc _ _ i hi]
  · rw [u2_ne (by omega), u2_ne (by omega), u2_ne (by omega)]
theorem pl_set {h n b : Nat} {sc : T2} {f : T1} (hR : RS 64 h n b sc f) : (∀ i, i < 8 → f i = sc 1 i) ∧ NumS f := by
  have hSc := hR.1.1
  refine ⟨fun i hi => ?_, hR.2.1.1⟩
  rcases (show i = 0 ∨ i = 1 ∨ i = 2 ∨ i = 3 ∨ i = 4 ∨ i = 5 ∨ i = 6 ∨ i = 7 by omega) with h | h | h | h | h | h | h | h <;> subst h
  · exact hSc.1
  · exact hSc.2.1
  · exact hSc.2.2.1
  · exact hSc.2.2.2.1
  · exact hSc.2.2.2.2.1
  · exact hSc.2.2.2.2.2.1
  · exact hSc.2.2.2.2.2.2.1
  · exact hSc.2.2.2.2.2.2.2
/-- the trial's plan a copy of the scene's: what the play of it gives -/
theorem play64 {k h n b : Nat} {ξ μ ξ1 μa : T2} {v1 v2 : Int32} (hRS : RS 64 h n b (fun j => ξ (1 + j)) (μ 1)) (hl : μ 0 7 = -6) (e20 : ξ1 20 2 = ξ 3 2) (e21 : ∀ i, i < 64 → ξ1 21 i = ξ 4 i ∧ ξ1 22 i = ξ 5 i) (eo : ∀ j, ¬ (18 ≤ j ∧ j < 35) → ξ1 j = ξ j) (ma : ∀ j, j ≠ 1 → j ≠ 5 → μa j = μ j) (ma1 : ∀ i, i < 672 → μa 1 i = μ 1 i) (h1 : 0 ≤ v1.toInt ∧ v1.toInt ≤ 16) (h2 : 0 ≤ v2.toInt ∧ v2.toInt ≤ 16) :
    S_X9_playTrial ξ1 v1 v2 ∧ S_X10_playAll μa v1 v2 ∧ ∃ n', RS 64 b n' b (fun j => P_X9_playTrial ξ1 v1 v2 (18 + j)) (P_X10_playAll μa v1 v2 1) ∧ (∀ j, ¬ (18 ≤ j ∧ j < 35) → P_X9_playTrial ξ1 v1 v2 j = ξ1 j) ∧ (∀ j, j = 20 ∨ j = 21 ∨ j = 22 → P_X9_playTrial ξ1 v1 v2 j = ξ1 j) ∧ (∀ i, i ≠ 1 → P_X10_playAll μa v1 v2 i = μa i) := by
  obtain ⟨p1, p2⟩ := pl_set hRS
  have hb := hRS.2.2.2.1.2.1
  have e2 := hRS.2.2.2.1.2.2.2.2.1
  obtain ⟨hP1, hP2, hP3⟩ := hRS.2.2.2.2.2.1
  refine play_main (by rw [ma1 22 (by decide)]; exact hRS.2.2.2.1.1) hb (by rw [e20]; exact e2) ⟨fun c hc => ?_, fun i hi => ?_, fun i j hij hj => ?_⟩ (fun i hi => ?_) ?_ h1 h2 (fun i hi => ?_)
  · have hc64 : c < 64 := by rw [wbF hb] at hc; omega
    have hs : skp 64 c = c := by unfold skp; rw [if_pos hc64]
    have := hP1 c hc
    rw [hs] at this ⊢
    rw [ma1 _ (by omega), ma1 _ (by omega)]
    exact ⟨((e21 c hc64).1).trans this.1, ((e21 c hc64).2).trans this.2⟩
  · rw [ma1 _ (by omega)]; exact hP2 i hi
  · rw [ma1 _ (by omega), ma1 _ (by omega)]; exact hP3 i j hij hj
  · rw [ma1 i (by omega), eo 2 (by omega)]; exact p1 i hi
  · unfold NumS
    rw [ma1 0 (by decide), ma1 1 (by decide), ma1 2 (by decide), ma1 3 (by decide), ma1 4 (by decide), ma1 5 (by decide), ma1 6 (by decide), ma1 7 (by decide)]
    exact p2
  · rw [ma 0 (by decide) (by decide), hl]
    refine ⟨fun h => ?_, fun h => by omega⟩
    rw [ia_eq, nI_toInt (by omega), ia_m6] at h
    omega
theorem cpfs (σ : T2) : S_X5_copyFrom σ := trivial
theorem ok_endWith : Ok_endWith Rel := by
  intro k ξ μ x0 x1 x2 hk hR
  have hRm := Rel_mono _ _ _ hR
  obtain ⟨h, n, b, hn, hRS, ht8, ht0, ht1⟩ := hR.1
  unfold S_X9_endWith S_X9_endWith_b0 P_X9_endWith P_X9_endWith_b0 S_X10_endWith S_X10_endWith_b0 P_X10_endWith P_X10_endWith_b0
  rw [in9, in9, in9]
  by_cases c0 : P_X10_in x0 0 16 = 0
  · rw [if_pos c0, if_pos c0]
    exact ⟨⟨isis _ _ _, fun _ => trivial, fun h => absurd c0 h⟩, ⟨ins _ _ _, fun _ => trivial, fun h => absurd c0 h⟩, rfl, hRm⟩
  rw [if_neg c0, if_neg c0]
  by_cases c1 : P_X10_in x1 0 16 = 0
  · rw [if_pos c1, if_pos c1]
    exact ⟨⟨isis _ _ _, fun h => absurd h c0, fun _ => ⟨isis _ _ _, fun _ => trivial, fun h => absurd c1 h⟩⟩, ⟨ins _ _ _, fun h => absurd h c0, fun _ => ⟨ins _ _ _, fun _ => trivial, fun h => absurd c1 h⟩⟩, rfl, hRm⟩
  rw [if_neg c1, if_neg c1]
  by_cases c2 : P_X10_in x2 0 4 = 0
  · rw [if_pos c2, if_pos c2]
    exact ⟨⟨isis _ _ _, fun h => absurd h c0, fun _ => ⟨isis _ _ _, fun h => absurd h c1, fun _ => ⟨isis _ _ _, fun _ => trivial, fun h => absurd c2 h⟩⟩⟩, ⟨ins _ _ _, fun h => absurd h c0, fun _ => ⟨ins _ _ _, fun h => absurd h c1, fun _ => ⟨ins _ _ _, fun _ => trivial, fun h => absurd c2 h⟩⟩⟩, rfl, hRm⟩
  rw [if_neg c2, if_neg c2]
  have hx0 := in_ok c0
  have hx1 := in_ok c1
  have hx2 := in_ok c2
  rw [ia_0, ia_16] at hx0 hx1
  rw [ia_0, ia_4] at hx2
  obtain ⟨q1, q2, q3⟩ := pcp ξ 20 3 21 22 rfl rfl (by omega)
  generalize sb2 ξ 20 3 3 3 (P_X5_copyFrom (sel ξ 20 3 3)) = ξ1 at q1 q2 q3 ⊢
  obtain ⟨l1, l2, l3⟩ := aside_ok μ
  generalize P_X10_layAside μ = μa at l1 l2 l3 ⊢
  obtain ⟨s1, s2, n', s3, s4, s5, s6⟩ := play64 (k := k) (ξ1 := ξ1) (μa := μa) (v1 := x0) (v2 := x1) hRS hR.2.2.2.2 q1 q2 (fun j hj => q3 j (by omega)) (fun j _ h5 => l2 j h5) (fun i _ => by rw [l2 1 (by decide)]) hx0 hx1
  unfold P_X9_endWith_b49c S_X9_endWith_b49c P_X9_endWith_b55c S_X9_endWith_b55c P_X10_endWith_b36c S_X10_endWith_b36c P_X10_endWith_b42c S_X10_endWith_b42c
  generalize P_X9_playTrial ξ1 x0 x1 = ξ2 at s3 s4 s5 ⊢
  generalize P_X10_playAll μa x0 x1 = μ2 at s3 s6 ⊢
  obtain ⟨b1, b2, b3⟩ := back_ok μ2
  have hfin : Rel (k + 1) ξ2 (P_X10_layBack μ2) := by
    refine Rel_wi hRm (fun j hj => ?_) (fun j h1 h5 => ?_) (fun i hi => ?_)
    · rw [s4 j hj, q3 j (by omega)]
    · rw [b2 j h1, s6 j h1, l2 j h5]
    · rw [b3 i hi, s6 5 (by decide), l3 i hi]
  have hends : S_X10_ended μ2 x2 := by simp [S_X10_ended, S_X10_ended_b0]
  refine ⟨⟨isis _ _ _, fun h => absurd h c0, fun _ => ⟨isis _ _ _, fun h => absurd h c1, fun _ => ⟨isis _ _ _, fun h => absurd h c2, fun _ => ⟨trivial, s1, fun _ => trivial, fun _ => ⟨fun _ => trivial, fun _ => ⟨fun _ => trivial, fun _ => ⟨fun _ => trivial, fun _ => trivial⟩⟩⟩⟩⟩⟩⟩, ⟨ins _ _ _, fun h => absurd h c0, fun _ => ⟨ins _ _ _, fun h => absurd h c1, fun _ => ⟨ins _ _ _, fun h => absurd h c2, fun _ => ⟨l1, s2, hends, b1, trivial⟩⟩⟩⟩, ?_, ?_⟩
  · obtain ⟨-, -, ⟨t1, t2, t3, t4, t5, t6, t7, t8, t9⟩⟩ := s3.1
    have t1' : μ2 1 15 = ξ2 34 1 := t1
    have t2' : μ2 1 13 = ξ2 34 2 := t2
    have t6' : μ2 1 18 = ξ2 34 6 := t6
    have t8' : μ2 1 26 = ξ2 34 8 := t8
    have t9' : μ2 1 27 = ξ2 34 9 := t9
    unfold P_X10_ended P_X10_ended_b0
    rw [t1', t2', t6', t8', t9']
    by_cases d0 : x2 = 0
    · rw [if_pos d0, if_pos d0]
    rw [if_neg d0, if_neg d0]
    by_cases d1 : x2 = 1
    · rw [if_pos d1, if_pos d1]
    rw [if_neg d1, if_neg d1]
    by_cases d2 : x2 = 2
    · rw [if_pos d2, if_pos d2]
    rw [if_neg d2, if_neg d2]
    by_cases d3 : x2 = 3
    · rw [if_pos d3, if_pos d3]
    rw [if_neg d3, if_neg d3]
  · have hs9 : (if x2 = 0 then (ξ2 34 8, ξ2) else if x2 = 1 then (ξ2 34 1, ξ2) else if x2 = 2 then (ξ2 34 2, ξ2) else if x2 = 3 then (ξ2 34 6, ξ2) else (ξ2 34 9, ξ2)).2 = ξ2 := by
      repeat' split
      all_goals rfl
    rw [hs9]
    exact hfin
end WI1
