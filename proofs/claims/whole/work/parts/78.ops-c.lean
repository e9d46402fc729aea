/-! cut, pass, wipe, save, restore, undo -/
section OC1
theorem chg {k : Nat} {ξ μ ξ1 μ1 : T2} (hR : Rel k ξ μ) (hk : k < 512) (h1 : sb2 ξ 35 104 1 17 (P_X3_record (sel ξ 35 104 1)) = ξ1) (h2 : P_X10_keep μ = μ1) : S_X3_record (sel ξ 35 104 1) ∧ S_X10_keep μ ∧ (∀ j, (1 ≤ j ∧ j < 35) ∨ 139 ≤ j → ξ1 j = ξ j) ∧ (∀ i, i ≠ 2 → i ≠ 3 → μ1 0 i = μ 0 i) ∧ (∀ j, j ≠ 0 → j ≠ 2 → μ1 j = μ j) ∧ (∀ ξ' μ' : T2, SC (1400 * (k + 1)) (fun j => ξ' (1 + j)) (μ' 1) → (∀ j, 35 ≤ j → ξ' j = ξ1 j) → (∀ j, j ≠ 1 → μ' j = μ1 j) → Rel (k + 1) ξ' μ') := by
  obtain ⟨r1, r2, -, r3, r4, r5⟩ := Rel_rec hR hk
  subst h1 h2
  refine ⟨r1, r2, fun j hj => r3 j (by omega), r4, r5, fun ξ' μ' hs e m => ?_⟩
  exact Rel_new hR hk hs (fun j hj => e j (by omega)) (fun i _ => by rw [m 0 (by decide)]) (m 2 (by decide)) (m 3 (by decide)) (m 4 (by decide)) (PadR_new hR hk (e 175 (by decide)) (e 176 (by decide)) (by rw [m 0 (by decide)]) (m 6 (by decide)))
theorem RS_cells {wb h n b : Nat} {sc sc' : T2} {f : T1} (hR : RS wb h n b sc f) (e : ∀ j, 1 ≤ j → j < 17 → sc' j = sc j) : RS wb h n b sc' f := by
  obtain ⟨hS, hN, ⟨e12, e10⟩, ⟨e22, hb, e14, hhb, e2, e16⟩, hs, hP, hF⟩ := hR
  refine ⟨Sc_cells hS (e 1 (by decide) (by decide)) (e 15 (by decide) (by decide)) (e 16 (by decide) (by decide)), hN, ⟨e12, by rw [e 10 (by decide) (by decide), e10]⟩, ⟨e22, hb, e14, hhb, by rw [e 2 (by decide) (by decide), e2], by rw [e 16 (by decide) (by decide), e16]⟩, hs, Pl_c hb hP (e 3 (by decide) (by decide)) (e 4 (by decide) (by decide)) (fun i hi => ⟨rfl, rfl⟩), fun h64 => ⟨⟨fun i hi => ?_, (hF h64).1.2⟩, Bl_c (hF h64).2 (fun j _ _ => e j (by omega) (by omega)) (fun _ _ => rfl)⟩⟩
  rw [e 6 (by decide) (by decide), e 7 (by decide) (by decide), e 8 (by decide) (by decide), e 9 (by decide) (by decide)]
  exact (hF h64).1.1 i hi
/-- a number that the relation doesn't name -/
theorem RS_free {wb h n b i0 : Nat} {sc : T2} {f : T1} {v : Int32} (hR : RS wb h n b sc f) (hi : i0 = 8) : RS wb h n b sc (upd f i0 v) := by
  subst hi
  have g : ∀ i, i ≠ 8 → upd f 8 v i = f i := fun i h => pk_un h
  obtain ⟨hS, hN, ⟨e12, e10⟩, ⟨e22, hb, e14, hhb, e2, e16⟩, hs, hP, hF⟩ := hR
  refine ⟨?_, Num_e hN (fun i hi => g i (by omega)) (g _ (by decide)) (g _ (by decide)) (g _ (by decide)), ⟨by rw [g 12 (by decide), e12], e10⟩, ⟨by rw [g 22 (by decide), e22], hb, by rw [g 14 (by decide), e14], hhb, e2, e16⟩, by rw [g 18 (by decide)]; exact hs, Pl_c hb hP rfl rfl (fun i hi => ⟨g _ (by omega), g _ (by omega)⟩), fun h64 => ⟨⟨fun i hi => ?_, fun i hi hi2 => ?_⟩, Bl_c (hF h64).2 (fun _ _ _ => rfl) (fun i hi => g i (by omega))⟩⟩
  · obtain ⟨⟨a0, a1, a2, a3, a4, a5, a6, a7⟩, ⟨d0, d1, d2, d3, d4, d5, d6⟩, ⟨t1, t2, t3, t4, t5, t6, t7, t8, t9⟩⟩ := hS
    simp [Sc, upd, *]
  · rw [g _ (by omega), g _ (by omega), g _ (by omega), g _ (by omega)]
    exact (hF h64).1.1 i hi
  · rw [g _ (by omega), g _ (by omega)]
    exact (hF h64).1.2 i hi hi2
theorem RS_cut {h n b b' : Nat} {sc : T2} {f : T1} (hR : RS 64 h n b sc f) (h1 : h ≤ b') (h2 : b' ≤ b) : RS 64 h n b' (u2 sc 2 (upd (sc 2) 2 (nI b'))) (upd f 22 (nI b')) := by
  have g : ∀ i, i ≠ 22 → upd f 22 (nI b') i = f i := fun i h => pk_un h
  obtain ⟨hS, hN, ⟨e12, e10⟩, ⟨e22, hb, e14, hhb, e2, e16⟩, hs, ⟨hP1, hP2, hP3⟩, hF⟩ := hR
  have c : ∀ j, j ≠ 2 → u2 sc 2 (upd (sc 2) 2 (nI b')) j = sc j := fun j h => u2_ne h
  rw [wbF hb] at hP1
  refine ⟨?_, Num_e hN (fun i hi => g i (by omega)) (g _ (by decide)) (g _ (by decide)) (g _ (by decide)), ⟨by rw [g 12 (by decide), e12], by rw [c 10 (by decide), e10]⟩, ⟨pk_us, by omega, by rw [g 14 (by decide), e14], h1, by rw [wbF (by omega), u2_at, pk_us], by rw [c 16 (by decide), e16]⟩, by rw [g 18 (by decide)]; exact hs, ⟨fun i hi => ?_, fun i hi => ?_, fun i j hij hj => ?_⟩, fun h64 => ⟨⟨fun i hi => ?_, fun i hi hi2 => ?_⟩, Bl_c (hF h64).2 (fun j _ _ => c j (by omega)) (fun i hi => g i (by omega))⟩⟩
  · refine Sc_cells (sc := sc) ?_ (c 1 (by decide)) (c 15 (by decide)) (c 16 (by decide))
    obtain ⟨⟨a0, a1, a2, a3, a4, a5, a6, a7⟩, ⟨d0, d1, d2, d3, d4, d5, d6⟩, ⟨t1, t2, t3, t4, t5, t6, t7, t8, t9⟩⟩ := hS
    simp [Sc, upd, *]
  · rw [wbF (by omega)] at hi
    rw [c 3 (by decide), c 4 (by decide), g _ (by omega), g _ (by omega)]
    exact hP1 i (by omega)
  · rw [g _ (by omega)]; exact hP2 i (by omega)
  · rw [g _ (by omega), g _ (by omega)]; exact hP3 i j hij (by omega)
  · rw [c 6 (by decide), c 7 (by decide), c 8 (by decide), c 9 (by decide), g _ (by omega), g _ (by omega), g _ (by omega), g _ (by omega)]
    exact (hF h64).1.1 i hi
  · rw [g _ (by omega), g _ (by omega)]
    exact (hF h64).1.2 i hi (by omega)
theorem ok_cut : Ok_cut Rel := by
  intro k ξ μ x0 hk hR
  generalize hξ : sb2 ξ 35 104 1 17 (P_X3_record (sel ξ 35 104 1)) = ξ1
  generalize hμ : P_X10_keep μ = μ1
  obtain ⟨r1, r2, r3, r4, r5, r6⟩ := chg hR hk hξ hμ
  obtain ⟨h, n, b, hn, hRS, ht8, ht0, ht1⟩ := hR.1
  have hb := hRS.2.2.2.1.2.1
  have hhb := hRS.2.2.2.1.2.2.2.1
  have e22 := hRS.2.2.2.1.1
  have e14 := hRS.2.2.2.1.2.2.1
  have e2 : ξ 3 2 = nI b := by have := hRS.2.2.2.1.2.2.2.2.1; rw [wbF hb] at this; exact this
  have e16 : ξ 17 0 = nI h := by
    have := hRS.2.2.2.1.2.2.2.2.2
    rw [if_neg (by omega)] at this; exact this
  unfold S_X9_cut S_X9_cut_b0 P_X9_cut P_X9_cut_b0 S_X10_cut S_X10_cut_b0 P_X10_cut P_X10_cut_b0
  rw [in9, hξ, hμ, e2, e16, e22, e14]
  by_cases c0 : P_X10_in x0 1 64 = 0
  · rw [if_pos c0, if_pos c0]
    exact ⟨⟨isis _ _ _, fun _ => trivial, fun h => absurd c0 h⟩, ⟨ins _ _ _, fun _ => trivial, fun h => absurd c0 h⟩, rfl, Rel_mono _ _ _ hR⟩
  rw [if_neg c0, if_neg c0]
  by_cases c1 : x0 ≤ nI b - nI h
  · rw [if_pos c1, if_pos c1]
    have hx := in_ok c0
    rw [ia_1, show (64 : Int32).toInt = 64 from by decide] at hx
    obtain ⟨c, -, rfl, ec⟩ := nI_ex (x := x0) (by omega)
    rw [pk_sub hhb] at c1
    have hc := (nI_leI (a := c) (b := b - h) (by omega) (by omega)).mp c1
    unfold P_X9_cut_b52c P_X10_cut_b39c S_X9_cut_b52c S_X10_cut_b39c
    have e2' : ξ1 3 2 = nI b := by rw [r3 3 (by omega), e2]
    have e22' : μ1 1 22 = nI b := by rw [r5 1 (by decide) (by decide), e22]
    rw [e2', e22', pk_sub (show c ≤ b by omega)]
    refine ⟨⟨isis _ _ _, fun h => absurd h c0, fun _ => ⟨fun _ => ⟨r1, trivial⟩, fun h => absurd (by rw [pk_sub hhb]; exact c1) h⟩⟩, ⟨ins _ _ _, fun h => absurd h c0, fun _ => ⟨fun _ => ⟨r2, trivial⟩, fun h => absurd (by rw [pk_sub hhb]; exact c1) h⟩⟩, rfl, ?_⟩
    refine r6 _ _ ?_ (fun j hj => ?_) (fun j hj => ?_)
    · dsimp only
      have hq := RS_cut (b' := b - c) (RS_cells (sc' := fun j => ξ1 (1 + j)) hRS (fun j _ hj => r3 _ (by omega))) (by omega) (by omega)
      have eS : (fun j => u2 ξ1 3 (upd (ξ1 3) 2 (nI (b - c))) (1 + j)) = u2 (fun j => ξ1 (1 + j)) 2 (upd (ξ1 3) 2 (nI (b - c))) := sh_u2 ξ1 1 2 _
      rw [eS, u2_at, r5 1 (by decide) (by decide)]
      refine ⟨h, n, b - c, by omega, hq, ?_⟩
      rw [pk_un (by decide), u2_ne (by decide)]
      refine ⟨?_, ht0, ht1⟩
      show μ 1 8 = ξ1 1 6
      rw [r3 1 (by omega)]; exact ht8
    · dsimp only; rw [u2_ne (by omega)]
    · dsimp only; rw [u2_ne hj]
  · rw [if_neg c1, if_neg c1]
    exact ⟨⟨isis _ _ _, fun h => absurd h c0, fun _ => ⟨fun h => absurd h c1, fun _ => trivial⟩⟩, ⟨ins _ _ _, fun h => absurd h c0, fun _ => ⟨fun h => absurd h c1, fun _ => trivial⟩⟩, rfl, Rel_mono _ _ _ hR⟩
theorem fu64 : 64 < FU := by rw [FU_eq]; decide
theorem fu1364 : 1364 < FU := by rw [FU_eq]; decide
/-- a run of a scene and a row, up to a time -/
theorem run_main {h n b : Nat} {sc μ : T2} {until_ : Int32} (hu0 : 0 ≤ until_.toInt) (hu : until_.toInt ≤ 130000) (hR : RS 64 h n b sc (μ 1)) (hn : n + 1364 < 1048576) (hl : μ 0 7 = -6) : S_X10_happenUpTo μ ((4 : Int32) * until_) ∧ S_X7_runTo sc until_ ∧ ∃ h' n' sc', n' ≤ n + 1364 ∧ P_X7_runTo sc until_ = u2 sc' 0 (upd (sc' 0) 6 until_) ∧ RS 64 h' n' b sc' (P_X10_happenUpTo μ ((4 : Int32) * until_) 1) ∧ (∀ i, i ≠ 1 → P_X10_happenUpTo μ ((4 : Int32) * until_) i = μ i) ∧ P_X10_happenUpTo μ ((4 : Int32) * until_) 1 8 = μ 1 8 := by
  have hb := hR.2.2.2.1.2.1
  have hhb := hR.2.2.2.1.2.2.2.1
  have f1 := fu64
  have f2 := fu1364
  obtain ⟨h1, h2, h', n', sc', h3, h4, h5, h6, h8⟩ := hap_sim b (fun i => μ 1 (32 + 6 * i)) until_ hu0 hu (b - h) FU FU 0 n h sc μ (by omega) (by omega) (by omega) (by omega) (by omega) ⟨hR, fun i _ => rfl⟩ hl
  rw [nI_0] at h2 h4
  exact ⟨h1, h2, h', n', sc', by omega, h4, h5.1, h6, h8⟩
theorem ok_pass : Ok_pass Rel := by
  intro k ξ μ x0 hk hR
  generalize hξ : sb2 ξ 35 104 1 17 (P_X3_record (sel ξ 35 104 1)) = ξ1
  generalize hμ : P_X10_keep μ = μ1
  obtain ⟨r1, r2, r3, r4, r5, r6⟩ := chg hR hk hξ hμ
  obtain ⟨h, n, b, hn, hRS, ht8, ht0, ht1⟩ := hR.1
  have hb := hRS.2.2.2.1.2.1
  have e8 : μ 1 8 = ξ 1 6 := ht8
  unfold S_X9_pass S_X9_pass_b0 P_X9_pass P_X9_pass_b0 S_X10_pass S_X10_pass_b0 P_X10_pass P_X10_pass_b0
  rw [in9, hξ, hμ, ← e8]
  by_cases c0 : P_X10_in x0 1 10000 = 0
  · rw [if_pos c0, if_pos c0]
    exact ⟨⟨isis _ _ _, fun _ => trivial, fun h => absurd c0 h⟩, ⟨ins _ _ _, fun _ => trivial, fun h => absurd c0 h⟩, rfl, Rel_mono _ _ _ hR⟩
  rw [if_neg c0, if_neg c0]
  by_cases c1 : μ 1 8 + x0 ≤ 120000
  · rw [if_pos c1, if_pos c1]
    have hx := in_ok c0
    rw [ia_1, show (10000 : Int32).toInt = 10000 from by decide] at hx
    have et : (μ 1 8 + x0).toInt = (μ 1 8).toInt + x0.toInt := ia_add (by omega) (by omega)
    have c1' := c1
    rw [ia_le, show (120000 : Int32).toInt = 120000 from by decide] at c1'
    unfold P_X9_pass_b42c P_X10_pass_b35c S_X9_pass_b42c S_X10_pass_b35c P_X10_pass_b59c S_X10_pass_b59c
    have e8' : ξ1 1 6 = μ 1 8 := by rw [r3 1 (by omega), e8]
    rw [e8', r5 1 (by decide) (by decide)]
    generalize μ 1 8 + x0 = u at *
    have hRS1 : RS 64 h n b (fun j => ξ1 (1 + j)) (u2 μ1 1 (upd (μ 1) 8 u) 1) := by
      rw [u2_at]
      exact RS_free (RS_cells (sc' := fun j => ξ1 (1 + j)) hRS (fun j _ hj => r3 _ (by omega))) rfl
    obtain ⟨s1, s2, h', n', sc', s3, s4, s5, s6, s8⟩ := run_main (until_ := u) (by omega) (by omega) hRS1 (by omega) (by rw [u2_ne (by decide), r4 7 (by decide) (by decide)]; exact hR.2.2.2.2)
    rw [s4]
    have a1 : sb ξ1 1 17 (u2 sc' 0 (upd (sc' 0) 6 u)) 1 6 = u := rfl
    have a2 : P_X10_happenUpTo (u2 μ1 1 (upd (μ 1) 8 u)) ((4 : Int32) * u) 1 8 = u := by rw [s8, u2_at, pk_us]
    refine ⟨⟨isis _ _ _, fun h => absurd h c0, fun _ => ⟨fun _ => ⟨r1, s2, trivial⟩, fun h => absurd c1 h⟩⟩, ⟨ins _ _ _, fun h => absurd h c0, fun _ => ⟨fun _ => ⟨r2, s1, trivial⟩, fun h => absurd c1 h⟩⟩, by dsimp only; rw [a1, a2], ?_⟩
    refine r6 _ _ ?_ (fun j hj => ?_) (fun j hj => ?_)
    · dsimp only
      refine ⟨h', n', b, by omega, ?_, ?_, ?_⟩
      · refine RS_cells s5 (fun j h1 h2 => ?_)
        show sb ξ1 1 17 (u2 sc' 0 (upd (sc' 0) 6 u)) (1 + j) = sc' j
        unfold sb
        rw [if_pos (by omega), show 1 + j - 1 = j by omega, u2_ne (by omega)]
      · rw [a2]; rfl
      · rw [a2]; omega
    · dsimp only; unfold sb; rw [if_neg (by omega)]
    · dsimp only; rw [s6 j hj, u2_ne hj]
  · rw [if_neg c1, if_neg c1]
    exact ⟨⟨isis _ _ _, fun h => absurd h c0, fun _ => ⟨fun h => absurd h c1, fun _ => trivial⟩⟩, ⟨ins _ _ _, fun h => absurd h c0, fun _ => ⟨fun h => absurd h c1, fun _ => trivial⟩⟩, rfl, Rel_mono _ _ _ hR⟩
theorem ok_wipe : Ok_wipe Rel := by
  intro k ξ μ hk hR
  obtain ⟨h1, h2, h3, ⟨L, p1, p2, p3, p4⟩, h5⟩ := Rel_mono _ _ _ hR
  obtain ⟨nx, pf, pm, h21, h22⟩ := h2
  refine ⟨trivial, trivial, ?_, ?_⟩
  · show ξ 175 1 = μ 0 9
    rw [p2, p3]
  · show Rel (k + 1) (u2 ξ 175 (upd (ξ 175) 1 0)) (u2 μ 0 (upd (μ 0) 9 0))
    have c : ∀ j, j ≠ 175 → u2 ξ 175 (upd (ξ 175) 1 0) j = ξ j := fun j h => u2_ne h
    have m : ∀ j, j ≠ 0 → u2 μ 0 (upd (μ 0) 9 0) j = μ j := fun j h => u2_ne h
    have m0 : ∀ i, i ≠ 9 → u2 μ 0 (upd (μ 0) 9 0) 0 i = μ 0 i := fun i h => by rw [u2_at, pk_un h]
    refine ⟨SC_f (SC_cells h1 (fun j hj => c _ (by omega))) (fun i _ => by rw [m 1 (by decide)]), ⟨nx, pf, pm, h21, Hist_c h22 (c 35 (by decide)) (fun j _ _ => c j (by omega)) (m0 2 (by decide)) (m0 3 (by decide)) (fun i _ => by rw [m 2 (by decide)])⟩, Slots_c h3 (c 174 (by decide)) (fun j _ _ => c j (by omega)) (m 4 (by decide)) (fun i _ => by rw [m 3 (by decide)]), ⟨0, by decide, ?_, ?_, fun i hi => absurd hi (by omega)⟩, by rw [m0 7 (by decide), h5]⟩
    · rw [u2_at, pk_us]; rfl
    · rw [u2_at, pk_us]; rfl
theorem vpb : vp_nar .boolean (1 : Int32) = 1 := by decide
theorem ok_save : Ok_save Rel := by
  intro k ξ μ x0 hk hR
  unfold S_X9_save S_X9_save_b0 P_X9_save P_X9_save_b0 S_X10_save S_X10_save_b0 P_X10_save P_X10_save_b0
  rw [in9]
  by_cases c0 : P_X10_in x0 0 1 = 0
  · rw [if_pos c0, if_pos c0]
    exact ⟨⟨isis _ _ _, fun _ => trivial, fun h => absurd c0 h⟩, ⟨ins _ _ _, fun _ => trivial, fun h => absurd c0 h⟩, rfl, Rel_mono _ _ _ hR⟩
  rw [if_neg c0, if_neg c0]
  have hx := in_ok c0
  rw [ia_0, ia_1] at hx
  obtain ⟨s, -, rfl, es⟩ := nI_ex (x := x0) (by omega)
  have hs2 : s < 2 := by omega
  rw [nI_clamp (n := s) (by omega)]
  obtain ⟨w1, w2⟩ := save_loop hs2 672 FU 0 μ (by omega) FU_672
  rw [nI_0] at w1 w2
  rw [w1]
  unfold P_X9_save_b25c S_X9_save_b25c
  rw [nI_clamp (n := s) (by omega), vpb]
  obtain ⟨hA, hO⟩ := scp ξ (140 + 17 * s) 1 (by omega)
  generalize sb2 ξ (140 + 17 * s) 17 1 17 (P_X7_copyFrom (sel ξ (140 + 17 * s) 17 1)) = ξ1 at hA hO ⊢
  have n1 : cpyT 3 1 (672 * s) 0 0 μ 1 = μ 1 := by unfold cpyT; rw [u2_ne (by decide)]
  have n3 : ∀ i, cpyT 3 1 (672 * s) 0 0 μ 3 i = if 672 * s ≤ i ∧ i < 672 * s + 672 then μ 1 (i - 672 * s) else μ 3 i := fun i => by
    unfold cpyT
    rw [u2_at]
    simp only [Nat.add_zero, Nat.zero_add]
  have nj : ∀ j, j ≠ 3 → cpyT 3 1 (672 * s) 0 0 μ j = μ j := fun j h => by unfold cpyT; rw [u2_ne h]
  rw [nj 4 (by decide), n1]
  generalize cpyT 3 1 (672 * s) 0 0 μ = μ1 at n1 n3 nj ⊢
  have hRm := Rel_mono _ _ _ hR
  obtain ⟨h, n, b, hn, hRS, ht8, -⟩ := hR.1
  have hv : vp_in (nI s) 2 := vp_in_nI hs2 (by omega)
  refine ⟨⟨isis _ _ _, fun h => absurd h c0, fun _ => ⟨hv, cs_copies _, hv, trivial⟩⟩, ⟨ins _ _ _, fun h => absurd h c0, fun _ => w2⟩, ?_, ?_⟩
  · dsimp only
    rw [hO 1 (by omega)]
    exact ht8.symm
  · dsimp only
    have c : ∀ j, j ≠ 174 → ¬ (140 + 17 * s ≤ j ∧ j < 140 + 17 * s + 17) → u2 ξ1 174 (upd (ξ1 174) s 1) j = ξ j := fun j a b => by rw [u2_ne a, hO j b]
    have m : ∀ j, j ≠ 3 → j ≠ 4 → u2 μ1 4 (upd (μ 4) s 1) j = μ j := fun j a b => by rw [u2_ne b, nj j a]
    obtain ⟨h1, ⟨nx, pf, pm, h21, h22⟩, h3, h4, h5⟩ := hRm
    refine ⟨SC_f (SC_cells h1 (fun j hj => c _ (by omega) (by omega))) (fun i _ => by rw [m 1 (by decide) (by decide)]), ⟨nx, pf, pm, h21, Hist_c h22 (c 35 (by omega) (by omega)) (fun j _ _ => c j (by omega) (by omega)) (by rw [m 0 (by decide) (by decide)]) (by rw [m 0 (by decide) (by decide)]) (fun i _ => by rw [m 2 (by decide) (by decide)])⟩, fun s' hs' => ?_, PadR_c h4 (c 175 (by omega) (by omega)) (c 176 (by omega) (by omega)) (by rw [m 0 (by decide) (by decide)]) (m 6 (by decide) (by decide)), by rw [m 0 (by decide) (by decide), h5]⟩
    rw [u2_at, u2_at, hO 174 (by omega)]
    by_cases cs : s' = s
    · subst cs
      rw [pk_us, pk_us]
      refine Or.inr ⟨rfl, rfl, ?_⟩
      refine SC_cells (sc := fun j => ξ1 (140 + 17 * s' + j)) (SC_f (SC_Ag h1 hA) (fun q hq => ?_)) (fun j hj => ?_)
      · show u2 μ1 4 (upd (μ 4) s' 1) 3 (672 * s' + q) = μ 1 q
        rw [u2_ne (by decide), n3, if_pos (by omega), show 672 * s' + q - 672 * s' = q by omega]
      · show u2 ξ1 174 (upd (ξ 174) s' 1) (140 + 17 * s' + j) = ξ1 (140 + 17 * s' + j)
        rw [u2_ne (by omega)]
    · rw [pk_un cs, pk_un cs]
      rcases h3 s' hs' with z | ⟨z1, z2, z3⟩
      · exact Or.inl z
      · refine Or.inr ⟨z1, z2, SC_f (SC_cells z3 (fun j hj => ?_)) (fun q hq => ?_)⟩
        · show u2 ξ1 174 (upd (ξ 174) s 1) (140 + 17 * s' + j) = ξ (140 + 17 * s' + j)
          rw [u2_ne (by omega), hO _ (by omega)]
        · show u2 μ1 4 (upd (μ 4) s 1) 3 (672 * s' + q) = μ 3 (672 * s' + q)
          rw [u2_ne (by decide), n3, if_neg (by omega)]
theorem ok_restore : Ok_restore Rel := by
  intro k ξ μ x0 hk hR
  generalize hξ : sb2 ξ 35 104 1 17 (P_X3_record (sel ξ 35 104 1)) = ξ1
  generalize hμ : P_X10_keep μ = μ1
  obtain ⟨r1, r2, r3, r4, r5, r6⟩ := chg hR hk hξ hμ
  unfold S_X9_restore S_X9_restore_b0 P_X9_restore P_X9_restore_b0 S_X10_restore S_X10_restore_b0 P_X10_restore P_X10_restore_b0
  rw [in9, hξ, hμ]
  by_cases c0 : P_X10_in x0 0 1 = 0
  · rw [if_pos c0, if_pos c0]
    exact ⟨⟨isis _ _ _, fun _ => trivial, fun h => absurd c0 h⟩, ⟨ins _ _ _, fun _ => trivial, fun h => absurd c0 h⟩, rfl, Rel_mono _ _ _ hR⟩
  rw [if_neg c0, if_neg c0]
  have hx := in_ok c0
  rw [ia_0, ia_1] at hx
  obtain ⟨s, -, rfl, es⟩ := nI_ex (x := x0) (by omega)
  have hs2 : s < 2 := by omega
  have hv : vp_in (nI s) 2 := vp_in_nI hs2 (by omega)
  rw [nI_clamp (n := s) (by omega)]
  rcases hR.2.2.1 s hs2 with ⟨z1, z2⟩ | ⟨z1, z2, z3⟩
  · rw [if_pos z1, if_pos z2]
    exact ⟨⟨isis _ _ _, fun h => absurd h c0, fun _ => ⟨hv, fun _ => trivial, fun h => absurd z1 h⟩⟩, ⟨ins _ _ _, fun h => absurd h c0, fun _ => ⟨hv, fun _ => trivial, fun h => absurd z2 h⟩⟩, rfl, Rel_mono _ _ _ hR⟩
  · have z1' : ¬ ξ 174 s = 0 := by rw [z1]; decide
    have z2' : ¬ μ 4 s = 0 := by rw [z2]; decide
    rw [if_neg z1', if_neg z2']
    unfold P_X9_restore_b35c S_X9_restore_b35c P_X10_restore_b28c S_X10_restore_b28c
    rw [nI_clamp (n := s) (by omega)]
    obtain ⟨w1, w2⟩ := restore_loop hs2 672 FU 0 μ1 (by omega) FU_672
    rw [nI_0] at w1 w2
    rw [w1]
    obtain ⟨hA, hO⟩ := scp ξ1 1 (140 + 17 * s) (by omega)
    have n1 : ∀ i, i < 672 → cpyT 1 3 0 (672 * s) 0 μ1 1 i = μ 3 (672 * s + i) := fun i hi => by
      unfold cpyT
      rw [u2_at]
      simp only [Nat.zero_add, Nat.add_zero, Nat.sub_zero]
      rw [if_pos (by omega), r5 3 (by decide) (by decide)]
    have nj : ∀ j, j ≠ 1 → cpyT 1 3 0 (672 * s) 0 μ1 j = μ1 j := fun j h => by unfold cpyT; rw [u2_ne h]
    have hS : SC (1400 * (k + 1)) (fun j => sb2 ξ1 1 17 (140 + 17 * s) 17 (P_X7_copyFrom (sel ξ1 1 17 (140 + 17 * s))) (1 + j)) (cpyT 1 3 0 (672 * s) 0 μ1 1) := by
      refine SC_f (SC_Ag (SC_cells (SC_mono z3 (by omega)) (fun j hj => r3 _ (by omega))) hA) (fun i hi => n1 i hi)
    refine ⟨⟨isis _ _ _, fun h => absurd h c0, fun _ => ⟨hv, fun h => absurd h z1', fun _ => ⟨r1, hv, cs_copies _, trivial⟩⟩⟩, ⟨ins _ _ _, fun h => absurd h c0, fun _ => ⟨hv, fun h => absurd h z2', fun _ => ⟨r2, w2⟩⟩⟩, ?_, ?_⟩
    · obtain ⟨_, _, _, _, _, e8, _⟩ := hS
      exact e8.symm
    · refine r6 _ _ hS (fun j hj => ?_) (fun j hj => ?_)
      · dsimp only; exact hO j (by omega)
      · dsimp only; exact nj j hj
theorem ok_undo : Ok_undo Rel := by
  intro k ξ μ hk hR
  have hRm := Rel_mono _ _ _ hR
  obtain ⟨h1, ⟨nx, pf, pm, h21, ⟨⟨a1, a2, a3, a4⟩, b1, b2, b3, b4⟩⟩, h3, h4, h5⟩ := hRm
  unfold S_X9_undo S_X9_undo_b0 P_X9_undo P_X9_undo_b0 S_X10_undo S_X10_undo_b0 P_X10_undo P_X10_undo_b0
  rw [a2, a4, a3]
  by_cases c0 : pm = 0
  · have z : nI pm = 0 := by rw [c0]; rfl
    rw [if_pos z, if_pos z]
    exact ⟨⟨fun _ => trivial, fun h => absurd z h⟩, ⟨fun _ => trivial, fun h => absurd z h⟩, rfl, Rel_mono _ _ _ hR⟩
  have z : ¬ nI pm = 0 := nI_ne0 (by omega) (by omega)
  rw [if_neg z, if_neg z, nI_predb (by omega), nI_add]
  rw [show nI (pf + (pm - 1)) - nI (pf + (pm - 1)) / (6 : Int32) * (6 : Int32) = nI ((pf + (pm - 1)) % 6) from pk_rem (a := pf + (pm - 1)) (d := 6) (by omega) (by decide) (by decide)]
  unfold P_X10_undo_b33n S_X10_undo_b33n
  have hm1 : (pf + (pm - 1)) % 6 < 6 := Nat.mod_lt _ (by decide)
  have hm2 : (nx - 1) % 6 < 6 := Nat.mod_lt _ (by decide)
  obtain ⟨w1, w2⟩ := undo_loop hm1 672 FU 0 (u2 μ 0 (upd (μ 0) 3 (nI (pm - 1)))) (by omega) FU_672
  rw [nI_0] at w1 w2
  rw [w1]
  -- the class's side
  have h01 : sel ξ 35 104 1 0 1 = nI nx := a1
  have h02 : sel ξ 35 104 1 0 2 = nI pm := a2
  have hH : ∀ c, c < 104 → sel ξ 35 104 1 c = ξ (35 + c) := fun c hc => by unfold sel; rw [if_pos hc]
  have hL : ∀ c, 104 ≤ c → sel ξ 35 104 1 c = ξ (1 + (c - 104)) := fun c hc => by unfold sel; rw [if_neg (by omega)]
  have hT : P_X3_takeBack (sel ξ 35 104 1) = sb2 (u2 (sel ξ 35 104 1) 0 (upd (upd (sel ξ 35 104 1 0) 1 (nI (nx - 1))) 2 (nI (pm - 1)))) 104 17 (2 + 17 * ((nx - 1) % 6)) 17 (P_X7_copyFrom (sel (u2 (sel ξ 35 104 1) 0 (upd (upd (sel ξ 35 104 1 0) 1 (nI (nx - 1))) 2 (nI (pm - 1)))) 104 17 (2 + 17 * ((nx - 1) % 6)))) := by
    unfold P_X3_takeBack P_X3_takeBack_b0
    rw [h01, h02, nI_predb (by omega), nI_predb (by omega), fm6 (by omega), nI_clamp (n := (nx - 1) % 6) (by omega)]
  have hTs : S_X3_takeBack (sel ξ 35 104 1) := by
    unfold S_X3_takeBack S_X3_takeBack_b0
    rw [h01, nI_predb (by omega), fm6 (by omega)]
    exact ⟨fm6s _, vp_in_nI hm2 (by omega), cs_copies _, trivial⟩
  obtain ⟨hA, hO⟩ := scp (u2 (sel ξ 35 104 1) 0 (upd (upd (sel ξ 35 104 1 0) 1 (nI (nx - 1))) 2 (nI (pm - 1)))) 104 (2 + 17 * ((nx - 1) % 6)) (by omega)
  generalize hξ1 : sb2 ξ 35 104 1 17 (P_X3_takeBack (sel ξ 35 104 1)) = ξ1
  rw [← hT] at hA hO
  have e1 : ∀ j, j < 17 → ξ1 (1 + j) = P_X3_takeBack (sel ξ 35 104 1) (104 + j) := fun j hj => by
    rw [← hξ1]; unfold sb2
    rw [if_neg (by omega), if_pos (by omega), show 104 + (1 + j - 1) = 104 + j by omega]
  have e35 : ξ1 35 = upd (upd (ξ 35) 1 (nI (nx - 1))) 2 (nI (pm - 1)) := by
    rw [← hξ1]; unfold sb2
    rw [if_pos (by omega), show 35 - 35 = 0 by omega, hO 0 (by omega), u2_at]
    rfl
  have eo : ∀ j, 36 ≤ j → ξ1 j = ξ j := fun j hj => by
    rw [← hξ1]; unfold sb2
    by_cases c : j < 139
    · rw [if_pos (by omega), hO _ (by omega), u2_ne (by omega), hH _ (by omega), show 35 + (j - 35) = j by omega]
    · rw [if_neg (by omega), if_neg (by omega)]
  have c1 : ∀ i, i < 672 → cpyT 1 2 0 (672 * ((pf + (pm - 1)) % 6)) 0 (u2 μ 0 (upd (μ 0) 3 (nI (pm - 1)))) 1 i = μ 2 (672 * ((pf + (pm - 1)) % 6) + i) := fun i hi => by
    unfold cpyT
    rw [u2_at]
    simp only [Nat.zero_add, Nat.add_zero, Nat.sub_zero]
    rw [if_pos (by omega), u2_ne (by decide)]
  have cj : ∀ j, j ≠ 1 → cpyT 1 2 0 (672 * ((pf + (pm - 1)) % 6)) 0 (u2 μ 0 (upd (μ 0) 3 (nI (pm - 1)))) j = u2 μ 0 (upd (μ 0) 3 (nI (pm - 1))) j := fun j h => by unfold cpyT; rw [u2_ne h]
  generalize cpyT 1 2 0 (672 * ((pf + (pm - 1)) % 6)) 0 (u2 μ 0 (upd (μ 0) 3 (nI (pm - 1)))) = μ1 at c1 cj ⊢
  refine ⟨⟨fun h => absurd h z, fun _ => ⟨hTs, trivial⟩⟩, ⟨fun h => absurd h z, fun _ => w2⟩, ?_, ?_⟩
  · dsimp only
    rw [e35, pk_us, cj 0 (by decide), u2_at, pk_us]
  · dsimp only
    refine ⟨?_, ⟨nx - 1, pf, pm - 1, by omega, ⟨?_, ?_, ?_, ?_⟩, by omega, b2, by omega, fun i hi => ?_⟩, Slots_c h3 (eo 174 (by omega)) (fun j _ _ => eo j (by omega)) ?_ (fun i _ => ?_), PadR_c h4 (eo 175 (by omega)) (eo 176 (by omega)) ?_ ?_, ?_⟩
    · refine SC_f (SC_cells (SC_Ag (SC_cells (b4 (pm - 1) (by omega)) (fun j hj => ?_)) hA) (fun j hj => e1 j hj)) (fun i hi => c1 i hi)
      show u2 (sel ξ 35 104 1) 0 _ (2 + 17 * ((nx - 1) % 6) + j) = ξ (37 + 17 * ((nx - pm + (pm - 1)) % 6) + j)
      rw [u2_ne (by omega), hH _ (by omega), show nx - pm + (pm - 1) = nx - 1 by omega, show 35 + (2 + 17 * ((nx - 1) % 6) + j) = 37 + 17 * ((nx - 1) % 6) + j by omega]
    · rw [e35, pk_un (by decide), pk_us]
    · rw [e35, pk_us]
    · rw [cj 0 (by decide), u2_at, pk_un (by decide), a3]
    · rw [cj 0 (by decide), u2_at, pk_us]
    · refine SC_f (SC_cells (b4 i (by omega)) (fun j hj => ?_)) (fun q hq => ?_)
      · show ξ1 (37 + 17 * ((nx - 1 - (pm - 1) + i) % 6) + j) = _
        rw [eo _ (by omega), show nx - 1 - (pm - 1) + i = nx - pm + i by omega]
      · show μ1 2 _ = μ 2 _
        rw [cj 2 (by decide), u2_ne (by decide)]
    · rw [cj 4 (by decide), u2_ne (by decide)]
    · rw [cj 3 (by decide), u2_ne (by decide)]
    · rw [cj 0 (by decide), u2_at, pk_un (by decide)]
    · rw [cj 6 (by decide), u2_ne (by decide)]
    · rw [cj 0 (by decide), u2_at, pk_un (by decide), h5]
end OC1
