/-! plan, whole -/
section OP1
theorem ok_plan : Ok_plan Rel := by
  intro k ξ μ hk hR
  have f1 := fu64
  obtain ⟨L, hP⟩ := PP_of hR
  obtain ⟨r1, r2, r3, r4, r5, r6⟩ := read_ok hP
  have hRa : Rel k (sb2 ξ 177 3 175 2 (P_X6_read (sel ξ 177 3 175))) (P_X10_fault μ).2 := Rel_rd hR (rd_back r3) r4
  unfold S_X9_plan S_X9_plan_b0 P_X9_plan P_X9_plan_b0 S_X10_plan S_X10_plan_b0 P_X10_plan P_X10_plan_b0
  have ea0 : sb2 ξ 177 3 175 2 (P_X6_read (sel ξ 177 3 175)) 177 = P_X6_read (sel ξ 177 3 175) 0 := rfl
  have ea1 : sb2 ξ 177 3 175 2 (P_X6_read (sel ξ 177 3 175)) 178 = P_X6_read (sel ξ 177 3 175) 1 := rfl
  have ea2 : sb2 ξ 177 3 175 2 (P_X6_read (sel ξ 177 3 175)) 179 = P_X6_read (sel ξ 177 3 175) 2 := rfl
  generalize sb2 ξ 177 3 175 2 (P_X6_read (sel ξ 177 3 175)) = ξa at hRa ea0 ea1 ea2 ⊢
  generalize P_X6_read (sel ξ 177 3 175) = σr at r3 r5 r6 ea0 ea1 ea2
  generalize P_X10_fault μ = FM at r4 r5 r6 hRa ⊢
  obtain ⟨ans, μa⟩ := FM
  dsimp only at r4 r5 r6 hRa ⊢
  unfold S_X9_plan_b11c P_X9_plan_b11c S_X10_plan_b4c P_X10_plan_b4c
  rw [ea0, r5]
  rcases r6.symm with hpos | ⟨rfl, m, a, c, hm, hB⟩
  · -- a text with a fault
    have n1 : ¬ ans = -6 := fun h => by rw [h, ia_m6] at hpos; omega
    have n2 : ¬ ans < 0 := by rw [ia_lt, ia_0]; omega
    rw [if_neg n1, if_neg n2]
    exact ⟨⟨r1, fun h => absurd h n1, fun _ => trivial⟩, ⟨r2, fun h => absurd h n2, fun _ => trivial⟩, rfl, Rel_mono _ _ _ hRa⟩
  · have n2 : (-6 : Int32) < 0 := by decide
    rw [if_pos rfl, if_pos n2]
    obtain ⟨⟨b1, b2, b3, b4, b5, b6⟩, b7⟩ := hB
    -- the trial's plan a copy of the scene's
    obtain ⟨q1, q2, q3⟩ := pcp ξa 20 3 21 22 rfl rfl (by omega)
    generalize hξb : sb2 ξa 20 3 3 3 (P_X5_copyFrom (sel ξa 20 3 3)) = ξb at q1 q2 q3 ⊢
    have hRb : Rel k ξb μa := Rel_wi hRa (fun j hj => q3 j (by omega)) (fun _ _ _ => rfl) (fun _ _ => rfl)
    obtain ⟨h, n, b, hn, hRS, ht8, ht0, ht1⟩ := hRb.1
    have hb := hRS.2.2.2.1.2.1
    have e22 := hRS.2.2.2.1.1
    have e2 : ξb 3 2 = nI b := by have := hRS.2.2.2.1.2.2.2.2.1; rw [wbF hb] at this; exact this
    have e8 : ξb 1 6 = μa 1 8 := ht8.symm
    -- the trial's plan and the reader, side by side
    have sH : ∀ j, j < 3 → sel ξb 20 3 177 j = ξb (20 + j) := fun j hj => by unfold sel; rw [if_pos hj]
    have sT : ∀ j, 3 ≤ j → sel ξb 20 3 177 j = ξb (177 + (j - 3)) := fun j hj => by unfold sel; rw [if_neg (by omega)]
    have g0 : sel ξb 20 3 177 0 2 = nI b := by rw [sH 0 (by decide)]; exact q1.trans ((congrFun (q3 3 (by decide)) 2).symm.trans e2)
    have g3 : sel ξb 20 3 177 3 2 = nI m := by rw [sT 3 (by decide)]; show ξb 177 2 = nI m; rw [q3 177 (by omega), ea0, b1]
    have hTp : Tp b (sel ξb 20 3 177) (fun j => ξb (1 + j)) := by
      refine ⟨g0, fun c9 h9 => ?_⟩
      rw [sH 1 (by decide), sH 2 (by decide)]
      obtain ⟨k1, k2⟩ := q2 c9 h9
      exact ⟨k1.trans (congrFun (q3 4 (by decide)) c9).symm, k2.trans (congrFun (q3 5 (by decide)) c9).symm⟩
    obtain ⟨lm1, lm2, lm3, lm4⟩ := LTm e22 hb
    unfold S_X9_plan_b43c P_X9_plan_b43c S_X5_appendAll P_X5_appendAll S_X5_appendAll_b0 P_X5_appendAll_b0 S_X10_whyNotPlan P_X10_whyNotPlan S_X10_whyNotPlan_b0 P_X10_whyNotPlan_b0
    rw [g3, lm1, lm2, e22, b2, nI_add]
    have i4 : ¬ (0 : Int32) ≤ -4 := by decide
    -- a refusal changes nothing
    have hcell : ∀ (R : T2), (∀ j, 3 ≤ j → R j = sel ξb 20 3 177 j) → ∀ j, ¬ (18 ≤ j ∧ j < 35) → sb2 ξb 20 3 177 3 R j = ξb j := fun R hRf j hj => by
      unfold sb2
      rw [if_neg (by omega)]
      by_cases c9 : 177 ≤ j ∧ j < 177 + 3
      · rw [if_pos c9, hRf _ (by omega), sT _ (by omega), show 177 + (3 + (j - 177) - 3) = j by omega]
      · rw [if_neg c9]
    have hrel : ∀ (R : T2), (∀ j, 3 ≤ j → R j = sel ξb 20 3 177 j) → Rel k (sb2 ξb 20 3 177 3 R) μa := fun R hRf => Rel_wi hRb (hcell R hRf) (fun _ _ _ => rfl) (fun _ _ => rfl)
    by_cases cr : b + m ≤ 64
    · have cr1 : nI m ≤ 64 := nI_le (a := m) (b := 64) (by omega) (by omega)
      have cr2 : nI (b + m) ≤ 64 := nI_le (a := b + m) (b := 64) cr (by omega)
      rw [if_pos cr1, if_pos cr2]
      have hg : ∀ k', k' < m → sel ξb 20 3 177 4 k' = μa 7 k' ∧ sel ξb 20 3 177 5 k' = μa 8 k' ∧ 1 ≤ (μa 7 k').toInt ∧ (μa 7 k').toInt ≤ 900000 := fun k' hk' => by
        obtain ⟨x1, x2, g, z, x3, x4, x5, x6, x7⟩ := b7 k' hk' (by omega)
        rw [sT 4 (by decide), sT 5 (by decide)]
        have y1 : ξb (177 + (4 - 3)) = σr 1 := by show ξb 178 = σr 1; rw [q3 178 (by omega), ea1]
        have y2 : ξb (177 + (5 - 3)) = σr 2 := by show ξb 179 = σr 2; rw [q3 179 (by omega), ea2]
        rw [y1, y2]
        refine ⟨x1, x2, ?_, ?_⟩
        · rw [← x1, x3, nI_toInt (by omega)]; omega
        · rw [← x1, x3, nI_toInt (by omega)]; omega
      obtain ⟨u1, u2', u3, u4⟩ := pl_loop (h := h) (n := n) (m := m) (ν := μa) (by omega) b2 m FU FU 0 b (sel ξb 20 3 177) (fun j => ξb (1 + j)) (μa 1) 0 (by omega) cr (by omega) (by omega) hRS hTp g3 hg (Or.inl rfl)
      rw [nI_0] at u1 u2' u3 u4
      have hSap : (nI m ≤ 64 → S_X5_appendAll_b13 FU (sel ξb 20 3 177) 0) ∧ (¬ nI m ≤ 64 → True) := ⟨fun _ => u1, fun _ => trivial⟩
      have hSwh : (nI (b + m) ≤ 64 → S_X10_lastTime μa ∧ S_X10_nextTrue μa ∧ S_X10_whyNotPlan_b35 FU μa (LT (μa 1) b) (NT (μa 1) b) 0 0) ∧ (¬ nI (b + m) ≤ 64 → True) := ⟨fun _ => ⟨lm3, lm4, u2'⟩, fun _ => trivial⟩
      generalize P_X5_appendAll_b13 FU (sel ξb 20 3 177) 0 = R at u3 u4 ⊢
      obtain ⟨rv, R2⟩ := R
      dsimp only at u3 u4 ⊢
      have hrelc := hrel R2 u3
      have hcl := hcell R2 u3
      have d20 : sb2 ξb 20 3 177 3 R2 20 = R2 0 := rfl
      have d21 : sb2 ξb 20 3 177 3 R2 21 = R2 1 := rfl
      have d22 : sb2 ξb 20 3 177 3 R2 22 = R2 2 := rfl
      generalize sb2 ξb 20 3 177 3 R2 = ξc at hrelc hcl d20 d21 d22 ⊢
      unfold S_X9_plan_b57c P_X9_plan_b57c
      rcases u4 with ⟨x1, x2⟩ | ⟨rfl, ⟨sc', x2, x3, x4⟩, x5, x6, x7⟩
      · rw [if_pos x1, x2, if_neg i4]
        exact ⟨⟨r1, fun _ => ⟨trivial, hSap, fun _ => trivial, fun h => absurd x1 h⟩, fun h => absurd rfl h⟩, ⟨r2, fun _ => ⟨hSwh, fun h => absurd h i4, fun _ => trivial⟩, fun h => absurd n2 h⟩, rfl, Rel_mono _ _ _ hrelc⟩
      · have n10 : ¬ (1 : Int32) = 0 := by decide
        have z00 : ¬ ¬ (0 : Int32) = 0 := fun h => h rfl
        rw [if_neg n10]
        rw [if_neg z00] at x7
        have ec3 : ξc 3 2 = nI b := by rw [hcl 3 (by omega), e2]
        have ec1 : ξc 1 6 = μa 1 8 := by rw [hcl 1 (by omega), e8]
        have ec20 : (fun j => ξc (20 + j)) 0 2 = nI (b + m) := by show ξc 20 2 = _; rw [d20]; exact x3.1
        rw [ec3]
        -- the whole change
        have hchg : 0 = P_X10_whyNotPlan_b35 FU μa (LT (μa 1) b) (NT (μa 1) b) 0 0 → S_X9_plan_b112 ξc ∧ (S_X10_keep μa ∧ S_X10_plan_b25c (P_X10_keep μa)) ∧ (P_X9_plan_b112 ξc).1 = (P_X10_plan_b25c (P_X10_keep μa)).1 ∧ Rel (k + 1) (P_X9_plan_b112 ξc).2 (P_X10_plan_b25c (P_X10_keep μa)).2 := fun _ => by
          unfold S_X9_plan_b112 P_X9_plan_b112 S_X9_plan_b123c P_X9_plan_b123c S_X9_plan_b140c P_X9_plan_b140c S_X10_plan_b25c P_X10_plan_b25c
          obtain ⟨v1, v2, ⟨nx, pf, pm, v31, v32⟩, v3, v4, v5⟩ := Rel_rec hrelc hk
          obtain ⟨y1, y2⟩ := am_loop (m := m) (by omega) m FU 0 b (P_X10_keep μa) (by omega) cr (by omega) (by rw [v5 1 (by decide) (by decide), e22]) (by rw [v4 13 (by decide) (by decide), b2])
          rw [nI_0] at y1 y2
          rw [y2]
          obtain ⟨p1, p2, p3⟩ := pcp (sb2 ξc 35 104 1 17 (P_X3_record (sel ξc 35 104 1))) 3 20 4 5 rfl rfl (by omega)
          generalize hξd : sb2 (sb2 ξc 35 104 1 17 (P_X3_record (sel ξc 35 104 1))) 3 3 20 3 (P_X5_copyFrom (sel (sb2 ξc 35 104 1 17 (P_X3_record (sel ξc 35 104 1))) 3 3 20)) = ξd at p1 p2 p3 ⊢
          have w20 : ∀ j, 18 ≤ j → j < 35 → sb2 ξc 35 104 1 17 (P_X3_record (sel ξc 35 104 1)) j = ξc j := fun j a b => v3 j (by omega)
          rw [w20 20 (by decide) (by decide)] at p1
          have p2' : ∀ i, i < 64 → ξd 4 i = ξc 21 i ∧ ξd 5 i = ξc 22 i := fun i hi => by
            obtain ⟨a1, a2⟩ := p2 i hi
            exact ⟨a1.trans (congrFun (w20 21 (by decide) (by decide)) i), a2.trans (congrFun (w20 22 (by decide) (by decide)) i)⟩
          have po : ∀ j, 1 ≤ j → j < 18 → ¬ (3 ≤ j ∧ j < 6) → ξd j = ξb j := fun j a b c => by
            rw [p3 j (by omega), v3 j (by omega), hcl j (by omega)]
          have k7 : P_X10_keep μa 7 = μa 7 := v5 7 (by decide) (by decide)
          have k8 : P_X10_keep μa 8 = μa 8 := v5 8 (by decide) (by decide)
          have k1 : P_X10_keep μa 1 = μa 1 := v5 1 (by decide) (by decide)
          rw [k7, k8, k1]
          refine ⟨⟨v1, trivial, trivial⟩, ⟨v2, y1⟩, ?_, ?_⟩
          · dsimp only
            rw [p1, d20]; exact x3.1
          · dsimp only
            have hagr : Ag sc' (fun j => u2 ξd 175 (upd (ξd 175) 1 0) (1 + j)) := by
              have hu : ∀ j, j < 17 → (fun j => u2 ξd 175 (upd (ξd 175) 1 0) (1 + j)) j = ξd (1 + j) := fun j hj => u2_ne (by omega)
              have hsame : ∀ j, j < 17 → j ≠ 2 → j ≠ 3 → j ≠ 4 → (fun j => u2 ξd 175 (upd (ξd 175) 1 0) (1 + j)) j = sc' j := fun j hj a b c => by
                rw [hu j hj, po (1 + j) (by omega) (by omega) (by omega), x4 j a b c]
              refine ⟨fun i hi => by rw [hsame 1 (by decide) (by decide) (by decide) (by decide)], ?_, fun j hj i hi => ?_, by rw [hsame 10 (by decide) (by decide) (by decide) (by decide)], fun i hi => by rw [hsame 15 (by decide) (by decide) (by decide) (by decide)], fun i hi => by rw [hsame 16 (by decide) (by decide) (by decide) (by decide)], by rw [hsame 0 (by decide) (by decide) (by decide) (by decide)]⟩
              · rw [hu 2 (by decide)]
                show ξd 3 2 = sc' 2 2
                have := x2.2.2.2.1.2.2.2.2.1
                rw [wbF (by omega)] at this
                rw [p1, d20, this]; exact x3.1
              · by_cases j3 : j = 3
                · subst j3
                  rw [hu 3 (by decide)]
                  show ξd 4 i = sc' 3 i
                  rw [(p2' i hi).1, d21]; exact (x3.2 i hi).1
                · by_cases j4 : j = 4
                  · subst j4
                    rw [hu 4 (by decide)]
                    show ξd 5 i = sc' 4 i
                    rw [(p2' i hi).2, d22]; exact (x3.2 i hi).2
                  · rw [hsame j (by omega) (by omega) j3 j4]
            have hfin : RS 64 h n (b + m) (fun j => u2 ξd 175 (upd (ξd 175) 1 0) (1 + j)) (fA (μa 7) (μa 8) m 0 b (μa 1)) := RS_Ag x2 hagr
            have eA : ∀ (d i B : Nat) (f : T1), fA (μa 7) (μa 8) d i B f 8 = f 8 := fun d => by
              induction d with
              | zero => intro i B f; rw [fA_0]
              | succ d ih =>
                intro i B f
                rw [fA_s, ih]
                unfold adb
                rw [pk_un (by decide), bec_o (by omega), pk_un (by omega), pk_un (by omega)]
            have m1 : u2 (u2 (P_X10_keep μa) 1 (fA (μa 7) (μa 8) m 0 b (μa 1))) 0 (upd (P_X10_keep μa 0) 9 0) 1 = fA (μa 7) (μa 8) m 0 b (μa 1) := by rw [u2_ne (by decide), u2_at]
            refine Rel_new hrelc hk ?_ (fun j hj => ?_) (fun i hi => ?_) ?_ ?_ ?_ ⟨0, by decide, ?_, ?_, fun i hi => absurd hi (by omega)⟩
            · rw [m1]
              refine ⟨h, n, b + m, by omega, hfin, ?_, ?_⟩
              · rw [eA]
                show μa 1 8 = u2 ξd 175 (upd (ξd 175) 1 0) 1 6
                rw [u2_ne (by decide), po 1 (by decide) (by decide) (by decide)]; exact ht8
              · rw [eA]; exact ⟨ht0, ht1⟩
            · rw [u2_ne (by omega), p3 j (by omega)]
            · rw [u2_at, pk_un (by omega)]
            · rw [u2_ne (by decide), u2_ne (by decide)]
            · rw [u2_ne (by decide), u2_ne (by decide)]
            · rw [u2_ne (by decide), u2_ne (by decide)]
            · rw [u2_at, pk_us]; rfl
            · rw [u2_at, pk_us]; rfl
        by_cases cm : m = 0
        · have z1 : ¬ (0 < m ∧ ¬ μa 1 8 < LT (μa 1) b + μa 7 0) := fun h => by omega
          rw [if_neg z1] at x7
          have hh : P_X5_has (fun j => ξc (20 + j)) (nI b) = 0 := by
            unfold P_X5_has P_X5_has_b0
            rw [ec20, if_neg (nI_pos (by omega)), if_pos (nI_le (by omega) (by omega))]
          rw [if_pos hh, x7, if_pos (show (0 : Int32) ≤ 0 by decide)]
          obtain ⟨c1, c2, c3, c4⟩ := hchg x7.symm
          exact ⟨⟨r1, fun _ => ⟨trivial, hSap, fun h => absurd h n10, fun _ => ⟨cs_hass _ _, fun _ => c1, fun h => absurd hh h⟩⟩, fun h => absurd rfl h⟩, ⟨r2, fun _ => ⟨hSwh, fun _ => c2, fun _ => trivial⟩, fun h => absurd n2 h⟩, c3, c4⟩
        · have hh : ¬ P_X5_has (fun j => ξc (20 + j)) (nI b) = 0 := by
            rw [cs_has (b := b) (m := b + m) ec20 (by omega) cr]; decide
          have ht : P_X5_timeOf (fun j => ξc (20 + j)) (nI b) = LT (μa 1) b + μa 7 0 := by
            rw [cs_timeOf (b := b) (m := b + m) ec20 (by omega) cr]
            show ξc 21 b = _
            rw [d21]; exact x6 (by omega)
          rw [if_neg hh, ht, ec1]
          by_cases cl : μa 1 8 < LT (μa 1) b + μa 7 0
          · have z1 : ¬ (0 < m ∧ ¬ μa 1 8 < LT (μa 1) b + μa 7 0) := fun h => h.2 cl
            rw [if_neg z1] at x7
            rw [if_pos cl, x7, if_pos (show (0 : Int32) ≤ 0 by decide)]
            obtain ⟨c1, c2, c3, c4⟩ := hchg x7.symm
            exact ⟨⟨r1, fun _ => ⟨trivial, hSap, fun h => absurd h n10, fun _ => ⟨cs_hass _ _, fun h => absurd h hh, fun _ => ⟨cs_times _ _, fun _ => c1, fun h => absurd cl h⟩⟩⟩, fun h => absurd rfl h⟩, ⟨r2, fun _ => ⟨hSwh, fun _ => c2, fun _ => trivial⟩, fun h => absurd n2 h⟩, c3, c4⟩
          · have z1 : 0 < m ∧ ¬ μa 1 8 < LT (μa 1) b + μa 7 0 := ⟨by omega, cl⟩
            rw [if_pos z1] at x7
            have i5 : ¬ (0 : Int32) ≤ -5 := by decide
            rw [if_neg cl, x7, if_neg i5]
            exact ⟨⟨r1, fun _ => ⟨trivial, hSap, fun h => absurd h n10, fun _ => ⟨cs_hass _ _, fun h => absurd h hh, fun _ => ⟨cs_times _ _, fun h => absurd h cl, fun _ => trivial⟩⟩⟩, fun h => absurd rfl h⟩, ⟨r2, fun _ => ⟨hSwh, fun h => absurd h i5, fun _ => trivial⟩, fun h => absurd n2 h⟩, rfl, Rel_mono _ _ _ hrelc⟩
    · have cr2 : ¬ nI (b + m) ≤ 64 := nI_ge (a := 64) (b := b + m) (by omega) (by omega)
      rw [if_neg cr2, if_neg i4]
      have hSwh : (nI (b + m) ≤ 64 → S_X10_lastTime μa ∧ S_X10_nextTrue μa ∧ S_X10_whyNotPlan_b35 FU μa (LT (μa 1) b) (NT (μa 1) b) 0 0) ∧ (¬ nI (b + m) ≤ 64 → True) := ⟨fun h => absurd h cr2, fun _ => trivial⟩
      by_cases cr1' : m ≤ 64
      · have cr1 : nI m ≤ 64 := nI_le (a := m) (b := 64) cr1' (by omega)
        rw [if_pos cr1]
        obtain ⟨u1, u2', u3⟩ := pf_loop cr1' m FU 0 b (sel ξb 20 3 177) (by omega) (by omega) hb (by omega) g0 g3
        rw [nI_0] at u1 u2' u3
        have hSap : (nI m ≤ 64 → S_X5_appendAll_b13 FU (sel ξb 20 3 177) 0) ∧ (¬ nI m ≤ 64 → True) := ⟨fun _ => u1, fun _ => trivial⟩
        unfold S_X9_plan_b57c P_X9_plan_b57c
        rw [if_pos u2']
        exact ⟨⟨r1, fun _ => ⟨trivial, hSap, fun _ => trivial, fun h => absurd u2' h⟩, fun h => absurd rfl h⟩, ⟨r2, fun _ => ⟨hSwh, fun h => absurd h i4, fun _ => trivial⟩, fun h => absurd n2 h⟩, rfl, Rel_mono _ _ _ (hrel _ u3)⟩
      · have cr1 : ¬ nI m ≤ 64 := nI_ge (a := 64) (b := m) (by omega) (by omega)
        rw [if_neg cr1]
        have hSap : (nI m ≤ 64 → S_X5_appendAll_b13 FU (sel ξb 20 3 177) 0) ∧ (¬ nI m ≤ 64 → True) := ⟨fun h => absurd h cr1, fun _ => trivial⟩
        unfold S_X9_plan_b57c P_X9_plan_b57c
        dsimp only
        have z0 : (0 : Int32) = 0 := rfl
        rw [if_pos z0]
        exact ⟨⟨r1, fun _ => ⟨trivial, hSap, fun _ => trivial, fun h => absurd z0 h⟩, fun h => absurd rfl h⟩, ⟨r2, fun _ => ⟨hSwh, fun h => absurd h i4, fun _ => trivial⟩, fun h => absurd n2 h⟩, rfl, Rel_mono _ _ _ (hrel _ (fun _ _ => rfl))⟩
end OP1
