/-! the relation kept by a heard beat and by a held blow -/
section ST1
theorem skp_bc {wb h b : Nat} (hh : h < b) (hw : h ≠ wb) : skp wb (if wb < h then h - 1 else h) = h ∧ (if wb < h then h - 1 else h) < (if wb < b then b - 1 else b) := by
  unfold skp
  by_cases c : wb < h
  · rw [if_pos c, if_pos (show wb < b by omega), if_neg (by omega)]
    omega
  · rw [if_neg c, if_pos (by omega)]
    by_cases c2 : wb < b
    · rw [if_pos c2]; omega
    · rw [if_neg c2]; omega
theorem m_le {wb b : Nat} (hb : b ≤ 64) : (if wb < b then b - 1 else b) ≤ 64 := by split <;> omega
theorem hc0_o {sc : T2} {j : Nat} (h : j ≠ 16) : hc0 sc j = sc j := u2_ne h
theorem hc0_h (sc : T2) : hc0 sc 16 0 = sc 16 0 + 1 := by
  unfold hc0
  rw [u2_at, pk_us]
theorem hr0_14 (f : T1) : hr0 f 14 = f 14 + 1 := by
  unfold hr0
  rw [pk_un (by decide), pk_us]
theorem Hq_RS {wb h n b : Nat} {sc sc' : T2} {f f' : T1} (hR : RS wb h n b sc f) (hh : h < b) (hw : h ≠ wb) (hq : Hq (hc0 sc) (hr0 f) (if wb < h then h - 1 else h) h n sc' f') : ∃ n', n ≤ n' ∧ n' ≤ n + 1 ∧ RS wb (h + 1) n' b sc' f' ∧ Nov f' ((4 : Int32) * f (32 + 6 * h)) ∧ f' 8 = f 8 ∧ (∀ j, j < 5 → sc' j = sc j) ∧ (∀ i, i < 64 → f' (32 + 6 * i) = f (32 + 6 * i)) := by
  obtain ⟨hS, hN, ⟨e12, e10⟩, ⟨e22, hb, e14, hhb, e2, e16⟩, hs, hP, hF⟩ := hR
  obtain ⟨n', q1, q2, qS, qN, q12, qv, qf, q16, q18, qc, ⟨w, bl, o1, s1, o2, s2, qk, q6, q7, q8, q9, qm⟩, qB⟩ := hq
  have g : ∀ i, i ≠ 14 → i ≠ 27 → hr0 f i = f i := fun i a b => hr0_o a b
  have hmid : ∀ i, i < 64 → f' (32 + 6 * i) = f (32 + 6 * i) ∧ f' (33 + 6 * i) = f (33 + 6 * i) := fun i hi => by
    rw [qm _ (by omega) (by omega), qm _ (by omega) (by omega), bec_o (by omega), bec_o (by omega), g _ (by omega) (by omega), g _ (by omega) (by omega)]
    exact ⟨rfl, rfl⟩
  have hcell : ∀ j, j < 5 → sc' j = sc j := fun j hj => by rw [qc j hj, hc0_o (by omega)]
  refine ⟨n', q1, q2, ⟨qS, qN, q12, ⟨?_, hb, ?_, by omega, ?_, ?_⟩, ?_, ?_, fun h64 => ?_⟩, ?_, ?_, hcell, fun i hi => (hmid i hi).1⟩
  · rw [qf 22 (by omega), g _ (by decide) (by decide), e22]
  · rw [qf 14 (by omega), hr0_14, e14, nI_1]
  · rw [hcell 2 (by decide), e2]
  · rw [q16, hc0_h, e16, nI_1]
    by_cases c : wb < h
    · rw [if_pos c, if_pos (by omega)]; congr 1; omega
    · rw [if_neg c, if_neg (by omega)]
  · have h18 : hr0 f 18 = f 18 := g _ (by decide) (by decide)
    rcases q18 with c | c
    · rw [c, h18]; omega
    · rw [c, h18, ia_add (by rw [ia_1]; omega) (by rw [ia_1]; omega), ia_1]; omega
  · exact Pl_c hb hP (hcell 3 (by decide)) (hcell 4 (by decide)) hmid
  · have hbc : (if wb < h then h - 1 else h) = h := if_neg (by omega)
    rw [hbc] at q6 q7 q8 q9 qB
    rw [hc0_o (by decide)] at q6 q7 q8 q9
    refine ⟨fa_step (hF h64).1 hh hb qk q6 q7 q8 q9 (fun i hi hi2 => ?_), qB rfl ?_⟩
    · rw [qm i hi hi2]
      exact bec_c (g _ (by omega) (by omega))
    · exact Bl_c (hF h64).2 (fun j _ _ => hc0_o (by omega)) (fun i hi => g _ (by omega) (by omega))
  · rw [g _ (by omega) (by omega)] at qv; exact qv
  · rw [qf 8 (by omega), g _ (by decide) (by decide)]
theorem RS_hear {wb h n b : Nat} {sc μ : T2} (hR : RS wb h n b sc (μ 1)) (hh : h < b) (hw : h ≠ wb) (hl : ¬ μ 1 14 = μ 0 7) (hn : n < 1048576) (hv : Nov (μ 1) ((4 : Int32) * μ 1 (32 + 6 * h))) : ∃ n', n ≤ n' ∧ n' ≤ n + 1 ∧ RS wb (h + 1) n' b (P_X7_hearBeat sc (sc 16 0)) (P_X10_hear μ 1) ∧ Nov (P_X10_hear μ 1) ((4 : Int32) * μ 1 (32 + 6 * h)) ∧ P_X10_hear μ 1 8 = μ 1 8 ∧ (∀ j, j < 5 → P_X7_hearBeat sc (sc 16 0) j = sc j) ∧ (∀ i, i < 64 → P_X10_hear μ 1 (32 + 6 * i) = μ 1 (32 + 6 * i)) := by
  refine Hq_RS hR hh hw ?_
  obtain ⟨hS, hN, ⟨e12, e10⟩, ⟨e22, hb, e14, hhb, e2, e16⟩, hs, ⟨hP1, hP2, hP3⟩, hF⟩ := hR
  obtain ⟨hsk, hbm⟩ := skp_bc hh hw
  have hm := m_le (wb := wb) hb
  generalize (if wb < b then b - 1 else b) = m at *
  generalize (if wb < h then h - 1 else h) = bc at *
  obtain ⟨hpt, hpn⟩ := hP1 bc hbm
  rw [hsk] at hpt hpn
  obtain ⟨ht0, ht⟩ := hP2 h hh
  have hSn := Sc_hr hS
  have g : ∀ i, i ≠ 14 → i ≠ 27 → hr0 (μ 1) i = μ 1 i := fun i a b => hr0_o a b
  have hNn : Num (hr0 (μ 1)) := Num_e hN (fun i hi => g i (by omega) (by omega)) (g _ (by decide) (by decide)) (g _ (by decide) (by decide)) (g _ (by decide) (by decide))
  have d2 : μ 1 11 = sc 15 2 := hS.2.1.2.2.1
  have hhl : hlc sc = hlf (μ 1) := by
    have a1 : μ 1 1 = sc 1 1 := hS.1.2.1
    have d1 : μ 1 10 = sc 15 1 := hS.2.1.2.1
    unfold hlc
    rw [← a1, ← d1]
    exact (nm_half hN).2.2
  have hlr : hlf (hr0 (μ 1)) = hlf (μ 1) := hlf_eq (g _ (by decide) (by decide)) (g _ (by decide) (by decide))
  have gT : hr0 (μ 1) (32 + 6 * h) = μ 1 (32 + 6 * h) := g _ (by omega) (by omega)
  have gU : hr0 (μ 1) (33 + 6 * h) = μ 1 (33 + 6 * h) := g _ (by omega) (by omega)
  have g11 : hr0 (μ 1) 11 = μ 1 11 := g _ (by decide) (by decide)
  have g12 : u2 μ 1 (hr0 (μ 1)) 1 12 = nI n := by rw [u2_at, g _ (by decide) (by decide), e12]
  have c10 : hc0 sc 10 4 = nI n := by rw [hc0_o (by decide), e10]
  have c22 : hc0 sc 2 2 = nI m := by rw [hc0_o (by decide), e2]
  have c4 : hc0 sc 4 bc = hr0 (μ 1) (33 + 6 * h) := by rw [hc0_o (by decide), gU, hpn]
  have hvr : Nov (hr0 (μ 1)) ((4 : Int32) * μ 1 (32 + 6 * h)) := by
    unfold Nov at hv ⊢
    rw [g11, hlr]; exact hv
  rw [e16, cs_hear, ms_hear (by omega) e14 hl, cs_timeOf (σ := fun j => sc (2 + j)) (b := bc) (m := m) e2 hbm hm]
  rw [show sc (2 + 1) bc = μ 1 (32 + 6 * h) from hpt, ← d2, hhl]
  by_cases c : μ 1 11 = -6
  · rw [if_pos c, if_neg (fun hc => ((nm_neg hN).2.mp hc) c)]
    rw [cs_strike c22 hbm hm hn c10, ms_begin (by omega) hn g12, u2_at, u2_at]
    exact h_begin hSn hNn (by rw [g11]; exact c) c10 (by omega) (by rw [gT]) c4 (by rw [gT]; exact ht0) (by rw [gT]; exact ht)
  · rw [if_neg c, if_pos ((nm_neg hN).2.mpr c)]
    by_cases c2 : -(hlf (μ 1)) ≤ (4 : Int32) * μ 1 (32 + 6 * h) - μ 1 11
    · rw [if_pos c2, if_pos c2, cs_take c22 hbm hm hn c10, ms_take (by omega) hn g12, u2_at]
      have hH := h_take (σ := hc0 sc) (ν := u2 μ 1 (hr0 (μ 1))) (bc := bc) (bm := h) (n := n) (by rw [u2_at]; exact hSn) (by rw [u2_at]; exact hNn) (by rw [u2_at, g11]; exact c) c10 (by omega) (by rw [u2_at]; exact c4) (by rw [u2_at, gT]; exact ht0) (by rw [u2_at, gT]; exact ht) (by rw [u2_at, gT, g11, hlr]; exact c2) (by rw [u2_at, gT]; exact hvr)
      rw [u2_at, gT, g11] at hH
      have e12j : P_X10_judge (u2 (u2 μ 1 (hr0 (μ 1))) 1 (tkn (hr0 (μ 1)) h n ((4 : Int32) * μ 1 (32 + 6 * h) - μ 1 11))) (tkg (hr0 (μ 1)) ((4 : Int32) * μ 1 (32 + 6 * h) - μ 1 11)) 1 1 12 = nI (n + 1) := by
        rw [f_judge10i (by decide) (by decide) (by decide) (by decide) (by decide), u2_at, tkn_12]
      rw [ms_endBlow hn e12j, u2_at]
      exact hH
    · rw [if_neg c2, if_neg c2, cs_pass (by omega)]
      have hH := h_pass (σ := hc0 sc) (ν := u2 μ 1 (hr0 (μ 1))) (bc := bc) (bm := h) (n := n) (by rw [u2_at]; exact hSn) (by rw [u2_at]; exact hNn) (by rw [u2_at, g11]; exact c) g12 c10 (by omega) (by rw [u2_at, gT]; exact ht0) (by rw [u2_at, gT]; exact ht) (by rw [u2_at, gT, g11, hlr]; exact c2)
      rw [u2_at, gT, g11, u2_same] at hH
      exact hH
-- a held blow
theorem f_silent7 {sc : T2} {j : Nat} (h15 : j ≠ 15) (h16 : j ≠ 16) : P_X7_fallSilent sc j = sc j := by
  simp only [P_X7_fallSilent, P_X7_fallSilent_b0, P_X7_fallSilent_b27, P_X7_loseLock, P_X7_loseLock_b0]
  split <;> simp [u2, h15, h16]
theorem f_silent7h {sc : T2} : P_X7_fallSilent sc 16 0 = sc 16 0 := by
  simp only [P_X7_fallSilent, P_X7_fallSilent_b0, P_X7_fallSilent_b27, P_X7_loseLock, P_X7_loseLock_b0]
  split <;> simp [u2, upd]
theorem cs_hold69 {σ : T2} {v : Int32} {n : Nat} (hn : n < 1048576) (e : σ 10 4 = nI n) : ∃ τ : T2, P_X7_holdBlow_b69 σ v = app τ n v (-6) ∧ (∀ j, j ≠ 15 → j ≠ 16 → τ j = σ j) ∧ τ 16 0 = σ 16 0 := by
  unfold P_X7_holdBlow_b69 P_X7_holdBlow_b74c P_X7_holdBlow_b95
  by_cases c : P_X7_judge σ 0 15 5 < P_X7_judge σ 0 1 7
  · rw [if_pos c]
    refine ⟨P_X7_judge σ 0, cs_append hn ?_, fun j a b => f_judge7 a b, f_judge7h⟩
    rw [f_judge7 (by decide) (by decide), e]
  · rw [if_neg c]
    refine ⟨P_X7_fallSilent (P_X7_judge σ 0), cs_append hn ?_, fun j a b => ?_, ?_⟩
    · rw [f_silent7 (by decide) (by decide), f_judge7 (by decide) (by decide), e]
    · rw [f_silent7 a b, f_judge7 a b]
    · rw [f_silent7h, f_judge7h]
theorem cs_hold {sc : T2} {n : Nat} (hn : n < 1048576) (e : sc 10 4 = nI n) : ∃ τ : T2, P_X7_holdBlow sc = app τ n (sc 15 2) (-6) ∧ (∀ j, j ≠ 15 → j ≠ 16 → τ j = sc j) ∧ τ 16 0 = sc 16 0 := by
  unfold P_X7_holdBlow P_X7_holdBlow_b0
  split
  · obtain ⟨τ, h1, h2, h3⟩ := cs_hold69 (σ := u2 (u2 (u2 sc 15 (upd (upd (sc 15) 2 ((sc 15 2) + (sc 15 1))) 5 ((sc 15 5) + (1 : Int32)))) 16 (upd (sc 16) 2 ((sc 16 2) + (1 : Int32)))) 15 (upd (upd (upd (sc 15) 2 ((sc 15 2) + (sc 15 1))) 5 ((sc 15 5) + (1 : Int32))) 0 (2 : Int32))) (v := sc 15 2) hn (by rw [u2_ne (by decide), u2_ne (by decide), u2_ne (by decide), e])
    refine ⟨τ, h1, fun j a b => ?_, ?_⟩
    · rw [h2 j a b, u2_ne a, u2_ne b, u2_ne a]
    · rw [h3, u2_ne (by decide), u2_at, pk_un (by decide)]
  · obtain ⟨τ, h1, h2, h3⟩ := cs_hold69 (σ := u2 (u2 sc 15 (upd (upd (sc 15) 2 ((sc 15 2) + (sc 15 1))) 5 ((sc 15 5) + (1 : Int32)))) 16 (upd (sc 16) 2 ((sc 16 2) + (1 : Int32)))) (v := sc 15 2) hn (by rw [u2_ne (by decide), u2_ne (by decide), e])
    refine ⟨τ, h1, fun j a b => ?_, ?_⟩
    · rw [h2 j a b, u2_ne b, u2_ne a]
    · rw [h3, u2_at, pk_un (by decide)]
theorem ms_hold88 {ν : T2} {n : Nat} (hn : n < 1048576) (e : ν 1 12 = nI (n + 1)) : ∃ g : T1, P_X10_holdOn_b88c ν = u2 ν 1 (enb g n) ∧ (∀ i, i < 9 ∨ i = 10 ∨ (12 ≤ i ∧ i < 17) ∨ i = 18 ∨ i = 22 ∨ 24 ≤ i → g i = ν 1 i) ∧ ((g 11 = -6 ∧ g 21 = 0) ∨ (g 11 = ν 1 11 ∧ g 21 = ν 1 21 ∧ ν 1 21 < ν 1 7)) := by
  unfold P_X10_holdOn_b88c
  by_cases c1 : ν 1 21 < ν 1 7
  · rw [if_pos c1]
    unfold P_X10_holdOn_b182
    rw [ms_endBlow hn e]
    exact ⟨ν 1, rfl, fun _ _ => rfl, Or.inr ⟨rfl, rfl, c1⟩⟩
  · rw [if_neg c1]
    have h139 : ∀ t0 t1 : Int32, ∃ g : T1, P_X10_holdOn_b139 (u2 ν 1 (upd (ν 1) 23 (ν 1 23 + 1))) t0 t1 = u2 ν 1 (enb g n) ∧ (∀ i, i < 9 ∨ i = 10 ∨ (12 ≤ i ∧ i < 17) ∨ i = 18 ∨ i = 22 ∨ 24 ≤ i → g i = ν 1 i) ∧ ((g 11 = -6 ∧ g 21 = 0) ∨ (g 11 = ν 1 11 ∧ g 21 = ν 1 21 ∧ ν 1 21 < ν 1 7)) := fun t0 t1 => by
      unfold P_X10_holdOn_b139 P_X10_holdOn_b182
      simp only [u2_at, u2_same]
      rw [ms_endBlow (n := n) hn (by rw [u2_at, pk_un (by decide), pk_un (by decide), pk_un (by decide), pk_un (by decide), pk_un (by decide), pk_un (by decide), pk_un (by decide), e])]
      simp only [u2_at, u2_same]
      refine ⟨_, rfl, fun i hi => ?_, Or.inl ⟨?_, ?_⟩⟩
      · rw [pk_un (by omega), pk_un (by omega), pk_un (by omega), pk_un (by omega), pk_un (by omega), pk_un (by omega), pk_un (by omega)]
      · rw [pk_us]
      · rw [pk_un (by decide), pk_us]
    by_cases c2 : ν 1 9 = 0
    · rw [if_pos c2]; exact h139 _ _
    · rw [if_neg c2]; exact h139 _ _
theorem ms_hold {μ : T2} {n : Nat} (hn : n < 1048576) (e : μ 1 12 = nI n) : ∃ g : T1, P_X10_holdOn μ = u2 μ 1 (enb g n) ∧ (∀ i, i < 9 ∨ i = 10 ∨ i = 12 ∨ i = 14 ∨ i = 15 ∨ i = 18 ∨ i = 22 ∨ 24 ≤ i → g i = stk (μ 1) n (μ 1 11) (-6) i) ∧ ((g 11 = -6 ∧ g 21 = 0) ∨ (g 11 = μ 1 11 + μ 1 10 ∧ g 21 = μ 1 21 + 1 ∧ μ 1 21 + 1 < μ 1 7)) := by
  unfold P_X10_holdOn P_X10_holdOn_b0
  rw [ms_strike hn e]
  dsimp only
  unfold P_X10_holdOn_b13c P_X10_holdOn_b81
  simp only [u2_at, u2_same]
  have s0 : ∀ i, i < 28 → i ≠ 12 → stk (μ 1) n (μ 1 11) (-6) i = μ 1 i := fun i hi h => stk_o (by omega) h
  have hst : ∀ t : Int32, ∃ g : T1, P_X10_holdOn_b88c (P_X10_judge (u2 μ 1 (upd (upd (upd (upd (stk (μ 1) n (μ 1 11) (-6)) 11 (stk (μ 1) n (μ 1 11) (-6) 11 + stk (μ 1) n (μ 1 11) (-6) 10)) 13 (stk (μ 1) n (μ 1 11) (-6) 13 + 1)) 21 (stk (μ 1) n (μ 1 11) (-6) 21 + 1)) 9 t)) 0 0) = u2 μ 1 (enb g n) ∧ (∀ i, i < 9 ∨ i = 10 ∨ i = 12 ∨ i = 14 ∨ i = 15 ∨ i = 18 ∨ i = 22 ∨ 24 ≤ i → g i = stk (μ 1) n (μ 1 11) (-6) i) ∧ ((g 11 = -6 ∧ g 21 = 0) ∨ (g 11 = μ 1 11 + μ 1 10 ∧ g 21 = μ 1 21 + 1 ∧ μ 1 21 + 1 < μ 1 7)) := fun t => by
    rw [s0 11 (by decide) (by decide), s0 10 (by decide) (by decide), s0 13 (by decide) (by decide), s0 21 (by decide) (by decide)]
    generalize hψ : upd (upd (upd (upd (stk (μ 1) n (μ 1 11) (-6)) 11 (μ 1 11 + μ 1 10)) 13 (μ 1 13 + 1)) 21 (μ 1 21 + 1)) 9 t = ψ
    have p : ∀ i, i ≠ 9 → i ≠ 11 → i ≠ 13 → i ≠ 21 → ψ i = stk (μ 1) n (μ 1 11) (-6) i := fun i a b c d => by
      rw [← hψ, pk_un a, pk_un d, pk_un c, pk_un b]
    have p11 : ψ 11 = μ 1 11 + μ 1 10 := by rw [← hψ, pk_un (by decide), pk_un (by decide), pk_un (by decide), pk_us]
    have p21 : ψ 21 = μ 1 21 + 1 := by rw [← hψ, pk_un (by decide), pk_us]
    have hj1 : ∀ i, i ≠ 9 → i ≠ 16 → i ≠ 17 → i ≠ 19 → i ≠ 20 → P_X10_judge (u2 μ 1 ψ) 0 0 1 i = ψ i := fun i a b c d e => by
      rw [f_judge10i a b c d e, u2_at]
    have hj0 : ∀ f : T1, u2 (P_X10_judge (u2 μ 1 ψ) 0 0) 1 f = u2 μ 1 f := fun f => by
      funext j
      by_cases c : j = 1
      · subst c; rw [u2_at, u2_at]
      · rw [u2_ne c, u2_ne c, f_judge10 c, u2_ne c]
    obtain ⟨g, h1, h2, h3⟩ := ms_hold88 (ν := P_X10_judge (u2 μ 1 ψ) 0 0) hn (by rw [hj1 12 (by decide) (by decide) (by decide) (by decide) (by decide), p 12 (by decide) (by decide) (by decide) (by decide), stk_12])
    refine ⟨g, ?_, fun i hi => ?_, ?_⟩
    · rw [h1, hj0]
    · rw [h2 i (by omega), hj1 i (by omega) (by omega) (by omega) (by omega) (by omega), p i (by omega) (by omega) (by omega) (by omega)]
    · rw [hj1 11 (by decide) (by decide) (by decide) (by decide) (by decide), hj1 21 (by decide) (by decide) (by decide) (by decide) (by decide), hj1 7 (by decide) (by decide) (by decide) (by decide) (by decide), p11, p21, p 7 (by decide) (by decide) (by decide) (by decide), s0 7 (by decide) (by decide)] at h3
      exact h3
  split
  · exact hst _
  · exact hst _
theorem f_hold10 {μ : T2} {n j : Nat} (hn : n < 1048576) (e : μ 1 12 = nI n) (hj : j ≠ 1) : P_X10_holdOn μ j = μ j := by
  obtain ⟨g, h1, -⟩ := ms_hold hn e
  rw [h1, u2_ne hj]
def Cr (n : Nat) (sc : T2) (f : T1) : Prop := Sc sc f ∧ Num f ∧ (f 12 = nI n ∧ sc 10 4 = nI n)
theorem RS_Cr {wb h n b : Nat} {sc : T2} {f : T1} (hR : RS wb h n b sc f) : Cr n sc f := ⟨hR.1, hR.2.1, hR.2.2.1⟩
theorem Cr_hold {n : Nat} {sc μ : T2} (hR : Cr n sc (μ 1)) (h11 : ¬ μ 1 11 = -6) (hb : (μ 1 11).toInt ≤ 520000) (hn : n < 1048576) : Cr (n + 1) (P_X7_holdBlow sc) (P_X10_holdOn μ 1) ∧ hlN (P_X10_holdOn μ 1) + 1 ≤ hlN (μ 1) ∧ (∀ i, i = 8 ∨ i = 14 ∨ i = 18 ∨ i = 22 ∨ (28 ≤ i ∧ i < 416) → P_X10_holdOn μ 1 i = μ 1 i) ∧ (∀ j, j < 10 → P_X7_holdBlow sc j = sc j) ∧ P_X7_holdBlow sc 16 0 = sc 16 0 ∧ (Bl n sc (μ 1) → Bl (n + 1) (P_X7_holdBlow sc) (P_X10_holdOn μ 1)) := by
  obtain ⟨hS, hN, e12, e10⟩ := hR
  have hSc := r_hold hS hn e12
  obtain ⟨g, h1, h2, h3⟩ := ms_hold hn e12
  obtain ⟨τ, y1, y2, y3⟩ := cs_hold hn e10
  rw [h1, u2_at, y1] at hSc ⊢
  have s0 : ∀ i, i < 416 → i ≠ 12 → stk (μ 1) n (μ 1 11) (-6) i = μ 1 i := fun i hi h => stk_o hi h
  have hE : ∀ i, i < 416 → enb g n i = g i := fun i hi => enb_o (by omega) (by omega)
  obtain ⟨hN', hh⟩ := nm_hold (n := n) hN h11 hb (fun i hi => by rw [h2 i (by omega), s0 i (by omega) (by omega)]) (by rw [h2 10 (by omega), s0 10 (by decide) (by decide)]) h3
  refine ⟨⟨hSc, hN', ?_, app_4⟩, hh, fun i hi => ?_, fun j hj => ?_, ?_, fun hB => ?_⟩
  · rw [hE 12 (by decide), h2 12 (by omega), stk_12]
  · rw [hE i (by omega), h2 i (by omega), s0 i (by omega) (by omega)]
  · rw [app_o (by omega), y2 j (by omega) (by omega)]
  · rw [app_o (by decide), y3]
  · refine bl_step hB (fun j a b => y2 j (by omega) (by omega)) (fun i hi => ?_) ?_ ?_
    · rw [h2 i (by omega), show μ 1 11 = sc 15 2 from hS.2.1.2.2.1]
    · have := hSc.2.1.2.1
      rw [hE 10 (by decide), app_o (by decide)] at this
      exact this
    · have := hSc.2.1.1
      rw [hE 9 (by decide), app_o (by decide)] at this
      exact this
theorem RS_hold {wb h n b : Nat} {sc μ : T2} (hR : RS wb h n b sc (μ 1)) (h11 : ¬ μ 1 11 = -6) (hb : (μ 1 11).toInt ≤ 520000) (hn : n < 1048576) : RS wb h (n + 1) b (P_X7_holdBlow sc) (P_X10_holdOn μ 1) := by
  obtain ⟨⟨k1, k2, k3⟩, -, kf, kc, kh, kB⟩ := Cr_hold (RS_Cr hR) h11 hb hn
  obtain ⟨hS, hN, ⟨e12, e10⟩, ⟨e22, hb6, e14, hhb, e2, e16⟩, hs, hP, hF⟩ := hR
  refine ⟨k1, k2, k3, ⟨?_, hb6, ?_, hhb, ?_, ?_⟩, ?_, ?_, fun h64 => ⟨?_, kB (hF h64).2⟩⟩
  · rw [kf 22 (by omega), e22]
  · rw [kf 14 (by omega), e14]
  · rw [kc 2 (by decide), e2]
  · rw [kh, e16]
  · rw [kf 18 (by omega)]; exact hs
  · exact Pl_c hb6 hP (kc 3 (by decide)) (kc 4 (by decide)) (fun i hi => ⟨kf _ (by omega), kf _ (by omega)⟩)
  · obtain ⟨f1, f2⟩ := (hF h64).1
    refine ⟨fun i hi => ?_, fun i hi hi2 => ?_⟩
    · rw [kc 6 (by decide), kc 7 (by decide), kc 8 (by decide), kc 9 (by decide), kf _ (by omega), kf _ (by omega), kf _ (by omega), kf _ (by omega)]
      exact f1 i hi
    · rw [kf _ (by omega), kf _ (by omega)]
      exact f2 i hi hi2
end ST1
