/-! whole runs on both sides -/
section SM1
theorem fu20 : 20 < FU := by rw [FU_eq]; decide
theorem lt4 {a b : Int32} (ha : 0 ≤ a.toInt) (ha2 : a.toInt ≤ 500000000) (hb : 0 ≤ b.toInt) (hb2 : b.toInt ≤ 500000000) : (4 : Int32) * a < (4 : Int32) * b ↔ a < b := by
  rw [ia_lt, ia_lt, ia_mul4 ha ha2, ia_mul4 hb hb2]
  omega
theorem rs_T1 {wb h n b : Nat} {sc : T2} {f : T1} (hR : RS wb h n b sc f) (hh : h < b) (hw : h ≠ wb) : ¬ sc 2 2 ≤ sc 16 0 ∧ P_X5_timeOf (fun j => sc (2 + j)) (sc 16 0) = f (32 + 6 * h) := by
  obtain ⟨hS, hN, -, ⟨e22, hb, e14, hhb, e2, e16⟩, hs, ⟨hP1, hP2, hP3⟩, hF⟩ := hR
  obtain ⟨hsk, hbm⟩ := skp_bc hh hw
  have hm := m_le (wb := wb) hb
  have hp := (hP1 _ hbm).1
  rw [hsk] at hp
  rw [e2, e16]
  refine ⟨nI_ge hbm (by omega), ?_⟩
  rw [cs_timeOf (σ := fun j => sc (2 + j)) e2 hbm hm]
  exact hp
theorem rs_T0 {wb n b : Nat} {sc : T2} {f : T1} (hR : RS wb b n b sc f) : sc 2 2 ≤ sc 16 0 := by
  obtain ⟨hS, hN, -, ⟨e22, hb, e14, hhb, e2, e16⟩, hs, hP, hF⟩ := hR
  have hm := m_le (wb := wb) hb
  rw [e2, e16]
  exact nI_le (Nat.le_refl _) (by omega)
def RT (wb h n b : Nat) (tm : Nat → Int32) (sc : T2) (f : T1) : Prop := RS wb h n b sc f ∧ ∀ i, i < 64 → f (32 + 6 * i) = tm i
theorem hp_RT {wb h b : Nat} {tm : Nat → Int32} {q until_ T : Int32} (hq : (4 : Int32) * (if until_ < T then until_ else T) = q) (hq2 : q.toInt ≤ 520000) (hTT : (h = b ∧ T = 1000000) ∨ (h < b ∧ h ≠ wb ∧ tm h = T)) {fc k n : Nat} {sc μ : T2} (hfc : 20 < fc) (hk : k + 20 < 2000) (hn : n + 20 < 1048576) (hR : RT wb h n b tm sc (μ 1)) :
    S_X10_holdUpTo μ q ∧ ∃ j sc', j ≤ 20 ∧ RT wb h (n + j) b tm sc' (P_X10_holdUpTo μ q 1) ∧ (∀ i, i ≠ 1 → P_X10_holdUpTo μ q i = μ i) ∧ Nov (P_X10_holdUpTo μ q 1) q ∧ P_X10_holdUpTo μ q 1 8 = μ 1 8 ∧ P_X7_runTo_b2 fc sc until_ (nI k) = P_X7_runTo_b2 (fc - j) sc' until_ (nI (k + j)) ∧ (S_X7_runTo_b2 (fc - j) sc' until_ (nI (k + j)) → S_X7_runTo_b2 fc sc until_ (nI k)) := by
  refine hold_phase (fun n sc f => RT wb h n b tm sc f) q until_ T hq hq2 (fun n sc f hR => RS_Cr hR.1) (fun n sc μ hR h11 hb hn => ⟨RS_hold hR.1 h11 hb hn, fun i hi => ?_⟩) (fun n sc f hR => ?_) 20 FU fc k n sc μ (nm_hl20 _) fu20 hfc hk hn hR
  · obtain ⟨-, -, kf, -⟩ := Cr_hold (RS_Cr hR.1) h11 hb hn
    rw [kf _ (by omega)]
    exact hR.2 i hi
  · rcases hTT with ⟨c1, c2⟩ | ⟨c1, c2, c3⟩
    · subst c1
      exact Or.inl ⟨rs_T0 hR.1, c2⟩
    · obtain ⟨t1, t2⟩ := rs_T1 hR.1 c1 c2
      have hb := hR.1.2.2.2.1.2.1
      rw [hR.2 h (by omega), c3] at t2
      exact Or.inr ⟨t1, t2⟩
theorem rt_T {wb h n b : Nat} {tm : Nat → Int32} {sc : T2} {f : T1} {T : Int32} (hR : RT wb h n b tm sc f) (hTT : (h = b ∧ T = 1000000) ∨ (h < b ∧ h ≠ wb ∧ tm h = T)) : (sc 2 2 ≤ sc 16 0 ∧ T = 1000000) ∨ (¬ sc 2 2 ≤ sc 16 0 ∧ P_X5_timeOf (fun j => sc (2 + j)) (sc 16 0) = T) := by
  rcases hTT with ⟨c1, c2⟩ | ⟨c1, c2, c3⟩
  · subst c1
    exact Or.inl ⟨rs_T0 hR.1, c2⟩
  · obtain ⟨t1, t2⟩ := rs_T1 hR.1 c1 c2
    have hb := hR.1.2.2.2.1.2.1
    rw [hR.2 h (by omega), c3] at t2
    exact Or.inr ⟨t1, t2⟩
theorem rt_t {wb h n b : Nat} {tm : Nat → Int32} {sc : T2} {f : T1} (hR : RT wb h n b tm sc f) (hh : h < b) : 0 ≤ (tm h).toInt ∧ (tm h).toInt ≤ 100000 := by
  have hb := hR.1.2.2.2.1.2.1
  have hP := hR.1.2.2.2.2.2.1.2.1 h hh
  rw [hR.2 h (by omega)] at hP
  exact hP
/-- the end of a run: what is still held, then nothing more -/
theorem tail_sim {h b : Nat} {tm : Nat → Int32} {until_ : Int32} (hu0 : 0 ≤ until_.toInt) (hu : until_.toInt ≤ 130000) {fc k n : Nat} {sc μ : T2} (hfc : 20 < fc) (hk : k + 20 < 2000) (hn : n + 20 < 1048576) (hR : RT 64 h n b tm sc (μ 1)) (hh : h = b ∨ (h < b ∧ until_ < tm h)) :
    S_X10_holdUpTo μ ((4 : Int32) * until_) ∧ S_X7_runTo_b2 fc sc until_ (nI k) ∧ ∃ n' sc', n' ≤ n + 20 ∧ P_X7_runTo_b2 fc sc until_ (nI k) = u2 sc' 0 (upd (sc' 0) 6 until_) ∧ RT 64 h n' b tm sc' (P_X10_holdUpTo μ ((4 : Int32) * until_) 1) ∧ (∀ i, i ≠ 1 → P_X10_holdUpTo μ ((4 : Int32) * until_) i = μ i) ∧ P_X10_holdUpTo μ ((4 : Int32) * until_) 1 8 = μ 1 8 := by
  have hb := hR.1.2.2.2.1.2.1
  have hT : ∃ T : Int32, until_ < T ∧ ((h = b ∧ T = 1000000) ∨ (h < b ∧ h ≠ 64 ∧ tm h = T)) := by
    rcases hh with c | ⟨c1, c2⟩
    · exact ⟨1000000, by rw [ia_lt, ia_NV]; omega, Or.inl ⟨c, rfl⟩⟩
    · exact ⟨tm h, c2, Or.inr ⟨c1, by omega, rfl⟩⟩
  obtain ⟨T, hlt, hTT⟩ := hT
  have hq : (4 : Int32) * (if until_ < T then until_ else T) = (4 : Int32) * until_ := by rw [if_pos hlt]
  have hq2 : ((4 : Int32) * until_).toInt ≤ 520000 := by rw [ia_mul4 hu0 (by omega)]; omega
  obtain ⟨p1, j, sc', p2, p3, p4, p5, p8, p6, p7⟩ := hp_RT hq hq2 hTT hfc hk hn hR
  obtain ⟨c, hc⟩ : ∃ c, fc - j = c + 1 := ⟨fc - j - 1, by omega⟩
  rw [hc] at p6 p7
  obtain ⟨r1, r2⟩ := run_step (c := c) (until_ := until_) (by omega : k + j < 2000) (rt_T p3 hTT)
  obtain ⟨r3, r4⟩ := run_end (k := k + j) (pk := P_X7_runTo_b2 c) (sk := S_X7_runTo_b2 c) (RS_Cr p3.1) hq p5 hlt
  exact ⟨p1, p7 (r2 r4), n + j, sc', by omega, by rw [p6, r1, r3], p3, p4, p8⟩
theorem hap_sim (b : Nat) (tm : Nat → Int32) (until_ : Int32) (hu0 : 0 ≤ until_.toInt) (hu : until_.toInt ≤ 130000) : ∀ (d fm fc k n h : Nat) (sc μ : T2), h + d = b → d < fm → 21 * d + 20 < fc → k + (21 * d + 20) < 2000 → n + (21 * d + 20) < 1048576 → RT 64 h n b tm sc (μ 1) → μ 0 7 = -6 →
    S_X10_happenUpTo_b0 fm μ ((4 : Int32) * until_) ∧ S_X7_runTo_b2 fc sc until_ (nI k) ∧ ∃ h' n' sc', n' ≤ n + (21 * d + 20) ∧ P_X7_runTo_b2 fc sc until_ (nI k) = u2 sc' 0 (upd (sc' 0) 6 until_) ∧ RT 64 h' n' b tm sc' (P_X10_happenUpTo_b0 fm μ ((4 : Int32) * until_) 1) ∧ (∀ i, i ≠ 1 → P_X10_happenUpTo_b0 fm μ ((4 : Int32) * until_) i = μ i) ∧ P_X10_happenUpTo_b0 fm μ ((4 : Int32) * until_) 1 8 = μ 1 8 := by
  intro d
  induction d with
  | zero =>
    intro fm fc k n h sc μ hd hfm hfc hk hn hR hlo
    obtain ⟨m, rfl⟩ : ∃ m, fm = m + 1 := ⟨fm - 1, by omega⟩
    have hb := hR.1.2.2.2.1.2.1
    have c1 : μ 1 22 ≤ μ 1 14 := by
      rw [hR.1.2.2.2.1.1, hR.1.2.2.2.1.2.2.1]
      exact nI_le (by omega) (by omega)
    rw [P_X10_happenUpTo_b0_e, S_X10_happenUpTo_b0_e, if_pos c1]
    obtain ⟨t1, t2, n', sc', t3, t4, t5, t6, t8⟩ := tail_sim hu0 hu (by omega) (by omega) (by omega) hR (Or.inl (by omega))
    exact ⟨⟨fun _ => ⟨t1, trivial⟩, fun h => absurd c1 h⟩, t2, h, n', sc', by omega, t4, t5, t6, t8⟩
  | succ d ih =>
    intro fm fc k n h sc μ hd hfm hfc hk hn hR hlo
    obtain ⟨m, rfl⟩ : ∃ m, fm = m + 1 := ⟨fm - 1, by omega⟩
    have hb := hR.1.2.2.2.1.2.1
    have e14 := hR.1.2.2.2.1.2.2.1
    have c1 : ¬ μ 1 22 ≤ μ 1 14 := by
      rw [hR.1.2.2.2.1.1, e14]
      exact nI_ge (by omega) (by omega)
    have hof : P_X10_ofB μ (μ 1 14) 0 = tm h := by
      rw [e14, ms_ofB (ki := 0) (k := 0) rfl (by omega) (by decide)]
      exact hR.2 h (by omega)
    have hofs : S_X10_ofB μ (μ 1 14) 0 := by
      rw [e14]
      exact ms_ofBs (ki := 0) (k := 0) rfl (by omega) (by decide)
    obtain ⟨ht0, ht1⟩ := rt_t hR (by omega : h < b)
    rw [P_X10_happenUpTo_b0_e, S_X10_happenUpTo_b0_e, if_neg c1, hof]
    by_cases c2 : until_ < tm h
    · have c3 : (4 : Int32) * until_ < (4 : Int32) * tm h := (lt4 hu0 (by omega) ht0 (by omega)).mpr c2
      rw [if_pos c3]
      obtain ⟨t1, t2, n', sc', t3, t4, t5, t6, t8⟩ := tail_sim hu0 hu (fc := fc) (k := k) (by omega) (by omega) (by omega) hR (Or.inr ⟨by omega, c2⟩)
      exact ⟨⟨fun h => absurd h c1, fun _ => ⟨hofs, fun _ => ⟨t1, trivial⟩, fun h => absurd c3 h⟩⟩, t2, h, n', sc', by omega, t4, t5, t6, t8⟩
    · have c3 : ¬ (4 : Int32) * until_ < (4 : Int32) * tm h := fun hc => c2 ((lt4 hu0 (by omega) ht0 (by omega)).mp hc)
      have c4 : ¬ μ 1 14 = μ 0 7 := by
        rw [e14, hlo, ia_eq, nI_toInt (by omega), ia_m6]; omega
      rw [if_neg c3, if_neg c4]
      have hTT : (h = b ∧ tm h = 1000000) ∨ (h < b ∧ h ≠ 64 ∧ tm h = tm h) := Or.inr ⟨by omega, by omega, rfl⟩
      have hq : (4 : Int32) * (if until_ < tm h then until_ else tm h) = (4 : Int32) * tm h := by rw [if_neg c2]
      have hq2 : ((4 : Int32) * tm h).toInt ≤ 520000 := by rw [ia_mul4 ht0 (by omega)]; omega
      obtain ⟨p1, j, sc', p2, p3, p4, p5, p8, p6, p7⟩ := hp_RT (fc := fc) (k := k) hq hq2 hTT (by omega) (by omega) (by omega) hR
      obtain ⟨c, hc⟩ : ∃ c, fc - j = c + 1 := ⟨fc - j - 1, by omega⟩
      rw [hc] at p6 p7
      obtain ⟨r1, r2⟩ := run_step (c := c) (until_ := until_) (by omega : k + j < 2000) (rt_T p3 hTT)
      obtain ⟨r3, r4⟩ := run_hear (k := k + j) (pk := P_X7_runTo_b2 c) (sk := S_X7_runTo_b2 c) (RS_Cr p3.1) hq p5 c2
      have e14' := p3.1.2.2.2.1.2.2.1
      have hl' : ¬ P_X10_holdUpTo μ ((4 : Int32) * tm h) 1 14 = P_X10_holdUpTo μ ((4 : Int32) * tm h) 0 7 := by
        rw [e14', p4 0 (by decide), ← e14]; exact c4
      have htm' := p3.2 h (by omega)
      obtain ⟨n', q1, q2, q3, q4, q5, q6, q7⟩ := RS_hear p3.1 (by omega) (by omega) hl' (by omega) (by rw [htm']; exact p5)
      have hR' : RT 64 (h + 1) n' b tm (P_X7_hearBeat sc' (sc' 16 0)) (P_X10_hear (P_X10_holdUpTo μ ((4 : Int32) * tm h)) 1) := ⟨q3, fun i hi => by rw [q7 i hi]; exact p3.2 i hi⟩
      have hfr : ∀ i, i ≠ 1 → P_X10_hear (P_X10_holdUpTo μ ((4 : Int32) * tm h)) i = μ i := fun i hi => by
        rw [f_hear10 (b := h) (n := n + j) (by omega) (by omega) e14' p3.1.2.2.1.1 hi, p4 i hi]
      obtain ⟨i1, i2, h', n'', sc'', i3, i4, i5, i6, i8⟩ := ih m c (k + j + 1) n' (h + 1) (P_X7_hearBeat sc' (sc' 16 0)) (P_X10_hear (P_X10_holdUpTo μ ((4 : Int32) * tm h))) (by omega) (by omega) (by omega) (by omega) (by omega) hR' (by rw [hfr 0 (by decide)]; exact hlo)
      refine ⟨⟨fun h => absurd h c1, fun _ => ⟨hofs, fun h => absurd h c3, fun _ => ⟨fun h => absurd h c4, fun _ => ⟨hofs, p1, ms_hears (b := h) (n := n + j) (by omega) (by omega) e14' p3.1.2.2.1.1, i1⟩⟩⟩⟩, p7 (r2 (r4 i2)), h', n'', sc'', by omega, ?_, i5, fun i hi => ?_, ?_⟩
      · rw [p6, r1, r3]; exact i4
      · rw [show P_X10_happenUpTo_b69 (P_X10_happenUpTo_b0 m) μ ((4 : Int32) * until_) ((4 : Int32) * tm h) = P_X10_happenUpTo_b0 m (P_X10_hear (P_X10_holdUpTo μ ((4 : Int32) * tm h))) ((4 : Int32) * until_) from rfl, i6 i hi, hfr i hi]
      · rw [show P_X10_happenUpTo_b69 (P_X10_happenUpTo_b0 m) μ ((4 : Int32) * until_) ((4 : Int32) * tm h) = P_X10_happenUpTo_b0 m (P_X10_hear (P_X10_holdUpTo μ ((4 : Int32) * tm h))) ((4 : Int32) * until_) from rfl, i8, q5, p8]
theorem RS_skip {wb n b : Nat} {sc : T2} {f : T1} (hR : RS wb wb n b sc f) (hw : wb < b) : RS wb (wb + 1) n b sc (upd f 14 (f 14 + 1)) := by
  obtain ⟨hS, hN, ⟨e12, e10⟩, ⟨e22, hb, e14, hhb, e2, e16⟩, hs, hP, hF⟩ := hR
  have g : ∀ i, i ≠ 14 → upd f 14 (f 14 + 1) i = f i := fun i h => pk_un h
  refine ⟨?_, Num_e hN (fun i hi => g i (by omega)) (g _ (by decide)) (g _ (by decide)) (g _ (by decide)), ⟨by rw [g 12 (by decide), e12], e10⟩, ⟨by rw [g 22 (by decide), e22], hb, by rw [pk_us, e14, nI_1], hw, e2, ?_⟩, ?_, Pl_c hb hP rfl rfl (fun i hi => ⟨g _ (by omega), g _ (by omega)⟩), fun h64 => by omega⟩
  · obtain ⟨⟨a0, a1, a2, a3, a4, a5, a6, a7⟩, ⟨d0, d1, d2, d3, d4, d5, d6⟩, ⟨t1, t2, t3, t4, t5, t6, t7, t8, t9⟩⟩ := hS
    simp [Sc, upd, *]
  · rw [if_pos (by omega), e16, if_neg (by omega)]; rfl
  · rw [g 18 (by decide)]; omega
theorem play_sim (wb b : Nat) (tm : Nat → Int32) (until_ lo : Int32) (hu0 : 0 ≤ until_.toInt) (hu : until_.toInt ≤ 130000) (hlo : ∀ i, i < b → (nI i = lo ↔ i = wb)) (hle : ∀ i, i < b → i ≠ wb → ¬ until_ < tm i) (hlast : ∀ i, i < b → i ≠ wb → (∀ j, i < j → j < b → j = wb) → tm i = until_) : ∀ (d fm fc k n h : Nat) (sc μ : T2), h + d = b → d < fm → 21 * d < fc → k + 21 * d < 2000 → n + 21 * d < 1048576 → RT wb h n b tm sc (μ 1) → μ 0 7 = lo → ((∀ j, h ≤ j → j < b → j = wb) → Nov (μ 1) ((4 : Int32) * until_)) →
    S_X10_playAll_b18 fm μ ∧ S_X7_runTo_b2 fc sc until_ (nI k) ∧ ∃ n' sc', n' ≤ n + 21 * d ∧ P_X7_runTo_b2 fc sc until_ (nI k) = u2 sc' 0 (upd (sc' 0) 6 until_) ∧ RT wb b n' b tm sc' (P_X10_playAll_b18 fm μ 1) ∧ (∀ i, i ≠ 1 → P_X10_playAll_b18 fm μ i = μ i) := by
  intro d
  induction d with
  | zero =>
    intro fm fc k n h sc μ hd hfm hfc hk hn hR hl hv
    obtain ⟨m, rfl⟩ : ∃ m, fm = m + 1 := ⟨fm - 1, by omega⟩
    obtain ⟨c, rfl⟩ : ∃ c, fc = c + 1 := ⟨fc - 1, by omega⟩
    obtain rfl : h = b := by omega
    have hb := hR.1.2.2.2.1.2.1
    have c1 : μ 1 22 ≤ μ 1 14 := by
      rw [hR.1.2.2.2.1.1, hR.1.2.2.2.1.2.2.1]
      exact nI_le (by omega) (by omega)
    rw [P_X10_playAll_b18_e, S_X10_playAll_b18_e, if_pos c1]
    have hlt : until_ < 1000000 := by rw [ia_lt, ia_NV]; omega
    obtain ⟨r1, r2⟩ := run_step (c := c) (until_ := until_) (T := 1000000) (by omega : k < 2000) (Or.inl ⟨rs_T0 hR.1, rfl⟩)
    obtain ⟨r3, r4⟩ := run_end (k := k) (pk := P_X7_runTo_b2 c) (sk := S_X7_runTo_b2 c) (T := 1000000) (RS_Cr hR.1) (by rw [if_pos hlt]) (hv (fun j h1 h2 => by omega)) hlt
    exact ⟨⟨fun _ => trivial, fun h => absurd c1 h⟩, r2 r4, n, sc, by omega, by rw [r1, r3], hR, fun _ _ => rfl⟩
  | succ d ih =>
    intro fm fc k n h sc μ hd hfm hfc hk hn hR hl hv
    obtain ⟨m, rfl⟩ : ∃ m, fm = m + 1 := ⟨fm - 1, by omega⟩
    have hb := hR.1.2.2.2.1.2.1
    have e14 := hR.1.2.2.2.1.2.2.1
    have c1 : ¬ μ 1 22 ≤ μ 1 14 := by
      rw [hR.1.2.2.2.1.1, e14]
      exact nI_ge (by omega) (by omega)
    rw [P_X10_playAll_b18_e, S_X10_playAll_b18_e, if_neg c1]
    by_cases cw : h = wb
    · have c4 : μ 1 14 = μ 0 7 := by rw [e14, hl]; exact (hlo h (by omega)).mpr cw
      rw [if_pos c4]
      obtain ⟨m', hm'⟩ : ∃ m', FU = m' + 1 := ⟨FU - 1, by have := fu20; omega⟩
      have hv6 : Nov (μ 1) (-6) := by
        by_cases c : μ 1 11 = -6
        · exact Or.inl c
        · refine Or.inr ?_
          have h1 := (nm_half hR.1.2.1).1
          have h2 : 0 ≤ (μ 1 11).toInt := by
            rcases hR.1.2.1.2.2.1 with cc | cc
            · exact absurd cc c
            · exact cc.1
          rw [ia_m6]; omega
      obtain ⟨s1, s2⟩ := hold_stop (m := m') hR.1.2.1 hv6
      have s1' : P_X10_holdUpTo μ (-6) = μ := by unfold P_X10_holdUpTo; rw [hm']; exact s1
      have s2' : S_X10_holdUpTo μ (-6) := by unfold S_X10_holdUpTo; rw [hm']; exact s2
      have hh : P_X10_hear μ = u2 μ 1 (upd (μ 1) 14 (μ 1 14 + 1)) := by
        unfold P_X10_hear P_X10_hear_b0
        rw [if_pos c4]
      have hhs : S_X10_hear μ := ms_hears (b := h) (n := n) (by omega) (by omega) e14 hR.1.2.2.1.1
      have hR' : RT wb (h + 1) n b tm sc (P_X10_hear μ 1) := by
        rw [hh, u2_at]
        subst cw
        exact ⟨RS_skip hR.1 (by omega), fun i hi => by rw [pk_un (by omega)]; exact hR.2 i hi⟩
      obtain ⟨i1, i2, n'', sc'', i3, i4, i5, i6⟩ := ih m fc k n (h + 1) sc (P_X10_hear μ) (by omega) (by omega) (by omega) (by omega) (by omega) hR' (by rw [hh, u2_ne (by decide)]; exact hl) (fun hj => by
        have h9 := hv (fun j h1 h2 => by
          by_cases c : j = h
          · omega
          · exact hj j (by omega) h2)
        rw [hh, u2_at]
        unfold Nov at h9 ⊢
        rw [pk_un (by decide), hlf_eq (f := μ 1) (pk_un (by decide)) (pk_un (by decide))]
        exact h9)
      have eP : P_X10_playAll_b69 (P_X10_playAll_b18 m) μ (-6) = P_X10_playAll_b18 m (P_X10_hear μ) := by
        show P_X10_playAll_b18 m (P_X10_hear (P_X10_holdUpTo μ (-6))) = _
        rw [s1']
      rw [eP]
      refine ⟨⟨fun h => absurd h c1, fun _ => ⟨fun _ => ⟨s2', ?_⟩, fun h => absurd c4 h⟩⟩, i2, n'', sc'', by omega, i4, i5, fun i hi => ?_⟩
      · rw [s1']; exact ⟨hhs, i1⟩
      · rw [i6 i hi, hh, u2_ne hi]
    · have c4 : ¬ μ 1 14 = μ 0 7 := by
        rw [e14, hl]; exact fun hc => cw ((hlo h (by omega)).mp hc)
      have hof : P_X10_ofB μ (μ 1 14) 0 = tm h := by
        rw [e14, ms_ofB (ki := 0) (k := 0) rfl (by omega) (by decide)]
        exact hR.2 h (by omega)
      have hofs : S_X10_ofB μ (μ 1 14) 0 := by
        rw [e14]
        exact ms_ofBs (ki := 0) (k := 0) rfl (by omega) (by decide)
      obtain ⟨ht0, ht1⟩ := rt_t hR (by omega : h < b)
      have c2 : ¬ until_ < tm h := hle h (by omega) cw
      rw [if_neg c4, hof]
      have hTT : (h = b ∧ tm h = 1000000) ∨ (h < b ∧ h ≠ wb ∧ tm h = tm h) := Or.inr ⟨by omega, cw, rfl⟩
      have hq : (4 : Int32) * (if until_ < tm h then until_ else tm h) = (4 : Int32) * tm h := by rw [if_neg c2]
      have hq2 : ((4 : Int32) * tm h).toInt ≤ 520000 := by rw [ia_mul4 ht0 (by omega)]; omega
      obtain ⟨p1, j, sc', p2, p3, p4, p5, p8, p6, p7⟩ := hp_RT (fc := fc) (k := k) hq hq2 hTT (by omega) (by omega) (by omega) hR
      obtain ⟨c, hc⟩ : ∃ c, fc - j = c + 1 := ⟨fc - j - 1, by omega⟩
      rw [hc] at p6 p7
      obtain ⟨r1, r2⟩ := run_step (c := c) (until_ := until_) (by omega : k + j < 2000) (rt_T p3 hTT)
      obtain ⟨r3, r4⟩ := run_hear (k := k + j) (pk := P_X7_runTo_b2 c) (sk := S_X7_runTo_b2 c) (RS_Cr p3.1) hq p5 c2
      have e14' := p3.1.2.2.2.1.2.2.1
      have hl' : ¬ P_X10_holdUpTo μ ((4 : Int32) * tm h) 1 14 = P_X10_holdUpTo μ ((4 : Int32) * tm h) 0 7 := by
        rw [e14', p4 0 (by decide), ← e14]; exact c4
      have htm' := p3.2 h (by omega)
      obtain ⟨n', q1, q2, q3, q4, q5, q6, q7⟩ := RS_hear p3.1 (by omega) cw hl' (by omega) (by rw [htm']; exact p5)
      rw [htm'] at q4
      have hR' : RT wb (h + 1) n' b tm (P_X7_hearBeat sc' (sc' 16 0)) (P_X10_hear (P_X10_holdUpTo μ ((4 : Int32) * tm h)) 1) := ⟨q3, fun i hi => by rw [q7 i hi]; exact p3.2 i hi⟩
      have hfr : ∀ i, i ≠ 1 → P_X10_hear (P_X10_holdUpTo μ ((4 : Int32) * tm h)) i = μ i := fun i hi => by
        rw [f_hear10 (b := h) (n := n + j) (by omega) (by omega) e14' p3.1.2.2.1.1 hi, p4 i hi]
      obtain ⟨i1, i2, n'', sc'', i3, i4, i5, i6⟩ := ih m c (k + j + 1) n' (h + 1) (P_X7_hearBeat sc' (sc' 16 0)) (P_X10_hear (P_X10_holdUpTo μ ((4 : Int32) * tm h))) (by omega) (by omega) (by omega) (by omega) (by omega) hR' (by rw [hfr 0 (by decide)]; exact hl) (fun hj => by
        rw [← hlast h (by omega) cw (fun j h1 h2 => hj j (by omega) h2)]
        exact q4)
      refine ⟨⟨fun h => absurd h c1, fun _ => ⟨fun h => absurd h c4, fun _ => ⟨hofs, p1, ms_hears (b := h) (n := n + j) (by omega) (by omega) e14' p3.1.2.2.1.1, i1⟩⟩⟩, p7 (r2 (r4 i2)), n'', sc'', by omega, ?_, i5, fun i hi => ?_⟩
      · rw [p6, r1, r3]; exact i4
      · rw [show P_X10_playAll_b69 (P_X10_playAll_b18 m) μ ((4 : Int32) * tm h) = P_X10_playAll_b18 m (P_X10_hear (P_X10_holdUpTo μ ((4 : Int32) * tm h))) from rfl, i6 i hi, hfr i hi]
end SM1
