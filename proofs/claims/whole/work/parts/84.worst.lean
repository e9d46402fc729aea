/-! worstBeat -/
section WB1
theorem cw_loop {b s : Nat} (hb : b ≤ 64) (hs : s < b) : ∀ (d n j : Nat) (σ : T2), j + d = b → d < n → σ 3 2 = nI b → σ 0 2 = nI (if s < j then j - 1 else j) → (∀ c, c < (if s < j then j - 1 else j) → σ 1 c = σ 4 (skp s c) ∧ σ 2 c = σ 5 (skp s c)) →
    S_X5_copyWithout_b7 n σ (nI s) (nI j) ∧ P_X5_copyWithout_b7 n σ (nI s) (nI j) 0 2 = nI (if s < b then b - 1 else b) ∧ (∀ c, c < (if s < b then b - 1 else b) → P_X5_copyWithout_b7 n σ (nI s) (nI j) 1 c = σ 4 (skp s c) ∧ P_X5_copyWithout_b7 n σ (nI s) (nI j) 2 c = σ 5 (skp s c)) ∧ (∀ i, 3 ≤ i → P_X5_copyWithout_b7 n σ (nI s) (nI j) i = σ i) := by
  intro d
  induction d with
  | zero =>
    intro n j σ hj hn e3 e0 hc
    obtain ⟨m, rfl⟩ : ∃ m, n = m + 1 := ⟨n - 1, by omega⟩
    obtain rfl : j = b := by omega
    have c : σ 3 2 ≤ nI j := by rw [e3]; exact nI_le (Nat.le_refl _) (by omega)
    rw [P_X5_copyWithout_b7_e, S_X5_copyWithout_b7_e, if_pos c]
    exact ⟨⟨fun _ => trivial, fun h => absurd c h⟩, e0, hc, fun _ _ => rfl⟩
  | succ d ih =>
    intro n j σ hj hn e3 e0 hc
    obtain ⟨m, rfl⟩ : ∃ m, n = m + 1 := ⟨n - 1, by omega⟩
    have c : ¬ σ 3 2 ≤ nI j := by rw [e3]; exact nI_ge (by omega) (by omega)
    rw [P_X5_copyWithout_b7_e, S_X5_copyWithout_b7_e, if_neg c]
    unfold P_X5_copyWithout_b34 S_X5_copyWithout_b34
    by_cases cs : j = s
    · subst cs
      rw [if_pos rfl, nI_1]
      obtain ⟨u1, u2, u3, u4⟩ := ih m (j + 1) σ (by omega) (by omega) e3 (by rw [e0, if_neg (by omega), if_pos (by omega)]; rfl) (fun c h => hc c (by rw [if_pos (by omega)] at h; rw [if_neg (by omega)]; omega))
      exact ⟨⟨fun h => absurd h c, fun _ => ⟨fun _ => u1, fun h => absurd rfl h⟩⟩, u2, u3, u4⟩
    · have cs' : ¬ nI j = nI s := fun h => cs ((nI_eq (by omega) (by omega)).mp h)
      rw [if_neg cs', nI_1]
      have e3' : (fun i => σ (3 + i)) 0 2 = nI b := e3
      rw [cs_timeOf (b := j) (m := b) e3' (by omega) hb, cs_numberOf (b := j) (m := b) e3' (by omega) hb]
      have eid : P_X5_append (fun i => σ (0 + i)) (σ (3 + 1) j) (σ (3 + 2) j) = P_X5_append σ (σ (3 + 1) j) (σ (3 + 2) j) := by
        congr 1
        funext i
        rw [Nat.zero_add]
      have hst := cs_app5 (ξ := σ) (o := 0) (k1 := 1) (k2 := 2) (b := if s < j then j - 1 else j) (v3 := σ (3 + 1) j) (v4 := σ (3 + 2) j) rfl rfl e0 (by split <;> omega)
      rw [eid] at hst
      have esk : skp s (if s < j then j - 1 else j) = j := by
        unfold skp
        by_cases c2 : s < j
        · rw [if_pos c2, if_neg (by omega)]; omega
        · rw [if_neg c2, if_pos (by omega)]
      have ecn : (if s < j then j - 1 else j) + 1 = (if s < j + 1 then j + 1 - 1 else j + 1) := by
        by_cases c2 : s < j
        · rw [if_pos c2, if_pos (by omega)]; omega
        · rw [if_neg c2, if_neg (by omega)]
      generalize (if s < j then j - 1 else j) = q at e0 hc hst esk ecn
      have hσ : sb σ 0 3 (P_X5_append σ ((fun i => σ (3 + i)) 1 j) ((fun i => σ (3 + i)) 2 j)) = u2 (u2 (u2 σ 1 (upd (σ 1) q (σ 4 j))) 2 (upd (σ 2) q (σ 5 j))) 0 (upd (σ 0) 2 (nI (q + 1))) := hst
      have hσ3 : ∀ i, 3 ≤ i → u2 (u2 (u2 σ 1 (upd (σ 1) q (σ 4 j))) 2 (upd (σ 2) q (σ 5 j))) 0 (upd (σ 0) 2 (nI (q + 1))) i = σ i := fun i hi => by
        rw [u2_ne (by omega), u2_ne (by omega), u2_ne (by omega)]
      rw [hσ]
      obtain ⟨u1, u2', u3, u4⟩ := ih m (j + 1) (u2 (u2 (u2 σ 1 (upd (σ 1) q (σ 4 j))) 2 (upd (σ 2) q (σ 5 j))) 0 (upd (σ 0) 2 (nI (q + 1)))) (by omega) (by omega) (by rw [hσ3 3 (by decide)]; exact e3) (by rw [u2_at, pk_us, ecn]) (fun c9 h9 => by
        rw [← ecn] at h9
        rw [hσ3 4 (by decide), hσ3 5 (by decide), u2_ne (by decide), u2_ne (by decide), u2_at, u2_ne (by decide), u2_at]
        by_cases c8 : c9 = q
        · rw [c8, pk_us, pk_us, esk]; exact ⟨rfl, rfl⟩
        · rw [pk_un c8, pk_un c8]; exact hc c9 (by omega))
      rw [hσ3 4 (by decide), hσ3 5 (by decide)] at u3
      exact ⟨⟨fun h => absurd h c, fun _ => ⟨fun h => absurd h cs', fun _ => ⟨cs_times _ _, cs_numbers _ _, cs_apps _ _ _, u1⟩⟩⟩, u2', u3, fun i hi => (u4 i hi).trans (hσ3 i hi)⟩
theorem wo_ok {ξs : T2} {b s : Nat} (e3 : ξs 3 2 = nI b) (hb : b ≤ 64) (hs : s < b) : S_X5_copyWithout (sel ξs 20 3 3) (nI s) ∧ sb2 ξs 20 3 3 3 (P_X5_copyWithout (sel ξs 20 3 3) (nI s)) 20 2 = nI (if s < b then b - 1 else b) ∧ (∀ c, c < (if s < b then b - 1 else b) → sb2 ξs 20 3 3 3 (P_X5_copyWithout (sel ξs 20 3 3) (nI s)) 21 c = ξs 4 (skp s c) ∧ sb2 ξs 20 3 3 3 (P_X5_copyWithout (sel ξs 20 3 3) (nI s)) 22 c = ξs 5 (skp s c)) ∧ (∀ j, ¬ (20 ≤ j ∧ j < 23) → sb2 ξs 20 3 3 3 (P_X5_copyWithout (sel ξs 20 3 3) (nI s)) j = ξs j) := by
  have f1 := fu64
  unfold S_X5_copyWithout P_X5_copyWithout S_X5_copyWithout_b0 P_X5_copyWithout_b0
  have hsel : ∀ i, 3 ≤ i → u2 (sel ξs 20 3 3) 0 (upd (sel ξs 20 3 3 0) 2 0) i = ξs i := fun i hi => by
    rw [u2_ne (by omega)]
    unfold sel
    rw [if_neg (by omega), show 3 + (i - 3) = i by omega]
  obtain ⟨u1, u2', u3, u4⟩ := cw_loop hb hs b FU 0 (u2 (sel ξs 20 3 3) 0 (upd (sel ξs 20 3 3 0) 2 0)) (by omega) (by omega) (by rw [hsel 3 (by decide)]; exact e3) (by rw [u2_at, pk_us, if_neg (by omega)]; rfl) (fun c hc => by rw [if_neg (by omega)] at hc; omega)
  rw [nI_0] at u1 u2' u3 u4
  rw [hsel 4 (by decide), hsel 5 (by decide)] at u3
  refine ⟨u1, u2', u3, fun j hj => ?_⟩
  unfold sb2
  rw [if_neg (by omega)]
  by_cases c : 3 ≤ j ∧ j < 3 + 3
  · rw [if_pos c, u4 _ (by omega), hsel _ (by omega), show 3 + (j - 3) = j by omega]
  · rw [if_neg c]
def Iw (ξ μ ξs μs : T2) : Prop := (∀ j, ¬ (18 ≤ j ∧ j < 35) → ξs j = ξ j) ∧ (∀ j, j ≠ 1 → j ≠ 5 → μs j = μ j) ∧ (∀ i, i < 672 → μs 1 i = μ 1 i)
def Acw (s : Nat) (cb cf mb mf : Int32) : Prop := (s = 0 ∧ cf = 1000000 ∧ mb = -6) ∨ (cb = mb ∧ 0 ≤ mb.toInt ∧ cf = mf)
theorem wb_loop {h n b : Nat} {ξ μ : T2} {v1 : Int32} (hRS : RS 64 h n b (fun j => ξ (1 + j)) (μ 1)) (hl : μ 0 7 = -6) (hb0 : 0 < b) : ∀ (d nc nm s : Nat) (ξs μs : T2) (cb cf mb mf : Int32), s + d = b → d < nc → d < nm → Iw ξ μ ξs μs → Acw s cb cf mb mf →
    S_X9_worstBeat_b36 nc ξs v1 cb cf (nI s) ∧ S_X10_worstBeat_b21 nm μs v1 mb mf (nI s) ∧ (P_X9_worstBeat_b36 nc ξs v1 cb cf (nI s)).1 = (P_X10_worstBeat_b21 nm μs v1 mb mf (nI s)).1 ∧ Iw ξ μ (P_X9_worstBeat_b36 nc ξs v1 cb cf (nI s)).2 (P_X10_worstBeat_b21 nm μs v1 mb mf (nI s)).2 := by
  obtain ⟨hset, hNS⟩ := pl_set hRS
  have hb := hRS.2.2.2.1.2.1
  have e22 := hRS.2.2.2.1.1
  have e2 : ξ 3 2 = nI b := by have := hRS.2.2.2.1.2.2.2.2.1; rw [wbF hb] at this; exact this
  obtain ⟨hP1, hP2, hP3⟩ := hRS.2.2.2.2.2.1
  rw [wbF hb] at hP1
  intro d
  induction d with
  | zero =>
    intro nc nm s ξs μs cb cf mb mf hs hnc hnm hI hA
    obtain ⟨c, rfl⟩ : ∃ c, nc = c + 1 := ⟨nc - 1, by omega⟩
    obtain ⟨m, rfl⟩ : ∃ m, nm = m + 1 := ⟨nm - 1, by omega⟩
    obtain rfl : s = b := by omega
    have c1 : ξs 3 2 ≤ nI s := by rw [hI.1 3 (by omega), e2]; exact nI_le (Nat.le_refl _) (by omega)
    have c2 : μs 1 22 ≤ nI s := by rw [hI.2.2 22 (by decide), e22]; exact nI_le (Nat.le_refl _) (by omega)
    rw [P_X9_worstBeat_b36_e, S_X9_worstBeat_b36_e, P_X10_worstBeat_b21_e, S_X10_worstBeat_b21_e, if_pos c1, if_pos c2]
    have hA' : cb = mb ∧ cf = mf := by
      rcases hA with ⟨h, -⟩ | ⟨h, -, h2⟩
      · omega
      · exact ⟨h, h2⟩
    refine ⟨⟨fun _ => ⟨fun _ => trivial, fun _ => trivial⟩, fun h => absurd c1 h⟩, ⟨fun _ => ⟨fun _ => trivial, fun _ => trivial⟩, fun h => absurd c2 h⟩, ?_, ?_⟩
    · rw [hA'.1, hA'.2]
      split <;> rfl
    · by_cases c3 : v1 = 0
      · rw [if_pos c3, if_pos c3]; exact hI
      · rw [if_neg c3, if_neg c3]; exact hI
  | succ d ih =>
    intro nc nm s ξs μs cb cf mb mf hs hnc hnm hI hA
    obtain ⟨c, rfl⟩ : ∃ c, nc = c + 1 := ⟨nc - 1, by omega⟩
    obtain ⟨m, rfl⟩ : ∃ m, nm = m + 1 := ⟨nm - 1, by omega⟩
    obtain ⟨i1, i4, i5⟩ := hI
    have es3 : ξs 3 2 = nI b := by rw [i1 3 (by omega), e2]
    have c1 : ¬ ξs 3 2 ≤ nI s := by rw [es3]; exact nI_ge (by omega) (by omega)
    have c2 : ¬ μs 1 22 ≤ nI s := by rw [i5 22 (by decide), e22]; exact nI_ge (by omega) (by omega)
    rw [P_X9_worstBeat_b36_e, S_X9_worstBeat_b36_e, P_X10_worstBeat_b21_e, S_X10_worstBeat_b21_e, if_neg c1, if_neg c2]
    obtain ⟨w1, w2, w3, w4⟩ := wo_ok es3 hb (by omega : s < b)
    generalize sb2 ξs 20 3 3 3 (P_X5_copyWithout (sel ξs 20 3 3) (nI s)) = ξ1 at w2 w3 w4 ⊢
    obtain ⟨l1, l2, l3⟩ := aside_ok μs
    unfold P_X9_worstBeat_b70c S_X9_worstBeat_b70c P_X10_worstBeat_b37c S_X10_worstBeat_b37c
    generalize P_X10_layAside μs = μa at l1 l2 l3 ⊢
    have ma1 : ∀ i, i < 672 → μa 1 i = μ 1 i := fun i hi => by rw [l2 1 (by decide), i5 i hi]
    have x2 : ξ1 2 = ξ 2 := by rw [w4 2 (by omega), i1 2 (by omega)]
    have m2 : μa 1 2 = ξ1 2 2 := by rw [ma1 2 (by decide), x2]; exact hset 2 (by decide)
    have m3 : μa 1 3 = ξ1 2 3 := by rw [ma1 3 (by decide), x2]; exact hset 3 (by decide)
    have r2 : 0 ≤ (ξ1 2 2).toInt ∧ (ξ1 2 2).toInt ≤ 16 := by
      rw [← m2, ma1 2 (by decide)]; exact hNS.2.2.1
    have r3 : 0 ≤ (ξ1 2 3).toInt ∧ (ξ1 2 3).toInt ≤ 16 := by
      rw [← m3, ma1 3 (by decide)]; exact hNS.2.2.2.1
    rw [m2, m3]
    have hb1 : u2 μa 0 (upd (μa 0) 7 (nI s)) 1 = μa 1 := u2_ne (by decide)
    obtain ⟨s1, s2, n', s3, s4, s5, s6⟩ := play_main (wb := s) (b := b) (ξ := ξ1) (μ := u2 μa 0 (upd (μa 0) 7 (nI s))) (v1 := ξ1 2 2) (v2 := ξ1 2 3) (by rw [hb1, ma1 22 (by decide)]; exact e22) hb w2 (by
      rw [hb1]
      refine ⟨fun c9 h9 => ?_, fun i hi => ?_, fun i j hij hj => ?_⟩
      · have hsk : skp s c9 < b := by
          rw [if_pos (by omega)] at h9
          unfold skp; split <;> omega
        obtain ⟨q1, q2⟩ := w3 c9 h9
        obtain ⟨p1, p2⟩ := hP1 (skp s c9) hsk
        have hs64 : skp 64 (skp s c9) = skp s c9 := by
          rw [show skp 64 (skp s c9) = if skp s c9 < 64 then skp s c9 else skp s c9 + 1 from rfl, if_pos (by omega)]
        rw [hs64] at p1 p2
        rw [ma1 _ (by omega), ma1 _ (by omega)]
        exact ⟨q1.trans ((congrFun (i1 4 (by omega)) _).trans p1), q2.trans ((congrFun (i1 5 (by omega)) _).trans p2)⟩
      · rw [ma1 _ (by omega)]; exact hP2 i hi
      · rw [ma1 _ (by omega), ma1 _ (by omega)]; exact hP3 i j hij hj) (fun i hi => by rw [hb1, ma1 i (by omega), x2]; exact hset i hi) (by
      rw [hb1]; unfold NumS
      rw [ma1 0 (by decide), ma1 1 (by decide), ma1 2 (by decide), ma1 3 (by decide), ma1 4 (by decide), ma1 5 (by decide), ma1 6 (by decide), ma1 7 (by decide)]
      exact hNS) r2 r3 (fun i hi => by
      rw [u2_at, pk_us]
      exact nI_eq (by omega) (by omega))
    unfold P_X9_worstBeat_b92c S_X9_worstBeat_b92c P_X10_worstBeat_b59c S_X10_worstBeat_b59c P_X10_worstBeat_b78c S_X10_worstBeat_b78c P_X9_worstBeat_b120 S_X9_worstBeat_b120 P_X10_worstBeat_b94 S_X10_worstBeat_b94 P_X10_worstBeat_b88 S_X10_worstBeat_b88
    unfold P_X10_worstBeat_b94 S_X10_worstBeat_b94
    generalize P_X9_playTrial ξ1 (ξ1 2 2) (ξ1 2 3) = ξ2 at s3 s4 s5 ⊢
    generalize P_X10_playAll (u2 μa 0 (upd (μa 0) 7 (nI s))) (ξ1 2 2) (ξ1 2 3) = μ2 at s3 s6 ⊢
    obtain ⟨b1, b2, b3⟩ := back_ok (u2 μ2 0 (upd (μ2 0) 7 (-6)))
    have hIn : Iw ξ μ ξ2 (P_X10_layBack (u2 μ2 0 (upd (μ2 0) 7 (-6)))) := by
      refine ⟨fun j hj => ?_, fun j h9 h5 => ?_, fun i hi => ?_⟩
      · rw [s4 j hj, w4 j (by omega), i1 j hj]
      · rw [b2 j h9]
        by_cases c0 : j = 0
        · subst c0
          rw [u2_at, s6 0 (by decide), u2_at, l2 0 (by decide), i4 0 (by decide) (by decide)]
          funext i
          by_cases ci : i = 7
          · rw [ci, pk_us, hl]
          · rw [pk_un ci, pk_un ci]
        · rw [u2_ne c0, s6 j h9, u2_ne c0, l2 j h5, i4 j h9 h5]
      · rw [b3 i hi, u2_ne (by decide), s6 5 (by decide), u2_ne (by decide), l3 i hi, i5 i hi]
    have t6' : ξ2 34 6 = μ2 1 18 := s3.1.2.2.2.2.2.2.2.1.symm
    have h18 := s3.2.2.2.2.1
    rw [t6', nI_1]
    generalize μ2 1 18 = T at h18 ⊢
    have hns : 0 ≤ (nI s).toInt := by rw [nI_toInt (by omega)]; omega
    rcases hA with ⟨rfl, rfl, rfl⟩ | ⟨rfl, a2, rfl⟩
    · have d1 : ¬ (1000000 : Int32) ≤ T := by rw [ia_le, ia_NV]; omega
      have d2 : (-6 : Int32) < 0 := by decide
      rw [if_neg d1, if_pos d2]
      obtain ⟨u1, u2', u3, u4⟩ := ih c m (0 + 1) ξ2 (P_X10_layBack (u2 μ2 0 (upd (μ2 0) 7 (-6)))) (nI 0) T (nI 0) T (by omega) (by omega) (by omega) hIn (Or.inr ⟨rfl, hns, rfl⟩)
      exact ⟨⟨fun h => absurd h c1, fun _ => ⟨w1, s1, fun h => absurd h d1, fun _ => u1⟩⟩, ⟨fun h => absurd h c2, fun _ => ⟨l1, s2, b1, fun _ => u2', fun h => absurd d2 h⟩⟩, u3, u4⟩
    · have d0 : ¬ cb < 0 := by rw [ia_lt, ia_0]; omega
      rw [if_neg d0]
      by_cases d1 : cf ≤ T
      · rw [if_pos d1, if_pos d1]
        obtain ⟨u1, u2', u3, u4⟩ := ih c m (s + 1) ξ2 (P_X10_layBack (u2 μ2 0 (upd (μ2 0) 7 (-6)))) cb cf cb cf (by omega) (by omega) (by omega) hIn (Or.inr ⟨rfl, a2, rfl⟩)
        exact ⟨⟨fun h => absurd h c1, fun _ => ⟨w1, s1, fun _ => u1, fun h => absurd d1 h⟩⟩, ⟨fun h => absurd h c2, fun _ => ⟨l1, s2, b1, fun h => absurd h d0, fun _ => ⟨fun _ => u2', fun h => absurd d1 h⟩⟩⟩, u3, u4⟩
      · rw [if_neg d1, if_neg d1]
        obtain ⟨u1, u2', u3, u4⟩ := ih c m (s + 1) ξ2 (P_X10_layBack (u2 μ2 0 (upd (μ2 0) 7 (-6)))) (nI s) T (nI s) T (by omega) (by omega) (by omega) hIn (Or.inr ⟨rfl, hns, rfl⟩)
        exact ⟨⟨fun h => absurd h c1, fun _ => ⟨w1, s1, fun h => absurd h d1, fun _ => u1⟩⟩, ⟨fun h => absurd h c2, fun _ => ⟨l1, s2, b1, fun h => absurd h d0, fun _ => ⟨fun h => absurd h d1, fun _ => u2'⟩⟩⟩, u3, u4⟩
theorem ok_worstBeat : Ok_worstBeat Rel := by
  intro k ξ μ x0 hk hR
  have hRm := Rel_mono _ _ _ hR
  obtain ⟨h, n, b, hn, hRS, ht8, ht0, ht1⟩ := hR.1
  have hb := hRS.2.2.2.1.2.1
  have e22 := hRS.2.2.2.1.1
  have e2 : ξ 3 2 = nI b := by have := hRS.2.2.2.1.2.2.2.2.1; rw [wbF hb] at this; exact this
  have f1 := fu64
  unfold S_X9_worstBeat S_X9_worstBeat_b0 P_X9_worstBeat P_X9_worstBeat_b0 S_X10_worstBeat S_X10_worstBeat_b0 P_X10_worstBeat P_X10_worstBeat_b0
  rw [in9, e2]
  by_cases c0 : P_X10_in x0 0 1 = 0
  · rw [if_pos c0, if_pos c0]
    exact ⟨⟨isis _ _ _, fun _ => trivial, fun h => absurd c0 h⟩, ⟨ins _ _ _, fun _ => trivial, fun h => absurd c0 h⟩, rfl, hRm⟩
  rw [if_neg c0, if_neg c0]
  by_cases c : b = 0
  · have z : nI b = 0 := by rw [c]; rfl
    rw [if_pos z]
    obtain ⟨m, hm⟩ : ∃ m, FU = m + 1 := ⟨FU - 1, by omega⟩
    have c2 : μ 1 22 ≤ 0 := by rw [e22, z]; decide
    rw [hm, P_X10_worstBeat_b21_e, S_X10_worstBeat_b21_e, if_pos c2]
    refine ⟨⟨isis _ _ _, fun h => absurd h c0, fun _ => ⟨fun _ => trivial, fun h => absurd z h⟩⟩, ⟨ins _ _ _, fun h => absurd h c0, fun _ => ⟨fun _ => ⟨fun _ => trivial, fun _ => trivial⟩, fun h => absurd c2 h⟩⟩, ?_, ?_⟩
    · split <;> rfl
    · have hs2 : (if x0 = 0 then ((-6 : Int32), μ) else ((-6 : Int32), μ)).2 = μ := by split <;> rfl
      rw [hs2]; exact hRm
  · have z : ¬ nI b = 0 := nI_ne0 (by omega) (by omega)
    rw [if_neg z]
    obtain ⟨u1, u2', u3, u4⟩ := wb_loop (v1 := x0) hRS hR.2.2.2.2 (by omega) b FU FU 0 ξ μ 0 1000000 (-6) (-6) (by omega) (by omega) (by omega) ⟨fun _ _ => rfl, fun _ _ _ => rfl, fun _ _ => rfl⟩ (Or.inl ⟨rfl, rfl, rfl⟩)
    rw [nI_0] at u1 u2' u3 u4
    exact ⟨⟨isis _ _ _, fun h => absurd h c0, fun _ => ⟨fun h => absurd h z, fun _ => u1⟩⟩, ⟨ins _ _ _, fun h => absurd h c0, fun _ => u2'⟩, u3, Rel_wi hRm u4.1 u4.2.1 u4.2.2⟩
end WB1
