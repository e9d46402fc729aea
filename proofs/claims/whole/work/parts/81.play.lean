/-! the whole plan played on the trial, beside the model that plays on its own row -/
section PY1
theorem sb_o {σ τ : T2} {o n j : Nat} (h : ¬ (o ≤ j ∧ j < o + n)) : sb σ o n τ j = σ j := if_neg h
theorem sb_i {σ τ : T2} {o n j : Nat} (h : j < n) : sb σ o n τ (o + j) = τ j := by
  unfold sb
  rw [if_pos (by omega), show o + j - o = j by omega]
theorem f_hear7 {sc : T2} {v : Int32} {j : Nat} (h1 : 1 ≤ j) (h5 : j < 5) : P_X7_hearBeat sc v j = sc j := by
  rw [cs_hear]
  have e0 : hc0 sc j = sc j := hc0_o (by omega)
  split
  · unfold P_X7_strikeWithBeat P_X7_strikeWithBeat_b0 P_X7_strikeWithBeat_b60c
    rw [sb_o (by omega), sb_o (by omega), u2_ne (by omega), e0]
  · split
    · have h39 : ∀ (q a g : Int32), P_X7_takeBeat_b39 (hc0 sc) v q a g j = sc j := fun q a g => by
        unfold P_X7_takeBeat_b39 P_X7_nudge P_X7_nudge_b0 P_X7_nudge_b22n P_X7_takeBeat_b46c P_X7_takeBeat_b88n P_X7_takeBeat_b118c P_X7_takeBeat_b144c P_X7_takeBeat_b150c
        rw [sb_o (by omega), f_judge7 (by omega) (by omega), sb_o (by omega), sb_o (by omega), u2_ne (by omega), u2_ne (by omega), u2_ne (by omega), u2_ne (by omega), e0]
      unfold P_X7_takeBeat P_X7_takeBeat_b0
      repeat' split
      all_goals exact h39 _ _ _
    · unfold P_X7_passOver P_X7_passOver_b0 P_X7_passOver_b30c
      rw [f_judge7 (by omega) (by omega), sb_o (by omega), u2_ne (by omega), e0]
theorem f_hold7 {sc : T2} {j : Nat} (h1 : 1 ≤ j) (h5 : j < 5) : P_X7_holdBlow sc j = sc j := by
  have h69 : ∀ (σ : T2) (v : Int32), P_X7_holdBlow_b69 σ v j = σ j := fun σ v => by
    unfold P_X7_holdBlow_b69 P_X7_holdBlow_b74c P_X7_holdBlow_b95
    split
    · rw [sb_o (by omega), f_judge7 (by omega) (by omega)]
    · rw [sb_o (by omega), f_silent7 (by omega) (by omega), f_judge7 (by omega) (by omega)]
  unfold P_X7_holdBlow P_X7_holdBlow_b0
  split
  · rw [h69, u2_ne (by omega), u2_ne (by omega), u2_ne (by omega)]
  · rw [h69, u2_ne (by omega), u2_ne (by omega)]
theorem f_run7 {j : Nat} (h1 : 1 ≤ j) (h5 : j < 5) : ∀ (n : Nat) (sc : T2) (v1 v2 : Int32), S_X7_runTo_b2 n sc v1 v2 → P_X7_runTo_b2 n sc v1 v2 j = sc j := by
  intro n
  induction n with
  | zero => intro sc v1 v2 hs; exact absurd hs (fun h => h)
  | succ n ih =>
    intro sc v1 v2 hs
    rw [S_X7_runTo_b2_e] at hs
    rw [P_X7_runTo_b2_e]
    have h45 : ∀ T : Int32, S_X7_runTo_b45 (S_X7_runTo_b2 n) sc v1 v2 T → P_X7_runTo_b45 (P_X7_runTo_b2 n) sc v1 v2 T j = sc j := fun T hs => by
      rw [S_X7_runTo_b45_e] at hs
      rw [P_X7_runTo_b45_e]
      obtain ⟨-, hs1, hs2⟩ := hs
      by_cases c1 : P_X7_isWindowOver sc ((4 : Int32) * (if v1 < T then v1 else T)) = 0
      · rw [if_pos c1]
        by_cases c2 : v1 < T
        · rw [if_pos c2]
          unfold P_X7_runTo_b89
          rw [u2_ne (by omega)]
        · rw [if_neg c2]
          unfold P_X7_runTo_b83
          exact (ih _ _ _ ((hs1 c1).2 c2).2).trans (f_hear7 h1 h5)
      · rw [if_neg c1]
        unfold P_X7_runTo_b64c P_X7_runTo_b83
        exact (ih _ _ _ (hs2 c1).2).trans (f_hold7 h1 h5)
    by_cases c1 : (2000 : Int32) ≤ v2
    · rw [if_pos c1]
      unfold P_X7_runTo_b89
      rw [u2_ne (by omega)]
    · rw [if_neg c1]
      have hs' := hs.2 c1
      by_cases c2 : sc 2 2 ≤ sc 16 0
      · rw [if_pos c2]; exact h45 _ (hs'.1 c2)
      · rw [if_neg c2]; exact h45 _ (hs'.2 c2).2
theorem lastc {wb b : Nat} (h : 0 < (if wb < b then b - 1 else b)) : skp wb ((if wb < b then b - 1 else b) - 1) < b ∧ skp wb ((if wb < b then b - 1 else b) - 1) ≠ wb ∧ ∀ i, i < b → i ≠ wb → i ≤ skp wb ((if wb < b then b - 1 else b) - 1) := by
  unfold skp
  by_cases c : wb < b
  · rw [if_pos c] at h ⊢
    by_cases c2 : b - 1 - 1 < wb
    · rw [if_pos c2]; refine ⟨by omega, by omega, fun i a b => by omega⟩
    · rw [if_neg c2]; refine ⟨by omega, by omega, fun i a b => by omega⟩
  · rw [if_neg c] at h ⊢
    rw [if_pos (by omega)]; refine ⟨by omega, by omega, fun i a b => by omega⟩
theorem play_main {wb b : Nat} {ξ μ : T2} {v1 v2 : Int32} (e22 : μ 1 22 = nI b) (hb : b ≤ 64) (e20 : ξ 20 2 = nI (if wb < b then b - 1 else b)) (hP : Pl wb b (fun j => ξ (18 + j)) (μ 1)) (hset : ∀ i, i < 8 → μ 1 i = ξ 2 i) (hNS : NumS (μ 1)) (h1 : 0 ≤ v1.toInt ∧ v1.toInt ≤ 16) (h2 : 0 ≤ v2.toInt ∧ v2.toInt ≤ 16) (hlo : ∀ i, i < b → (nI i = μ 0 7 ↔ i = wb)) :
    S_X9_playTrial ξ v1 v2 ∧ S_X10_playAll μ v1 v2 ∧ ∃ n', RS wb b n' b (fun j => P_X9_playTrial ξ v1 v2 (18 + j)) (P_X10_playAll μ v1 v2 1) ∧ (∀ j, ¬ (18 ≤ j ∧ j < 35) → P_X9_playTrial ξ v1 v2 j = ξ j) ∧ (∀ j, j = 20 ∨ j = 21 ∨ j = 22 → P_X9_playTrial ξ v1 v2 j = ξ j) ∧ (∀ i, i ≠ 1 → P_X10_playAll μ v1 v2 i = μ i) := by
  have f1 := fu1364
  obtain ⟨w1, g, w2, w3, w4, w5, w6, w7, w8, w9⟩ := ms_anew e22 hb
  have gk : ∀ i, i ≠ 2 → i ≠ 3 → upd (upd g 2 v1) 3 v2 i = g i := fun i a b => by rw [pk_un b, pk_un a]
  have g2 : upd (upd g 2 v1) 3 v2 2 = v1 := by rw [pk_un (by decide), pk_us]
  have g3 : upd (upd g 2 v1) 3 v2 3 = v2 := pk_us
  generalize hg' : upd (upd g 2 v1) 3 v2 = g' at gk g2 g3
  -- the class's trial, begun
  generalize hX : u2 ξ 19 (upd (upd (va_cpy (ξ 2) (ξ 19) 0 0 8) 2 v1) 3 v2) = ξ2
  have x19 : ∀ i, i < 8 → ξ2 19 i = upd (upd (ξ 2) 2 v1) 3 v2 i := fun i hi => by
    rw [← hX, u2_at]
    refine upd_c (upd_c ?_)
    rw [pk_cpy_in (Nat.zero_le _) (by omega)]
    simp
  have xo : ∀ j, j ≠ 19 → ξ2 j = ξ j := fun j h => by rw [← hX, u2_ne h]
  have hPl : ∀ i, i < 64 → g' (32 + 6 * i) = μ 1 (32 + 6 * i) ∧ g' (33 + 6 * i) = μ 1 (33 + 6 * i) := fun i hi => by
    rw [gk _ (by omega) (by omega), gk _ (by omega) (by omega)]; exact w8 i hi
  have hG : RS wb 0 0 b (P_X7_begin (fun j => ξ2 (18 + j))) g' := by
    refine RS_begin ?_ (fun i hi => ?_) ?_ ?_ ?_ (fun i a b c d e => ?_) hb ?_ (Pl_c hb hP ?_ ?_ hPl) (fun i hi => ?_)
    · unfold NumS
      rw [g2, g3, gk 0 (by decide) (by decide), gk 1 (by decide) (by decide), gk 4 (by decide) (by decide), gk 5 (by decide) (by decide), gk 6 (by decide) (by decide), gk 7 (by decide) (by decide), w3 0 (by decide), w3 1 (by decide), w3 4 (by decide), w3 5 (by decide), w3 6 (by decide), w3 7 (by decide)]
      exact ⟨hNS.1, hNS.2.1, h1, h2, hNS.2.2.2.2⟩
    · show g' i = ξ2 (18 + 1) i
      rw [x19 i hi, ← hg']
      refine upd_c (upd_c ?_)
      rw [w3 i hi]; exact hset i hi
    · rw [gk 10 (by decide) (by decide), gk 0 (by decide) (by decide), w4, w3 0 (by decide)]
    · rw [gk 11 (by decide) (by decide), w5]
    · rw [gk 22 (by decide) (by decide), w6]
    · rw [gk i (by omega) (by omega)]; exact w7 i a b c d e
    · show ξ2 (18 + 2) 2 = _
      rw [xo 20 (by decide)]; exact e20
    · exact xo 21 (by decide)
    · exact xo 22 (by decide)
    · rw [gk _ (by omega) (by omega), gk _ (by omega) (by omega)]; exact w9 i hi
  generalize hY : sb ξ2 18 17 (P_X7_begin (fun j => ξ2 (18 + j))) = ξ3
  have y1 : ∀ j, j < 17 → ξ3 (18 + j) = P_X7_begin (fun j => ξ2 (18 + j)) j := fun j hj => by rw [← hY, sb_i hj]
  have yo : ∀ j, ¬ (18 ≤ j ∧ j < 35) → ξ3 j = ξ j := fun j h => by
    rw [← hY, sb_o (by omega), xo j (by omega)]
  have yp : ∀ j, j = 2 ∨ j = 3 ∨ j = 4 → ξ3 (18 + j) = ξ (18 + j) := fun j h => by
    rw [y1 j (by omega), cs_begin, u2_ne (by omega), u2_ne (by omega), u2_ne (by omega), u2_ne (by omega), xo _ (by omega)]
  have hG3 : RS wb 0 0 b (fun j => ξ3 (18 + j)) g' := RS_cells hG (fun j _ hj => y1 j hj)
  -- the last time
  have hT : ∃ u : Int32, P_X5_lastTime (fun j => ξ3 (20 + j)) = u ∧ (0 ≤ u.toInt ∧ u.toInt ≤ 130000) ∧ (∀ i, i < b → i ≠ wb → ¬ u < g' (32 + 6 * i)) ∧ (∀ i, i < b → i ≠ wb → (∀ j, i < j → j < b → j = wb) → g' (32 + 6 * i) = u) := by
    have e2' : (fun j => ξ3 (20 + j)) 0 2 = nI (if wb < b then b - 1 else b) := by
      show ξ3 20 2 = _
      rw [show (20 : Nat) = 18 + 2 from rfl, yp 2 (by omega)]; exact e20
    obtain ⟨hP1, hP2, hP3⟩ := hG3.2.2.2.2.2.1
    unfold P_X5_lastTime P_X5_lastTime_b0
    rw [e2']
    by_cases c : (if wb < b then b - 1 else b) = 0
    · rw [c]
      have h0 := has_m1 (σ := fun j => ξ3 (20 + j))
      unfold P_X5_timeOf P_X5_timeOf_b0
      rw [h0, if_pos rfl]
      have hno : ∀ i, i < b → i = wb := fun i hi => by
        by_cases c2 : wb < b
        · rw [if_pos c2] at c; omega
        · rw [if_neg c2] at c; omega
      exact ⟨0, rfl, by decide, fun i hi hw => absurd (hno i hi) hw, fun i hi hw => absurd (hno i hi) hw⟩
    · obtain ⟨l1, l2, l3⟩ := lastc (wb := wb) (b := b) (by omega)
      rw [nI_predb (by omega), cs_timeOf (b := (if wb < b then b - 1 else b) - 1) e2' (by omega) (m_le hb)]
      have hp := (hP1 ((if wb < b then b - 1 else b) - 1) (by omega)).1
      generalize skp wb ((if wb < b then b - 1 else b) - 1) = p at l1 l2 l3 hp
      refine ⟨g' (32 + 6 * p), hp, ⟨(hP2 p l1).1, by have := (hP2 p l1).2; omega⟩, fun i hi hw => ?_, fun i hi hw hj => ?_⟩
      · rw [ia_lt]
        by_cases ci : i = p
        · rw [ci]; omega
        · have := hP3 i p (by have := l3 i hi hw; omega) l1
          omega
      · by_cases ci : i = p
        · rw [ci]
        · exact absurd (hj p (by have := l3 i hi hw; omega) l1) l2
  obtain ⟨u, hu, ⟨hu0, hu1⟩, hle, hla⟩ := hT
  have hμ2 : u2 (u2 μ 1 g) 1 (upd (upd (u2 μ 1 g 1) 2 v1) 3 v2) = u2 μ 1 g' := by
    rw [u2_same, u2_at, hg']
  obtain ⟨s1, s2, n', sc', s3, s4, s5, s6⟩ := play_sim wb b (fun i => g' (32 + 6 * i)) u (μ 0 7) hu0 hu1 hlo hle hla b FU FU 0 0 0 (fun j => ξ3 (18 + j)) (u2 μ 1 g') (by omega) (by omega) (by omega) (by omega) (by omega) ⟨by rw [u2_at]; exact hG3, fun i _ => by rw [u2_at]⟩ (by rw [u2_ne (by decide)]) (fun _ => Or.inl (by rw [u2_at, gk 11 (by decide) (by decide), w5]))
  rw [nI_0] at s2 s4
  have hfr : ∀ j, j = 2 ∨ j = 3 ∨ j = 4 → P_X7_runTo_b2 FU (fun j => ξ3 (18 + j)) u 0 j = ξ3 (18 + j) := fun j hj => f_run7 (by omega) (by omega) FU _ u 0 s2
  unfold S_X9_playTrial S_X9_playTrial_b0 S_X9_playTrial_b48c P_X9_playTrial P_X9_playTrial_b0 P_X9_playTrial_b48c S_X10_playAll S_X10_playAll_b0 S_X10_playAll_b4c P_X10_playAll P_X10_playAll_b0 P_X10_playAll_b4c
  rw [hX, hY, hu, w2, hμ2]
  unfold P_X7_runTo P_X7_runTo_b0 S_X7_runTo S_X7_runTo_b0
  refine ⟨⟨cs_begins _, cs_lasts _, s2, trivial⟩, ⟨w1, s1⟩, n', RS_cells s5.1 (fun j a b => ?_), fun j hj => ?_, fun j hj => ?_, fun i hi => ?_⟩
  · show sb ξ3 18 17 _ (18 + j) = sc' j
    rw [sb_i b, s4, u2_ne (by omega)]
  · rw [sb_o (by omega), yo j hj]
  · rcases hj with h | h | h <;> subst h
    · exact (congrFun (f := fun j => sb ξ3 18 17 (P_X7_runTo_b2 FU (fun j => ξ3 (18 + j)) u 0) j) rfl 20).trans ((sb_i (o := 18) (j := 2) (by decide)).trans ((hfr 2 (by omega)).trans (yp 2 (by omega))))
    · exact ((sb_i (o := 18) (j := 3) (by decide)).trans ((hfr 3 (by omega)).trans (yp 3 (by omega))))
    · exact ((sb_i (o := 18) (j := 4) (by decide)).trans ((hfr 4 (by omega)).trans (yp 4 (by omega))))
  · rw [s6 i hi, u2_ne hi]
end PY1
