/-! begun anew, on both sides -/
section BG1
def zrT (j : Nat) (μ : T2) : T2 := u2 μ 1 (fun i => if j ≤ i ∧ i < 32 then 0 else μ 1 i)
theorem zr_step {j : Nat} {μ : T2} (hj : j < 32) : zrT (j + 1) (u2 μ 1 (upd (μ 1) j 0)) = zrT j μ := by
  unfold zrT
  rw [u2_same, u2_at]
  congr 1
  funext i
  by_cases c1 : i = j
  · subst c1
    rw [if_neg (by omega), pk_us, if_pos (by omega)]
  · rw [pk_un c1]
    by_cases c2 : j ≤ i ∧ i < 32
    · rw [if_pos c2, if_pos (by omega)]
    · rw [if_neg c2, if_neg (by omega)]
theorem zr_end {μ : T2} : zrT 32 μ = μ := by
  unfold zrT
  have h : (fun i => if 32 ≤ i ∧ i < 32 then 0 else μ 1 i) = μ 1 := by
    funext i
    rw [if_neg (by omega)]
  rw [h, u2_self]
noncomputable def zrE (ν : T2) (v1 : Int32) : T2 := u2 ν 1 (upd (upd (upd (ν 1) 22 v1) 10 ((4 : Int32) * ν 1 0)) 11 (-6))
theorem zr_loop {v1 : Int32} : ∀ (d n j : Nat) (μ : T2), j + d = 32 → d < n → P_X10_beginAnew_b11 n μ v1 (nI j) = P_X10_beginAnew_b64 FU (zrE (zrT j μ) v1) v1 0 ∧ (S_X10_beginAnew_b64 FU (zrE (zrT j μ) v1) v1 0 → S_X10_beginAnew_b11 n μ v1 (nI j)) := by
  intro d
  induction d with
  | zero =>
    intro n j μ hj hn
    obtain ⟨m, rfl⟩ : ∃ m, n = m + 1 := ⟨n - 1, by omega⟩
    obtain rfl : j = 32 := by omega
    have c : (32 : Int32) ≤ nI 32 := nI_le (a := 32) (b := 32) (Nat.le_refl _) (by omega)
    rw [P_X10_beginAnew_b11_e, S_X10_beginAnew_b11_e, if_pos c, zr_end]
    exact ⟨rfl, fun h => ⟨fun _ => h, fun h => absurd c h⟩⟩
  | succ d ih =>
    intro n j μ hj hn
    obtain ⟨m, rfl⟩ : ∃ m, n = m + 1 := ⟨n - 1, by omega⟩
    have c : ¬ (32 : Int32) ≤ nI j := nI_ge (a := j) (b := 32) (by omega) (by omega)
    obtain ⟨h1, h2⟩ := ih m (j + 1) (u2 μ 1 (upd (μ 1) j 0)) (by omega) (by omega)
    rw [zr_step (by omega)] at h1 h2
    rw [P_X10_beginAnew_b11_e, S_X10_beginAnew_b11_e, if_neg c, nI_1, nI_clamp (n := j) (by omega)]
    exact ⟨h1, fun h => ⟨fun h => absurd h c, fun _ => ⟨vp_in_nI (by omega) (by omega), h2 h⟩⟩⟩
def bcl (f : T1) (j b : Nat) : T1 := fun i => if 34 + 6 * j ≤ i ∧ i < 32 + 6 * b ∧ 2 ≤ (i - 32) % 6 then (if (i - 32) % 6 = 2 then 0 else -6) else f i
theorem bcl_step {f : T1} {j b : Nat} (hj : j < b) : bcl (bec f j 0 (-6) (-6) (-6)) (j + 1) b = bcl f j b := by
  funext i
  unfold bcl
  by_cases c1 : 34 + 6 * (j + 1) ≤ i ∧ i < 32 + 6 * b ∧ 2 ≤ (i - 32) % 6
  · rw [if_pos c1, if_pos (show 34 + 6 * j ≤ i ∧ i < 32 + 6 * b ∧ 2 ≤ (i - 32) % 6 by omega)]
  · rw [if_neg c1]
    by_cases c2 : i = 34 + 6 * j
    · rw [c2, bec_0, if_pos (by omega), if_pos (by omega)]
    by_cases c3 : i = 35 + 6 * j
    · rw [c3, bec_1, if_pos (by omega), if_neg (by omega)]
    by_cases c4 : i = 36 + 6 * j
    · rw [c4, bec_2, if_pos (by omega), if_neg (by omega)]
    by_cases c5 : i = 37 + 6 * j
    · rw [c5, bec_3, if_pos (by omega), if_neg (by omega)]
    rw [bec_o (by omega), if_neg (by omega)]
theorem bcl_end {f : T1} {b : Nat} : bcl f b b = f := by
  funext i
  unfold bcl
  rw [if_neg (by omega)]
theorem bc_loop {b : Nat} (hb : b ≤ 64) : ∀ (d n j : Nat) (μ : T2), j + d = b → d < n → P_X10_beginAnew_b64 n μ (nI b) (nI j) = u2 μ 1 (bcl (μ 1) j b) ∧ S_X10_beginAnew_b64 n μ (nI b) (nI j) := by
  intro d
  induction d with
  | zero =>
    intro n j μ hj hn
    obtain ⟨m, rfl⟩ : ∃ m, n = m + 1 := ⟨n - 1, by omega⟩
    obtain rfl : j = b := by omega
    have c : nI j ≤ nI j := nI_le (Nat.le_refl _) (by omega)
    rw [P_X10_beginAnew_b64_e, S_X10_beginAnew_b64_e, if_pos c, bcl_end, u2_self]
    exact ⟨rfl, fun _ => trivial, fun h => absurd c h⟩
  | succ d ih =>
    intro n j μ hj hn
    obtain ⟨m, rfl⟩ : ∃ m, n = m + 1 := ⟨n - 1, by omega⟩
    have c : ¬ nI b ≤ nI j := nI_ge (by omega) (by omega)
    obtain ⟨h1, h2⟩ := ih m (j + 1) (u2 μ 1 (bec (μ 1) j 0 (-6) (-6) (-6))) (by omega) (by omega)
    rw [u2_at, bcl_step (by omega), u2_same] at h1
    rw [P_X10_beginAnew_b64_e, S_X10_beginAnew_b64_e, if_neg c]
    unfold P_X10_beginAnew_b81c S_X10_beginAnew_b81c
    rw [ms_become (by omega), nI_1]
    exact ⟨h1, fun h => absurd h c, fun _ => ⟨ms_becomes (by omega), h2⟩⟩
theorem ms_anew {μ : T2} {b : Nat} (e22 : μ 1 22 = nI b) (hb : b ≤ 64) : S_X10_beginAnew μ ∧ ∃ g : T1, P_X10_beginAnew μ = u2 μ 1 g ∧ (∀ i, i < 8 → g i = μ 1 i) ∧ g 10 = (4 : Int32) * μ 1 0 ∧ g 11 = -6 ∧ g 22 = nI b ∧ (∀ i, 8 ≤ i → i < 32 → i ≠ 10 → i ≠ 11 → i ≠ 22 → g i = 0) ∧ (∀ i, i < 64 → g (32 + 6 * i) = μ 1 (32 + 6 * i) ∧ g (33 + 6 * i) = μ 1 (33 + 6 * i)) ∧ (∀ i, i < b → g (34 + 6 * i) = 0 ∧ g (35 + 6 * i) = -6) := by
  have f1 := fu64
  unfold S_X10_beginAnew P_X10_beginAnew S_X10_beginAnew_b0 P_X10_beginAnew_b0
  obtain ⟨z1, z2⟩ := zr_loop (v1 := nI b) 24 FU 8 μ (by decide) (by omega)
  obtain ⟨b1, b2⟩ := bc_loop hb b FU 0 (zrE (zrT 8 μ) (nI b)) (by omega) (by omega)
  rw [nI_0] at b1 b2
  rw [e22]
  refine ⟨z2 b2, bcl (zrE (zrT 8 μ) (nI b) 1) 0 b, ?_, ?_⟩
  · refine z1.trans (b1.trans ?_)
    unfold zrE zrT
    simp only [u2_same]
  · have hz : ∀ i, zrE (zrT 8 μ) (nI b) 1 i = upd (upd (upd (fun i => if 8 ≤ i ∧ i < 32 then 0 else μ 1 i) 22 (nI b)) 10 ((4 : Int32) * μ 1 0)) 11 (-6) i := fun i => by
      unfold zrE zrT
      rw [u2_at, u2_at]
      rfl
    have hlo : ∀ i, i < 34 → bcl (zrE (zrT 8 μ) (nI b) 1) 0 b i = zrE (zrT 8 μ) (nI b) 1 i := fun i hi => by
      unfold bcl
      rw [if_neg (by omega)]
    refine ⟨fun i hi => ?_, ?_, ?_, ?_, fun i h8 h32 h10 h11 h22 => ?_, fun i hi => ⟨?_, ?_⟩, fun i hi => ⟨?_, ?_⟩⟩
    · rw [hlo i (by omega), hz, pk_un (by omega), pk_un (by omega), pk_un (by omega), if_neg (by omega)]
    · rw [hlo 10 (by decide), hz, pk_un (by decide), pk_us]
    · rw [hlo 11 (by decide), hz, pk_us]
    · rw [hlo 22 (by decide), hz, pk_un (by decide), pk_un (by decide), pk_us]
    · rw [hlo i (by omega), hz, pk_un h11, pk_un h10, pk_un h22, if_pos ⟨h8, h32⟩]
    · have e : bcl (zrE (zrT 8 μ) (nI b) 1) 0 b (32 + 6 * i) = zrE (zrT 8 μ) (nI b) 1 (32 + 6 * i) := by
        unfold bcl
        rw [if_neg (by omega)]
      rw [e, hz, pk_un (by omega), pk_un (by omega), pk_un (by omega), if_neg (by omega)]
    · have e : bcl (zrE (zrT 8 μ) (nI b) 1) 0 b (33 + 6 * i) = zrE (zrT 8 μ) (nI b) 1 (33 + 6 * i) := by
        unfold bcl
        rw [if_neg (by omega)]
      rw [e, hz, pk_un (by omega), pk_un (by omega), pk_un (by omega), if_neg (by omega)]
    · unfold bcl
      rw [if_pos (by omega), if_pos (by omega)]
    · unfold bcl
      rw [if_pos (by omega), if_neg (by omega)]
theorem cs_begin (sc : T2) : P_X7_begin sc = u2 (u2 (u2 (u2 sc 0 (upd (sc 0) 6 0)) 10 (upd (sc 10) 4 0)) 16 (upd (upd (upd (upd (upd (upd (upd (upd (upd (upd (sc 16) 0 0) 1 0) 2 0) 3 0) 4 0) 5 0) 6 0) 7 0) 8 0) 9 0)) 15 (upd (upd (upd (upd (upd (upd (upd (sc 15) 0 0) 1 ((4 : Int32) * sc 1 0)) 2 (-6)) 3 0) 4 0) 5 0) 6 0) := by
  unfold P_X7_begin P_X7_begin_b0 P_X7_begin_b20c P_X8_clear P_X8_clear_b0 P_X1_begin P_X1_begin_b0
  rw [sb_u2 (k := 15) (by decide) rfl, sb_self, sb_u2 (k := 16) (by decide) rfl, sb_self]
  rfl
theorem cs_begins (sc : T2) : S_X7_begin sc := ⟨trivial, trivial, trivial, trivial⟩
/-- the first half of Num: the settings alone -/
def NumS (g : T1) : Prop := (20 ≤ (g 0).toInt ∧ (g 0).toInt ≤ 400) ∧ (5 ≤ (g 1).toInt ∧ (g 1).toInt ≤ 50) ∧ (0 ≤ (g 2).toInt ∧ (g 2).toInt ≤ 16) ∧ (0 ≤ (g 3).toInt ∧ (g 3).toInt ≤ 16) ∧ (0 ≤ (g 4).toInt ∧ (g 4).toInt ≤ 40) ∧ (1 ≤ (g 5).toInt ∧ (g 5).toInt ≤ 8) ∧ (1 ≤ (g 6).toInt ∧ (g 6).toInt ≤ 8) ∧ (1 ≤ (g 7).toInt ∧ (g 7).toInt ≤ 20)
theorem RS_begin {wb b : Nat} {sc : T2} {g : T1} (hNS : NumS g) (hset : ∀ i, i < 8 → g i = sc 1 i) (g10 : g 10 = (4 : Int32) * g 0) (g11 : g 11 = -6) (g22 : g 22 = nI b) (hz : ∀ i, 8 ≤ i → i < 32 → i ≠ 10 → i ≠ 11 → i ≠ 22 → g i = 0) (hb : b ≤ 64) (e2 : sc 2 2 = nI (if wb < b then b - 1 else b)) (hP : Pl wb b sc g) (hF : ∀ i, i < b → g (34 + 6 * i) = 0 ∧ g (35 + 6 * i) = -6) : RS wb 0 0 b (P_X7_begin sc) g := by
  rw [cs_begin]
  have c : ∀ j, j ≠ 0 → j ≠ 10 → j ≠ 15 → j ≠ 16 → u2 (u2 (u2 (u2 sc 0 (upd (sc 0) 6 0)) 10 (upd (sc 10) 4 0)) 16 (upd (upd (upd (upd (upd (upd (upd (upd (upd (upd (sc 16) 0 0) 1 0) 2 0) 3 0) 4 0) 5 0) 6 0) 7 0) 8 0) 9 0)) 15 (upd (upd (upd (upd (upd (upd (upd (sc 15) 0 0) 1 ((4 : Int32) * sc 1 0)) 2 (-6)) 3 0) 4 0) 5 0) 6 0) j = sc j := fun j a b c d => by
    rw [u2_ne c, u2_ne d, u2_ne b, u2_ne a]
  refine ⟨?_, ⟨hNS, ?_, Or.inl g11, ?_⟩, ⟨?_, ?_⟩, ⟨g22, hb, ?_, Nat.zero_le _, ?_, ?_⟩, ?_, Pl_c hb hP (c 3 (by decide) (by decide) (by decide) (by decide)) (c 4 (by decide) (by decide) (by decide) (by decide)) (fun _ _ => ⟨rfl, rfl⟩), fun _ => ⟨⟨fun i hi => absurd hi (by omega), fun i _ hi => hF i hi⟩, fun r _ hr => absurd hr (by omega)⟩⟩
  · have a0 := hset 0 (by decide)
    have a1 := hset 1 (by decide)
    have a2 := hset 2 (by decide)
    have a3 := hset 3 (by decide)
    have a4 := hset 4 (by decide)
    have a5 := hset 5 (by decide)
    have a6 := hset 6 (by decide)
    have a7 := hset 7 (by decide)
    rw [a0] at g10
    have z9 := hz 9 (by decide) (by decide) (by decide) (by decide) (by decide)
    have z13 := hz 13 (by decide) (by decide) (by decide) (by decide) (by decide)
    have z15 := hz 15 (by decide) (by decide) (by decide) (by decide) (by decide)
    have z16 := hz 16 (by decide) (by decide) (by decide) (by decide) (by decide)
    have z17 := hz 17 (by decide) (by decide) (by decide) (by decide) (by decide)
    have z18 := hz 18 (by decide) (by decide) (by decide) (by decide) (by decide)
    have z19 := hz 19 (by decide) (by decide) (by decide) (by decide) (by decide)
    have z20 := hz 20 (by decide) (by decide) (by decide) (by decide) (by decide)
    have z21 := hz 21 (by decide) (by decide) (by decide) (by decide) (by decide)
    have z23 := hz 23 (by decide) (by decide) (by decide) (by decide) (by decide)
    have z24 := hz 24 (by decide) (by decide) (by decide) (by decide) (by decide)
    have z25 := hz 25 (by decide) (by decide) (by decide) (by decide) (by decide)
    have z26 := hz 26 (by decide) (by decide) (by decide) (by decide) (by decide)
    have z27 := hz 27 (by decide) (by decide) (by decide) (by decide) (by decide)
    simp [Sc, u2, upd, a0, a1, a2, a3, a4, a5, a6, a7, g10, g11, z9, z13, z15, z16, z17, z18, z19, z20, z21, z23, z24, z25, z26, z27]
  · have := hNS.1
    rw [g10, ia_mul4 (by omega) (by omega)]; omega
  · rw [hz 21 (by decide) (by decide) (by decide) (by decide) (by decide), ia_0]; decide
  · rw [hz 12 (by decide) (by decide) (by decide) (by decide) (by decide)]; rfl
  · rw [u2_ne (by decide), u2_ne (by decide), u2_at, pk_us]; rfl
  · rw [hz 14 (by decide) (by decide) (by decide) (by decide) (by decide)]; rfl
  · rw [c 2 (by decide) (by decide) (by decide) (by decide)]; exact e2
  · rw [u2_ne (by decide), u2_at, if_neg (by omega), pk_un (by decide), pk_un (by decide), pk_un (by decide), pk_un (by decide), pk_un (by decide), pk_un (by decide), pk_un (by decide), pk_un (by decide), pk_un (by decide), pk_us]; rfl
  · rw [hz 18 (by decide) (by decide) (by decide) (by decide) (by decide), ia_0]; decide
theorem ok_anew : Ok_anew Rel := by
  intro k ξ μ hk hR
  generalize hξ : sb2 ξ 35 104 1 17 (P_X3_record (sel ξ 35 104 1)) = ξ1
  generalize hμ : P_X10_keep μ = μ1
  obtain ⟨r1, r2, r3, r4, r5, r6⟩ := chg hR hk hξ hμ
  obtain ⟨h, n, b, hn, hRS, ht8, ht0, ht1⟩ := hR.1
  have hb := hRS.2.2.2.1.2.1
  have e22 : μ1 1 22 = nI b := by rw [r5 1 (by decide) (by decide)]; exact hRS.2.2.2.1.1
  have e2 := hRS.2.2.2.1.2.2.2.2.1
  obtain ⟨w1, g, w2, w3, w4, w5, w6, w7, w8, w9⟩ := ms_anew e22 hb
  rw [r5 1 (by decide) (by decide)] at w3 w4 w8
  have hSc := hRS.1.1
  have hG : RS 64 0 0 b (P_X7_begin (fun j => ξ1 (1 + j))) g := by
    refine RS_begin ?_ (fun i hi => ?_) ?_ w5 w6 w7 hb ?_ (Pl_c hb hRS.2.2.2.2.2.1 ?_ ?_ w8) w9
    · unfold NumS
      rw [w3 0 (by decide), w3 1 (by decide), w3 2 (by decide), w3 3 (by decide), w3 4 (by decide), w3 5 (by decide), w3 6 (by decide), w3 7 (by decide)]
      exact hRS.2.1.1
    · rw [w3 i hi]
      show μ 1 i = ξ1 (1 + 1) i
      rw [r3 2 (by omega)]
      rcases (show i = 0 ∨ i = 1 ∨ i = 2 ∨ i = 3 ∨ i = 4 ∨ i = 5 ∨ i = 6 ∨ i = 7 by omega) with h | h | h | h | h | h | h | h <;> subst h
      · exact hSc.1
      · exact hSc.2.1
      · exact hSc.2.2.1
      · exact hSc.2.2.2.1
      · exact hSc.2.2.2.2.1
      · exact hSc.2.2.2.2.2.1
      · exact hSc.2.2.2.2.2.2.1
      · exact hSc.2.2.2.2.2.2.2
    · rw [w4, w3 0 (by decide)]
    · show ξ1 (1 + 2) 2 = _
      rw [r3 3 (by omega)]; exact e2
    · exact r3 4 (by omega)
    · exact r3 5 (by omega)
  unfold S_X9_anew S_X9_anew_b0 P_X9_anew P_X9_anew_b0 S_X10_anew S_X10_anew_b0 P_X10_anew P_X10_anew_b0 S_X9_anew_b11c P_X9_anew_b11c S_X9_anew_b18c P_X9_anew_b18c S_X10_anew_b4c P_X10_anew_b4c S_X10_anew_b8c P_X10_anew_b8c
  rw [hξ, hμ, w2]
  refine ⟨⟨r1, cs_begins _, trivial⟩, ⟨r2, w1, trivial⟩, ?_, ?_⟩
  · dsimp only
    rw [u2_at, hG.2.2.2.1.1]
    have := hG.2.2.2.1.2.2.2.2.1
    rw [wbF hb] at this
    exact this
  · dsimp only
    refine r6 _ _ ?_ (fun j hj => ?_) (fun j hj => ?_)
    · rw [u2_at]
      have eS : ∀ j, j < 17 → sb ξ1 1 17 (P_X7_begin (fun j => ξ1 (1 + j))) (1 + j) = P_X7_begin (fun j => ξ1 (1 + j)) j := fun j hj => by
        unfold sb
        rw [if_pos (by omega), show 1 + j - 1 = j by omega]
      refine ⟨0, 0, b, by omega, RS_cells hG (fun j _ hj => eS j hj), ?_, ?_⟩
      · rw [w7 8 (by decide) (by decide) (by decide) (by decide) (by decide)]
        show 0 = sb ξ1 1 17 (P_X7_begin (fun j => ξ1 (1 + j))) (1 + 0) 6
        rw [eS 0 (by decide), cs_begin, u2_ne (by decide), u2_ne (by decide), u2_ne (by decide), u2_at, pk_us]
      · rw [w7 8 (by decide) (by decide) (by decide) (by decide) (by decide), ia_0]; decide
    · unfold sb; rw [if_neg (by omega)]
    · rw [u2_ne hj]
end BG1
