/-! the relation of the two states; a change recorded on both sides -/
section RE1
def Hist (N nx pf pm : Nat) (ξ μ : T2) : Prop := (ξ 35 1 = nI nx ∧ ξ 35 2 = nI pm ∧ μ 0 2 = nI pf ∧ μ 0 3 = nI pm) ∧ pm ≤ 6 ∧ pf < 6 ∧ pm ≤ nx ∧ ∀ i, i < pm → SC N (fun j => ξ (37 + 17 * ((nx - pm + i) % 6) + j)) (fun q => μ 2 (672 * ((pf + i) % 6) + q))
def Slots (N : Nat) (ξ μ : T2) : Prop := ∀ s, s < 2 → (ξ 174 s = 0 ∧ μ 4 s = 0) ∨ (ξ 174 s = 1 ∧ μ 4 s = 1 ∧ SC N (fun j => ξ (140 + 17 * s + j)) (fun q => μ 3 (672 * s + q)))
def PadR (ξ μ : T2) : Prop := ∃ L, L ≤ 80 ∧ ξ 175 1 = nI L ∧ μ 0 9 = nI L ∧ ∀ i, i < L → ξ 176 i = μ 6 i
def Rel (k : Nat) (ξ μ : T2) : Prop := SC (1400 * k) (fun j => ξ (1 + j)) (μ 1) ∧ (∃ nx pf pm, nx ≤ k ∧ Hist (1400 * k) nx pf pm ξ μ) ∧ Slots (1400 * k) ξ μ ∧ PadR ξ μ ∧ μ 0 7 = -6
theorem Hist_mono {N N' nx pf pm : Nat} {ξ μ : T2} (h : Hist N nx pf pm ξ μ) (hN : N ≤ N') : Hist N' nx pf pm ξ μ := ⟨h.1, h.2.1, h.2.2.1, h.2.2.2.1, fun i hi => SC_mono (h.2.2.2.2 i hi) hN⟩
theorem Slots_mono {N N' : Nat} {ξ μ : T2} (h : Slots N ξ μ) (hN : N ≤ N') : Slots N' ξ μ := fun s hs => by
  rcases h s hs with c | ⟨c1, c2, c3⟩
  · exact Or.inl c
  · exact Or.inr ⟨c1, c2, SC_mono c3 hN⟩
theorem Rel_mono (n : Nat) (ξ μ : T2) (h : Rel n ξ μ) : Rel (n + 1) ξ μ := by
  obtain ⟨h1, ⟨nx, pf, pm, h2, h3⟩, h4, h5, h6⟩ := h
  exact ⟨SC_mono h1 (by omega), ⟨nx, pf, pm, by omega, Hist_mono h3 (by omega)⟩, Slots_mono h4 (by omega), h5, h6⟩
theorem Hist_c {N nx pf pm : Nat} {ξ μ ξ' μ' : T2} (h : Hist N nx pf pm ξ μ) (e35 : ξ' 35 = ξ 35) (e : ∀ j, 37 ≤ j → j < 139 → ξ' j = ξ j) (m2 : μ' 0 2 = μ 0 2) (m3 : μ' 0 3 = μ 0 3) (e2 : ∀ i, i < 4032 → μ' 2 i = μ 2 i) : Hist N nx pf pm ξ' μ' := by
  obtain ⟨⟨a, b, c, d⟩, h1, h2, h3, h4⟩ := h
  refine ⟨⟨by rw [e35, a], by rw [e35, b], by rw [m2, c], by rw [m3, d]⟩, h1, h2, h3, fun i hi => ?_⟩
  refine SC_f (SC_cells (h4 i hi) (fun j hj => e _ (by omega) (by omega))) (fun q hq => e2 _ (by omega))
theorem Slots_c {N : Nat} {ξ μ ξ' μ' : T2} (h : Slots N ξ μ) (e174 : ξ' 174 = ξ 174) (e : ∀ j, 140 ≤ j → j < 174 → ξ' j = ξ j) (m4 : μ' 4 = μ 4) (e3 : ∀ i, i < 1344 → μ' 3 i = μ 3 i) : Slots N ξ' μ' := fun s hs => by
  rw [e174, m4]
  rcases h s hs with c | ⟨c1, c2, c3⟩
  · exact Or.inl c
  · exact Or.inr ⟨c1, c2, SC_f (SC_cells c3 (fun j hj => e _ (by omega) (by omega))) (fun q hq => e3 _ (by omega))⟩
theorem PadR_c {ξ μ ξ' μ' : T2} (h : PadR ξ μ) (e175 : ξ' 175 = ξ 175) (e176 : ξ' 176 = ξ 176) (m9 : μ' 0 9 = μ 0 9) (m6 : μ' 6 = μ 6) : PadR ξ' μ' := by
  obtain ⟨L, h1, h2, h3, h4⟩ := h
  exact ⟨L, h1, by rw [e175, h2], by rw [m9, h3], fun i hi => by rw [e176, m6]; exact h4 i hi⟩
/-- what lies outside of the relation -/
theorem Rel_c {k : Nat} {ξ μ ξ' μ' : T2} (h : Rel k ξ μ) (e : ∀ j, (1 ≤ j ∧ j < 18) ∨ j = 35 ∨ (37 ≤ j ∧ j < 139) ∨ (140 ≤ j ∧ j < 177) → ξ' j = ξ j) (m0 : μ' 0 2 = μ 0 2 ∧ μ' 0 3 = μ 0 3 ∧ μ' 0 7 = μ 0 7 ∧ μ' 0 9 = μ 0 9) (m1 : ∀ i, i < 672 → μ' 1 i = μ 1 i) (m2 : μ' 2 = μ 2) (m3 : μ' 3 = μ 3) (m4 : μ' 4 = μ 4) (m6 : μ' 6 = μ 6) : Rel k ξ' μ' := by
  obtain ⟨h1, ⟨nx, pf, pm, h2, h3⟩, h4, h5, h6⟩ := h
  refine ⟨SC_f (SC_cells h1 (fun j hj => e _ (by omega))) m1, ⟨nx, pf, pm, h2, Hist_c h3 (e 35 (by omega)) (fun j a b => e j (by omega)) m0.1 m0.2.1 (fun i _ => by rw [m2])⟩, Slots_c h4 (e 174 (by omega)) (fun j a b => e j (by omega)) m4 (fun i _ => by rw [m3]), PadR_c h5 (e 175 (by omega)) (e 176 (by omega)) m0.2.2.2 m6, by rw [m0.2.2.1, h6]⟩
theorem fm6 {n : Nat} (h : n < 1000000) : P_J9_floorMod_7cf53 (nI n) 6 = nI (n % 6) := by
  unfold P_J9_floorMod_7cf53 P_J9_floorMod_7cf53_b0
  rw [if_pos ((ia_xor (by decide)).mpr (by rw [nI_toInt (by omega)]; omega))]
  exact pk_rem (a := n) (d := 6) (by omega) (by decide) (by decide)
theorem fm6s (x : Int32) : S_J9_floorMod_7cf53 x 6 := by
  unfold S_J9_floorMod_7cf53 S_J9_floorMod_7cf53_b0
  exact ⟨by decide, fun _ => trivial, fun _ => ⟨fun _ => trivial, fun _ => trivial⟩⟩
theorem rec_ok {ξ : T2} {nx pm : Nat} (e1 : ξ 35 1 = nI nx) (e2 : ξ 35 2 = nI pm) (hnx : nx < 1000000) (hpm : pm ≤ 6) : S_X3_record (sel ξ 35 104 1) ∧ (sb2 ξ 35 104 1 17 (P_X3_record (sel ξ 35 104 1)) 35 1 = nI (nx + 1) ∧ sb2 ξ 35 104 1 17 (P_X3_record (sel ξ 35 104 1)) 35 2 = nI (if 6 < pm + 1 then 6 else pm + 1)) ∧ (∀ j, j ≠ 35 → ¬ (37 + 17 * (nx % 6) ≤ j ∧ j < 37 + 17 * (nx % 6) + 17) → sb2 ξ 35 104 1 17 (P_X3_record (sel ξ 35 104 1)) j = ξ j) ∧ Ag (fun j => ξ (1 + j)) (fun j => sb2 ξ 35 104 1 17 (P_X3_record (sel ξ 35 104 1)) (37 + 17 * (nx % 6) + j)) := by
  have hp : nx % 6 < 6 := Nat.mod_lt _ (by decide)
  have h01 : sel ξ 35 104 1 0 1 = nI nx := e1
  have h02 : sel ξ 35 104 1 0 2 = nI pm := e2
  have hH : ∀ c, c < 104 → sel ξ 35 104 1 c = ξ (35 + c) := fun c hc => by unfold sel; rw [if_pos hc]
  have hL : ∀ c, 104 ≤ c → sel ξ 35 104 1 c = ξ (1 + (c - 104)) := fun c hc => by unfold sel; rw [if_neg (by omega)]
  obtain ⟨hA, hO⟩ := scp (sel ξ 35 104 1) (2 + 17 * (nx % 6)) 104 (by omega)
  have hR : P_X3_record (sel ξ 35 104 1) = u2 (sb2 (sel ξ 35 104 1) (2 + 17 * (nx % 6)) 17 104 17 (P_X7_copyFrom (sel (sel ξ 35 104 1) (2 + 17 * (nx % 6)) 17 104))) 0 (upd (upd (sel ξ 35 104 1 0) 1 (nI (nx + 1))) 2 (nI (if 6 < pm + 1 then 6 else pm + 1))) := by
    unfold P_X3_record P_X3_record_b0 P_X3_record_b18c
    rw [h01, fm6 hnx, nI_clamp (by omega)]
    have h0 : sb2 (sel ξ 35 104 1) (2 + 17 * (nx % 6)) 17 104 17 (P_X7_copyFrom (sel (sel ξ 35 104 1) (2 + 17 * (nx % 6)) 17 104)) 0 = sel ξ 35 104 1 0 := hO 0 (by omega)
    rw [h0, h01, h02, nI_1, nI_1]
    congr 2
    by_cases c : 6 < pm + 1
    · rw [if_pos c, if_pos (show (6 : Int32) < nI (pm + 1) from nI_lt (a := 6) c (by omega))]
      rfl
    · rw [if_neg c, if_neg (show ¬ (6 : Int32) < nI (pm + 1) from nI_nlt (b := pm + 1) (a := 6) (by omega) (by omega))]
  have hS : ∀ j, 35 ≤ j → j < 139 → sb2 ξ 35 104 1 17 (P_X3_record (sel ξ 35 104 1)) j = P_X3_record (sel ξ 35 104 1) (j - 35) := fun j a b => by
    unfold sb2; rw [if_pos (by omega)]
  refine ⟨?_, ⟨?_, ?_⟩, fun j hj hj2 => ?_, ?_⟩
  · unfold S_X3_record S_X3_record_b0
    rw [h01, fm6 hnx]
    exact ⟨fm6s _, vp_in_nI hp (by omega), cs_copies _, trivial⟩
  · rw [hS 35 (by decide) (by decide), hR, u2_at, pk_un (by decide), pk_us]
  · rw [hS 35 (by decide) (by decide), hR, u2_at, pk_us]
  · by_cases c1 : 35 ≤ j ∧ j < 139
    · rw [hS j c1.1 c1.2, hR, u2_ne (by omega), hO _ (by omega), hH _ (by omega), show 35 + (j - 35) = j by omega]
    · by_cases c2 : 1 ≤ j ∧ j < 18
      · have : sb2 ξ 35 104 1 17 (P_X3_record (sel ξ 35 104 1)) j = P_X3_record (sel ξ 35 104 1) (104 + (j - 1)) := by
          unfold sb2; rw [if_neg (by omega), if_pos (by omega)]
        rw [this, hR, u2_ne (by omega), hO _ (by omega), hL _ (by omega), show 1 + (104 + (j - 1) - 104) = j by omega]
      · unfold sb2
        rw [if_neg (by omega), if_neg (by omega)]
  · have e3 : (fun j => sel ξ 35 104 1 (104 + j)) = fun j => ξ (1 + j) := by
      funext j
      rw [hL _ (by omega), show 1 + (104 + j - 104) = 1 + j by omega]
    rw [e3] at hA
    have e4 : ∀ j, j < 17 → sb2 ξ 35 104 1 17 (P_X3_record (sel ξ 35 104 1)) (37 + 17 * (nx % 6) + j) = sb2 (sel ξ 35 104 1) (2 + 17 * (nx % 6)) 17 104 17 (P_X7_copyFrom (sel (sel ξ 35 104 1) (2 + 17 * (nx % 6)) 17 104)) (2 + 17 * (nx % 6) + j) := fun j hj => by
      rw [hS _ (by omega) (by omega), hR, u2_ne (by omega), show 37 + 17 * (nx % 6) + j - 35 = 2 + 17 * (nx % 6) + j by omega]
    obtain ⟨a1, a2, a3, a10, a15, a16, a0⟩ := hA
    refine ⟨fun i hi => ?_, ?_, fun j hj i hi => ?_, ?_, fun i hi => ?_, fun i hi => ?_, ?_⟩
    · exact (congrFun (e4 1 (by decide)) i).trans (a1 i hi)
    · exact (congrFun (e4 2 (by decide)) 2).trans a2
    · exact (congrFun (e4 j (by omega)) i).trans (a3 j hj i hi)
    · exact (congrFun (e4 10 (by decide)) 4).trans a10
    · exact (congrFun (e4 15 (by decide)) i).trans (a15 i hi)
    · exact (congrFun (e4 16 (by decide)) i).trans (a16 i hi)
    · exact (congrFun (e4 0 (by decide)) 6).trans a0
theorem FU_672 : 672 < FU := by rw [FU_eq]; decide
theorem keep_ok {μ : T2} {pf pm : Nat} (e2 : μ 0 2 = nI pf) (e3 : μ 0 3 = nI pm) (hpf : pf < 6) (hpm : pm ≤ 6) : S_X10_keep μ ∧ (P_X10_keep μ 0 2 = nI (if pm = 6 then (pf + 1) % 6 else pf) ∧ P_X10_keep μ 0 3 = nI (if 6 < pm + 1 then 6 else pm + 1)) ∧ (∀ i, i ≠ 2 → i ≠ 3 → P_X10_keep μ 0 i = μ 0 i) ∧ (∀ j, j ≠ 0 → j ≠ 2 → P_X10_keep μ j = μ j) ∧ (∀ i, P_X10_keep μ 2 i = if 672 * ((pf + pm) % 6) ≤ i ∧ i < 672 * ((pf + pm) % 6) + 672 then μ 1 (i - 672 * ((pf + pm) % 6)) else μ 2 i) := by
  have h32 : ∀ (ν : T2) (a b : Nat), ν 0 2 = nI a → ν 0 3 = nI b → a < 6 → b < 6 → S_X10_keep_b32 ν ∧ P_X10_keep_b32 ν = u2 (cpyT 2 1 (672 * ((a + b) % 6)) 0 0 ν) 0 (upd (ν 0) 3 (nI (b + 1))) := fun ν a b h2 h3 ha hb => by
    unfold S_X10_keep_b32 P_X10_keep_b32 S_X10_keep_b45n P_X10_keep_b45n
    rw [h2, h3, nI_add]
    rw [show nI (a + b) - nI (a + b) / (6 : Int32) * (6 : Int32) = nI ((a + b) % 6) from pk_rem (a := a + b) (d := 6) (by omega) (by decide) (by decide)]
    obtain ⟨k1, k2⟩ := keep_loop (p := (a + b) % 6) (Nat.mod_lt _ (by decide)) 672 FU 0 ν (by omega) FU_672
    rw [nI_0] at k1 k2
    refine ⟨k2, ?_⟩
    rw [k1]
    have e0 : cpyT 2 1 (672 * ((a + b) % 6)) 0 0 ν 0 = ν 0 := by unfold cpyT; rw [u2_ne (by decide)]
    rw [e0, h3, nI_1]
  unfold S_X10_keep P_X10_keep S_X10_keep_b0 P_X10_keep_b0
  by_cases c : pm = 6
  · have c3 : μ 0 3 = 6 := by rw [e3, c]; rfl
    rw [if_pos c3]
    have ef : upd (upd (μ 0) 2 ((μ 0 2 + 1) - (μ 0 2 + 1) / (6 : Int32) * (6 : Int32))) 3 (μ 0 3 - 1) = upd (upd (μ 0) 2 (nI ((pf + 1) % 6))) 3 (nI 5) := by
      rw [e2, nI_1, show nI (pf + 1) - nI (pf + 1) / (6 : Int32) * (6 : Int32) = nI ((pf + 1) % 6) from pk_rem (a := pf + 1) (d := 6) (by omega) (by decide) (by decide), c3]
      rfl
    rw [ef]
    obtain ⟨k1, k2⟩ := h32 (u2 μ 0 (upd (upd (μ 0) 2 (nI ((pf + 1) % 6))) 3 (nI 5))) ((pf + 1) % 6) 5 (by rw [u2_at, pk_un (by decide), pk_us]) (by rw [u2_at, pk_us]) (Nat.mod_lt _ (by decide)) (by decide)
    have ep : ((pf + 1) % 6 + 5) % 6 = (pf + pm) % 6 := by omega
    rw [ep] at k2
    rw [k2]
    refine ⟨⟨fun _ => k1, fun h => absurd c3 h⟩, ⟨?_, ?_⟩, fun i h2 h3 => ?_, fun j h0 h2 => ?_, fun i => ?_⟩
    · rw [u2_at, u2_at, pk_un (by decide), pk_un (by decide), pk_us, if_pos c]
    · rw [u2_at, pk_us, if_pos (by omega)]
    · rw [u2_at, u2_at, pk_un h3, pk_un h3, pk_un h2]
    · rw [u2_ne h0]; unfold cpyT; rw [u2_ne h2, u2_ne h0]
    · rw [u2_ne (by decide)]; unfold cpyT; rw [u2_at]
      simp only [Nat.add_zero, Nat.zero_add]
      rw [u2_ne (by decide), u2_ne (by decide)]
  · have c3 : ¬ μ 0 3 = 6 := by
      rw [e3]
      exact fun h => c ((nI_eq (a := pm) (b := 6) (by omega) (by omega)).mp h)
    rw [if_neg c3]
    obtain ⟨k1, k2⟩ := h32 μ pf pm e2 e3 hpf (by omega)
    rw [k2]
    refine ⟨⟨fun h => absurd h c3, fun _ => k1⟩, ⟨?_, ?_⟩, fun i h2 h3 => ?_, fun j h0 h2 => ?_, fun i => ?_⟩
    · rw [u2_at, pk_un (by decide), e2, if_neg c]
    · rw [u2_at, pk_us, if_neg (by omega)]
    · rw [u2_at, pk_un h3]
    · rw [u2_ne h0]; unfold cpyT; rw [u2_ne h2]
    · rw [u2_ne (by decide)]; unfold cpyT; rw [u2_at]
      simp only [Nat.add_zero, Nat.zero_add]
/-- a change recorded on both sides: the histories stay alike, the scenes stay as they are -/
theorem Rel_rec {k : Nat} {ξ μ : T2} (h : Rel k ξ μ) (hk : k < 512) : S_X3_record (sel ξ 35 104 1) ∧ S_X10_keep μ ∧ (∃ nx pf pm, nx ≤ k + 1 ∧ Hist (1400 * (k + 1)) nx pf pm (sb2 ξ 35 104 1 17 (P_X3_record (sel ξ 35 104 1))) (P_X10_keep μ)) ∧ (∀ j, (1 ≤ j ∧ j < 18) ∨ (18 ≤ j ∧ j < 35) ∨ 139 ≤ j → sb2 ξ 35 104 1 17 (P_X3_record (sel ξ 35 104 1)) j = ξ j) ∧ (∀ i, i ≠ 2 → i ≠ 3 → P_X10_keep μ 0 i = μ 0 i) ∧ (∀ j, j ≠ 0 → j ≠ 2 → P_X10_keep μ j = μ j) := by
  obtain ⟨h1, ⟨nx, pf, pm, h2, ⟨⟨a, b, c, d⟩, h3, h4, h5, h6⟩⟩, -⟩ := h
  obtain ⟨r1, ⟨r2, r3⟩, r4, r5⟩ := rec_ok a b (by omega) h3
  obtain ⟨k1, ⟨k2, k3⟩, k4, k5, k6⟩ := keep_ok c d h4 h3
  have hm6 : nx % 6 < 6 := Nat.mod_lt _ (by decide)
  refine ⟨r1, k1, ⟨nx + 1, if pm = 6 then (pf + 1) % 6 else pf, if 6 < pm + 1 then 6 else pm + 1, by omega, ⟨r2, r3, k2, k3⟩, by split <;> omega, ?_, by split <;> omega, fun i hi => ?_⟩, fun j hj => r4 j (by omega) (by omega), k4, k5⟩
  · split
    · exact Nat.mod_lt _ (by decide)
    · exact h4
  · -- the new one is the last; the others are where they were
    have hnew : SC (1400 * (k + 1)) (fun j => sb2 ξ 35 104 1 17 (P_X3_record (sel ξ 35 104 1)) (37 + 17 * (nx % 6) + j)) (fun q => P_X10_keep μ 2 (672 * ((pf + pm) % 6) + q)) := by
      refine SC_f (SC_Ag (SC_mono h1 (by omega)) r5) (fun q hq => ?_)
      show P_X10_keep μ 2 (672 * ((pf + pm) % 6) + q) = μ 1 q
      rw [k6, if_pos (by omega), show 672 * ((pf + pm) % 6) + q - 672 * ((pf + pm) % 6) = q by omega]
    have hold : ∀ e, e < pm → (nx - pm + e) % 6 ≠ nx % 6 → (pf + e) % 6 ≠ (pf + pm) % 6 → SC (1400 * (k + 1)) (fun j => sb2 ξ 35 104 1 17 (P_X3_record (sel ξ 35 104 1)) (37 + 17 * ((nx - pm + e) % 6) + j)) (fun q => P_X10_keep μ 2 (672 * ((pf + e) % 6) + q)) := fun e he n1 n2 => by
      have hm1 : (nx - pm + e) % 6 < 6 := Nat.mod_lt _ (by decide)
      have hm2 : (pf + e) % 6 < 6 := Nat.mod_lt _ (by decide)
      refine SC_f (SC_cells (SC_mono (h6 e he) (by omega)) (fun j hj => r4 _ (by omega) (by omega))) (fun q hq => ?_)
      show P_X10_keep μ 2 (672 * ((pf + e) % 6) + q) = μ 2 (672 * ((pf + e) % 6) + q)
      rw [k6, if_neg (by omega)]
    by_cases c6 : pm = 6
    · rw [if_pos c6, if_pos (by omega)]
      rw [if_pos (by omega)] at hi
      by_cases c5 : i = 5
      · rw [show (nx + 1 - 6 + i) % 6 = nx % 6 by omega, show ((pf + 1) % 6 + i) % 6 = (pf + pm) % 6 by omega]
        exact hnew
      · rw [show (nx + 1 - 6 + i) % 6 = (nx - pm + (i + 1)) % 6 by omega, show ((pf + 1) % 6 + i) % 6 = (pf + (i + 1)) % 6 by omega]
        exact hold (i + 1) (by omega) (by omega) (by omega)
    · rw [if_neg c6, if_neg (by omega)]
      rw [if_neg (by omega)] at hi
      by_cases c5 : i = pm
      · rw [show (nx + 1 - (pm + 1) + i) % 6 = nx % 6 by omega, show (pf + i) % 6 = (pf + pm) % 6 by omega]
        exact hnew
      · rw [show nx + 1 - (pm + 1) + i = nx - pm + i by omega]
        exact hold i (by omega) (by omega) (by omega)
end RE1
