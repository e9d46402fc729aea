/-! put -/
section PU1
theorem pu_255 (i : Nat) : (BitVec.ofNat 64 255).getLsbD i = decide (i < 8) := by
  rw [show (255 : Nat) = 2 ^ 8 - 1 from rfl, BitVec.getLsbD_ofNat, Nat.testBit_two_pow_sub_one]
  by_cases c : i < 8
  · simp [c]; omega
  · simp [c]
theorem pu_sar {n k : Nat} (hk : k ≤ 56) : (lN n >>> lN k) &&& lN 255 = lN (n / 2 ^ k) &&& lN 255 := by
  apply wb_inj
  rw [Int64.toBitVec_and, Int64.toBitVec_and, Int64.toBitVec_shiftRight, wb_tb, wb_tb, wb_tb, wb_tb, show (64 : BitVec 64) = 64 from rfl, wb_sm k (by omega)]
  apply BitVec.eq_of_getLsbD_eq
  intro i hi
  rw [BitVec.getLsbD_and, BitVec.getLsbD_and, pu_255]
  by_cases c : i < 8
  · congr 1
    show ((BitVec.ofNat 64 n).sshiftRight (BitVec.ofNat 64 k).toNat).getLsbD i = (BitVec.ofNat 64 (n / 2 ^ k)).getLsbD i
    rw [BitVec.toNat_ofNat, Nat.mod_eq_of_lt (show k < 2 ^ 64 by omega), BitVec.getLsbD_sshiftRight, BitVec.getLsbD_ofNat, BitVec.getLsbD_ofNat, if_pos (by omega), Nat.testBit_div_two_pow]
    simp [show ¬ 64 ≤ i by omega, show k + i < 64 by omega, show i < 64 by omega, Nat.add_comm]
  · simp [c]
theorem pu_m {w : Nat} (hw : w < 2 ^ 64) : lN w &&& (255 : Int64) = lN (w % 256) := wb_mask (k := 8) hw (by decide)
theorem pu_z {w : Nat} (hw : w < 2 ^ 64) : lN w = 0 ↔ w = 0 := by
  refine ⟨fun h => ?_, fun h => by rw [h]; rfl⟩
  have := congrArg (fun x : Int64 => x.toBitVec.toNat) h
  rw [show (lN w).toBitVec.toNat = w from wb_tn hw] at this
  exact this
theorem pu_dl {n k : Nat} (hn : n < 2 ^ 64) : n / 2 ^ k < 2 ^ 64 := Nat.lt_of_le_of_lt (Nat.div_le_self _ _) hn
theorem pu_nx {n j : Nat} : n / 2 ^ (8 * j) / 2 ^ 8 = n / 2 ^ (8 * (j + 1)) := by
  rw [Nat.div_div_eq_div_mul, ← Nat.pow_add]
  rfl
/-- the q-th byte of a number, from below -/
def By (n q : Nat) : Int32 := nI (n / 2 ^ (8 * q) % 256)
theorem pu_c {n p : Nat} (hn : n < 2 ^ 64) (hp : p < 8) : (((((lN n).toUInt64 >>> (((8 : Int32) * nI p).toInt64.toUInt64 &&& Int64.toUInt64 63)).toInt64 &&& (255 : Int64)).toInt32).toUInt32 % 65536).toInt32 = By n p := by
  rw [show (8 : Int32) * nI p = nI (8 * p) from pk_mul 8 p, wb_shr hn (by omega), pu_m (pu_dl hn), lN_i, pk_char, pk_tn (by omega), Nat.mod_eq_of_lt (by omega)]
  rfl
theorem pu_s {n p : Nat} (hn : n < 2 ^ 64) (hp : p < 8) : ((lN n >>> (((8 : Int32) * nI p).toInt64 &&& 63)) &&& (255 : Int64)).toInt32 = By n p := by
  rw [show (8 : Int32) * nI p = nI (8 * p) from pk_mul 8 p, wb_c (8 * p) (by omega)]
  have e := pu_sar (n := n) (k := 8 * p) (by omega)
  rw [show (255 : Int64) = lN 255 from rfl, e]
  rw [show lN 255 = (255 : Int64) from rfl, pu_m (pu_dl hn), lN_i]
  rfl
theorem pu_nar {n q : Nat} : vp_nar .char (By n q) = By n q := by
  unfold vp_nar By
  rw [(pk_charN (q := n / 2 ^ (8 * q) % 256) (by omega)).1]
theorem ch_loop {n0 : Nat} (hn0 : n0 < 2 ^ 64) {σ : T2} {v1 : Int64} : ∀ (d j fc fm : Nat), j + d = 8 → d < fc → d < fm →
    S_X9_charactersIn_b8 fc (lN (n0 / 2 ^ (8 * j))) (nI j) (nI j) ∧ ∃ m, m ≤ 8 ∧ P_X9_charactersIn_b8 fc (lN (n0 / 2 ^ (8 * j))) (nI j) (nI j) = nI m ∧ ((m = 0 ∧ P_X10_put_b5 fm σ v1 (nI j) (lN (n0 / 2 ^ (8 * j))) = ((-2 : Int32), σ) ∧ S_X10_put_b5 fm σ v1 (nI j) (lN (n0 / 2 ^ (8 * j)))) ∨ (0 < m ∧ P_X10_put_b5 fm σ v1 (nI j) (lN (n0 / 2 ^ (8 * j))) = (if (σ 0 9) + nI m ≤ 80 then P_X10_put_b86 FU σ v1 (nI m) 0 else ((-4 : Int32), σ)) ∧ (((σ 0 9) + nI m ≤ 80 → S_X10_put_b86 FU σ v1 (nI m) 0) → S_X10_put_b5 fm σ v1 (nI j) (lN (n0 / 2 ^ (8 * j)))))) := by
  -- what the model does where it stops reading
  have h55 : ∀ (j w : Nat), j ≤ 8 → w < 2 ^ 64 → (j = 0 ∨ ¬ w = 0 → P_X10_put_b55 σ v1 (nI j) (lN w) = ((-2 : Int32), σ) ∧ S_X10_put_b55 σ v1 (nI j) (lN w)) ∧ (0 < j → w = 0 → P_X10_put_b55 σ v1 (nI j) (lN w) = (if (σ 0 9) + nI j ≤ 80 then P_X10_put_b86 FU σ v1 (nI j) 0 else ((-4 : Int32), σ)) ∧ (((σ 0 9) + nI j ≤ 80 → S_X10_put_b86 FU σ v1 (nI j) 0) → S_X10_put_b55 σ v1 (nI j) (lN w))) := fun j w hj hw => by
    unfold P_X10_put_b55 S_X10_put_b55
    have hz : lg_cmp (lN w) 0 = 0 ↔ w = 0 := (lg_cmp_eq _ _).trans (pu_z hw)
    refine ⟨fun h => ?_, fun h1 h2 => ?_⟩
    · by_cases c : j = 0
      · have z : nI j = 0 := by rw [c]; rfl
        rw [if_pos z]
        exact ⟨rfl, fun _ => trivial, fun h => absurd z h⟩
      · have z : ¬ nI j = 0 := nI_ne0 (by omega) (by omega)
        have hw0 : ¬ w = 0 := by
          rcases h with h | h
          · exact absurd h c
          · exact h
        have z2 : ¬ lg_cmp (lN w) 0 = 0 := fun h => hw0 (hz.mp h)
        rw [if_neg z, if_neg z2]
        exact ⟨rfl, fun h => absurd h z, fun _ => ⟨fun h => absurd h z2, fun _ => trivial⟩⟩
    · have z : ¬ nI j = 0 := nI_ne0 (by omega) (by omega)
      have z2 : lg_cmp (lN w) 0 = 0 := hz.mpr h2
      rw [if_neg z, if_pos z2]
      exact ⟨rfl, fun hS => ⟨fun h => absurd h z, fun _ => ⟨fun _ => ⟨hS, fun _ => trivial⟩, fun h => absurd z2 h⟩⟩⟩
  intro d
  induction d with
  | zero =>
    intro j fc fm hj hfc hfm
    obtain ⟨c, rfl⟩ : ∃ c, fc = c + 1 := ⟨fc - 1, by omega⟩
    obtain ⟨m, rfl⟩ : ∃ m, fm = m + 1 := ⟨fm - 1, by omega⟩
    obtain rfl : j = 8 := by omega
    have c1 : (8 : Int32) ≤ nI 8 := by decide
    have hw : n0 / 2 ^ (8 * 8) = 0 := Nat.div_eq_of_lt hn0
    rw [P_X9_charactersIn_b8_e, S_X9_charactersIn_b8_e, P_X10_put_b5_e, S_X10_put_b5_e, if_pos c1, if_pos c1, hw]
    obtain ⟨a1, a2⟩ := (h55 8 0 (by decide) (by decide)).2 (by decide) rfl
    exact ⟨⟨fun _ => trivial, fun h => absurd c1 h⟩, 8, by decide, rfl, Or.inr ⟨by decide, a1, fun hS => ⟨fun _ => a2 hS, fun h => absurd c1 h⟩⟩⟩
  | succ d ih =>
    intro j fc fm hj hfc hfm
    obtain ⟨c, rfl⟩ : ∃ c, fc = c + 1 := ⟨fc - 1, by omega⟩
    obtain ⟨m, rfl⟩ : ∃ m, fm = m + 1 := ⟨fm - 1, by omega⟩
    have c1 : ¬ (8 : Int32) ≤ nI j := nI_ge (a := j) (b := 8) (by omega) (by omega)
    have hw : n0 / 2 ^ (8 * j) < 2 ^ 64 := pu_dl hn0
    obtain ⟨u1, m', u2', u3, u4⟩ := ih (j + 1) c m (by omega) (by omega) (by omega)
    rw [← pu_nx] at u1 u3 u4
    rw [P_X9_charactersIn_b8_e, S_X9_charactersIn_b8_e, P_X10_put_b5_e, S_X10_put_b5_e, if_neg c1, if_neg c1]
    unfold P_X9_charactersIn_b47n S_X9_charactersIn_b47n P_X10_put_b52n S_X10_put_b52n
    generalize n0 / 2 ^ (8 * j) = w at hw u1 u3 u4 ⊢
    rw [pu_m hw, lN_i, show (8 : Int32) = nI 8 from rfl, wb_shr hw (by decide), nI_1, in9]
    have hz : lg_cmp (lN w) 0 = 0 ↔ w = 0 := (lg_cmp_eq _ _).trans (pu_z hw)
    have hz2 : lg_cmp (lN (w % 256)) 0 = 0 ↔ w % 256 = 0 := (lg_cmp_eq _ _).trans (pu_z (by omega))
    have c1' : ¬ nI 8 ≤ nI j := c1
    by_cases cw : w = 0
    · have z1 : lg_cmp (lN w) 0 = 0 := hz.mpr cw
      have z2 : lg_cmp (lN (w % 256)) 0 = 0 := hz2.mpr (by rw [cw])
      rw [if_pos z1, if_pos z2]
      by_cases cj : j = 0
      · obtain ⟨a1, a2⟩ := (h55 j w (by omega) hw).1 (Or.inl cj)
        exact ⟨⟨fun h => absurd h c1', fun _ => ⟨fun _ => trivial, fun h => absurd z1 h⟩⟩, j, by omega, rfl, Or.inl ⟨cj, a1, fun h => absurd h c1', fun _ => ⟨fun _ => a2, fun h => absurd z2 h⟩⟩⟩
      · obtain ⟨a1, a2⟩ := (h55 j w (by omega) hw).2 (by omega) cw
        exact ⟨⟨fun h => absurd h c1', fun _ => ⟨fun _ => trivial, fun h => absurd z1 h⟩⟩, j, by omega, rfl, Or.inr ⟨by omega, a1, fun hS => ⟨fun h => absurd h c1', fun _ => ⟨fun _ => a2 hS, fun h => absurd z2 h⟩⟩⟩⟩
    · have z1 : ¬ lg_cmp (lN w) 0 = 0 := fun h => cw (hz.mp h)
      rw [if_neg z1]
      by_cases ci : P_X10_in (nI (w % 256)) 33 126 = 0
      · rw [if_pos ci, if_pos ci]
        by_cases c2 : w % 256 = 0
        · have z2 : lg_cmp (lN (w % 256)) 0 = 0 := hz2.mpr c2
          rw [if_pos z2]
          obtain ⟨a1, a2⟩ := (h55 j w (by omega) hw).1 (Or.inr cw)
          exact ⟨⟨fun h => absurd h c1', fun _ => ⟨fun h => absurd h z1, fun _ => ⟨isis _ _ _, fun _ => trivial, fun h => absurd ci h⟩⟩⟩, 0, by decide, rfl, Or.inl ⟨rfl, a1, fun h => absurd h c1', fun _ => ⟨fun _ => a2, fun h => absurd z2 h⟩⟩⟩
        · have z2 : ¬ lg_cmp (lN (w % 256)) 0 = 0 := fun h => c2 (hz2.mp h)
          rw [if_neg z2]
          exact ⟨⟨fun h => absurd h c1', fun _ => ⟨fun h => absurd h z1, fun _ => ⟨isis _ _ _, fun _ => trivial, fun h => absurd ci h⟩⟩⟩, 0, by decide, rfl, Or.inl ⟨rfl, rfl, fun h => absurd h c1', fun _ => ⟨fun h => absurd h z2, fun _ => ⟨ins _ _ _, fun _ => trivial, fun h => absurd ci h⟩⟩⟩⟩
      · have z2 : ¬ lg_cmp (lN (w % 256)) 0 = 0 := fun h => by
          have h0 := hz2.mp h
          have hx := in_ok ci
          rw [h0, nI_toInt (by decide), show (33 : Int32).toInt = 33 from by decide] at hx
          exact absurd hx.1 (by decide)
        rw [if_neg ci, if_neg ci, if_neg z2]
        refine ⟨⟨fun h => absurd h c1', fun _ => ⟨fun h => absurd h z1, fun _ => ⟨isis _ _ _, fun h => absurd h ci, fun _ => u1⟩⟩⟩, m', u2', u3, ?_⟩
        rcases u4 with ⟨x1, x2, x3⟩ | ⟨x1, x2, x3⟩
        · exact Or.inl ⟨x1, x2, fun h => absurd h c1', fun _ => ⟨fun h => absurd h z2, fun _ => ⟨ins _ _ _, fun h => absurd h ci, fun _ => x3⟩⟩⟩
        · exact Or.inr ⟨x1, x2, fun hS => ⟨fun h => absurd h c1', fun _ => ⟨fun h => absurd h z2, fun _ => ⟨ins _ _ _, fun h => absurd h ci, fun _ => x3 hS⟩⟩⟩⟩
theorem cs_app4 {ξ : T2} {L n p : Nat} (e : ξ 175 1 = nI L) (hL : L < 80) : sb ξ 175 2 (P_X4_append (fun j => ξ (175 + j)) (By n p)) = u2 (u2 ξ 176 (upd (ξ 176) L (By n p))) 175 (upd (ξ 175) 1 (nI (L + 1))) ∧ S_X4_append (fun j => ξ (175 + j)) (By n p) := by
  have e' : (fun j => ξ (175 + j)) 0 1 = nI L := e
  have h1 : ¬ nI L < 0 := nI_pos (by omega)
  have h2 : ¬ (80 : Int32) ≤ nI L := nI_ge (a := L) (b := 80) hL (by omega)
  unfold P_X4_append P_X4_append_b0 S_X4_append S_X4_append_b0
  rw [e', if_neg h1, if_neg h2, nI_clamp (n := L) (by omega), nI_1, pu_nar]
  rw [sb_u2 (k := 175) (by decide) rfl, sb_u2 (k := 176) (by decide) rfl, sb_self]
  exact ⟨rfl, fun h => absurd h h1, fun _ => ⟨fun h => absurd h h2, fun _ => ⟨vp_in_nI hL (by omega), trivial⟩⟩⟩
theorem cb_loop {n0 : Nat} (hn0 : n0 < 2 ^ 64) : ∀ (q f L : Nat) (ξ : T2), q < f → q ≤ 8 → L + q ≤ 80 → ξ 175 1 = nI L →
    S_X9_put_b34 f ξ (lN n0) (nI q - 1) ∧ (P_X9_put_b34 f ξ (lN n0) (nI q - 1)).1 = nI (L + q) ∧ (P_X9_put_b34 f ξ (lN n0) (nI q - 1)).2 175 1 = nI (L + q) ∧ (∀ i, i < L → (P_X9_put_b34 f ξ (lN n0) (nI q - 1)).2 176 i = ξ 176 i) ∧ (∀ i, i < q → (P_X9_put_b34 f ξ (lN n0) (nI q - 1)).2 176 (L + i) = By n0 (q - 1 - i)) ∧ (∀ j, j ≠ 175 → j ≠ 176 → (P_X9_put_b34 f ξ (lN n0) (nI q - 1)).2 j = ξ j) := by
  intro q
  induction q with
  | zero =>
    intro f L ξ hf hq hL e
    obtain ⟨c, rfl⟩ : ∃ c, f = c + 1 := ⟨f - 1, by omega⟩
    have c1 : nI 0 - 1 < 0 := by decide
    rw [P_X9_put_b34_e, S_X9_put_b34_e, if_pos c1]
    exact ⟨⟨fun _ => trivial, fun h => absurd c1 h⟩, e, e, fun _ _ => rfl, fun i hi => absurd hi (by omega), fun _ _ _ => rfl⟩
  | succ q ih =>
    intro f L ξ hf hq hL e
    obtain ⟨c, rfl⟩ : ∃ c, f = c + 1 := ⟨f - 1, by omega⟩
    have c1 : ¬ nI q < 0 := nI_pos (by omega)
    rw [nI_pred]
    obtain ⟨a1, a2⟩ := cs_app4 (n := n0) (p := q) e (by omega)
    obtain ⟨u1, u2', u3, u4, u5, u6⟩ := ih c (L + 1) (u2 (u2 ξ 176 (upd (ξ 176) L (By n0 q))) 175 (upd (ξ 175) 1 (nI (L + 1)))) (by omega) (by omega) (by omega) (by rw [u2_at, pk_us])
    rw [P_X9_put_b34_e, S_X9_put_b34_e, if_neg c1, pu_c hn0 (by omega), a1]
    unfold P_X9_put_b59c S_X9_put_b59c
    rw [show nI q + (-1) = nI q - 1 from (Int32.sub_eq_add_neg _ _).symm]
    generalize P_X9_put_b34 c (u2 (u2 ξ 176 (upd (ξ 176) L (By n0 q))) 175 (upd (ξ 175) 1 (nI (L + 1)))) (lN n0) (nI q - 1) = R at u2' u3 u4 u5 u6 ⊢
    refine ⟨⟨fun h => absurd h c1, fun _ => ⟨a2, u1⟩⟩, ?_, ?_, fun i hi => ?_, fun i hi => ?_, fun j h5 h6 => ?_⟩
    · rw [u2', show L + 1 + q = L + (q + 1) by omega]
    · rw [u3, show L + 1 + q = L + (q + 1) by omega]
    · rw [u4 i (by omega), u2_ne (by decide), u2_at, pk_un (by omega)]
    · by_cases ci : i = 0
      · subst ci
        rw [show L + 0 = L from rfl, u4 L (by omega), u2_ne (by decide), u2_at, pk_us]
        rfl
      · have := u5 (i - 1) (by omega)
        rw [show L + 1 + (i - 1) = L + i by omega] at this
        rw [this, show q - 1 - (i - 1) = q + 1 - 1 - i by omega]
    · rw [u6 j h5 h6, u2_ne h5, u2_ne h6]
theorem mb_loop {n0 m L : Nat} (hn0 : n0 < 2 ^ 64) (hm : m ≤ 8) (hL : L + m ≤ 80) : ∀ (d f j : Nat) (μ : T2), j + d = m → d < f → μ 0 9 = nI L →
    S_X10_put_b86 f μ (lN n0) (nI m) (nI j) ∧ (P_X10_put_b86 f μ (lN n0) (nI m) (nI j)).1 = nI (L + m) ∧ (P_X10_put_b86 f μ (lN n0) (nI m) (nI j)).2 0 = upd (μ 0) 9 (nI (L + m)) ∧ (∀ i, i < L + j → (P_X10_put_b86 f μ (lN n0) (nI m) (nI j)).2 6 i = μ 6 i) ∧ (∀ i, j ≤ i → i < m → (P_X10_put_b86 f μ (lN n0) (nI m) (nI j)).2 6 (L + i) = By n0 (m - 1 - i)) ∧ (∀ i, i ≠ 0 → i ≠ 6 → (P_X10_put_b86 f μ (lN n0) (nI m) (nI j)).2 i = μ i) := by
  intro d
  induction d with
  | zero =>
    intro f j μ hj hf e
    obtain ⟨c, rfl⟩ : ∃ c, f = c + 1 := ⟨f - 1, by omega⟩
    obtain rfl : j = m := by omega
    have c1 : nI j ≤ nI j := nI_le (Nat.le_refl _) (by omega)
    rw [P_X10_put_b86_e, S_X10_put_b86_e, if_pos c1, e, nI_add]
    refine ⟨⟨fun _ => trivial, fun h => absurd c1 h⟩, rfl, ?_, fun i hi => ?_, fun i h1 h2 => absurd h1 (by omega), fun i h0 h6 => ?_⟩
    · dsimp only; rw [u2_at]
    · dsimp only; rw [u2_ne (by decide)]
    · dsimp only; rw [u2_ne h0]
  | succ d ih =>
    intro f j μ hj hf e
    obtain ⟨c, rfl⟩ : ∃ c, f = c + 1 := ⟨f - 1, by omega⟩
    have c1 : ¬ nI m ≤ nI j := nI_ge (by omega) (by omega)
    rw [P_X10_put_b86_e, S_X10_put_b86_e, if_neg c1, e, nI_add, nI_clamp (n := L + j) (by omega), nI_1, nI_predb (by omega), pk_sub (show j ≤ m - 1 by omega), pu_s hn0 (by omega)]
    obtain ⟨u1, u2', u3, u4, u5, u6⟩ := ih c (j + 1) (u2 μ 6 (upd (μ 6) (L + j) (By n0 (m - 1 - j)))) (by omega) (by omega) (by rw [u2_ne (by decide), e])
    generalize P_X10_put_b86 c (u2 μ 6 (upd (μ 6) (L + j) (By n0 (m - 1 - j)))) (lN n0) (nI m) (nI (j + 1)) = R at u2' u3 u4 u5 u6 ⊢
    refine ⟨⟨fun h => absurd h c1, fun _ => ⟨vp_in_nI (by omega) (by omega), u1⟩⟩, u2', ?_, fun i hi => ?_, fun i h1 h2 => ?_, fun i h0 h6 => ?_⟩
    · rw [u3, u2_ne (by decide)]
    · rw [u4 i (by omega), u2_at, pk_un (by omega)]
    · by_cases ci : i = j
      · subst ci
        rw [u4 (L + i) (by omega), u2_at, pk_us]
      · exact u5 i (by omega) h2
    · rw [u6 i h0 h6, u2_ne h6]
theorem ok_put : Ok_put Rel := by
  intro k ξ μ x0 hk hR
  have hRm := Rel_mono _ _ _ hR
  obtain ⟨h1, ⟨nx, pf, pm, h21, h22⟩, h3, ⟨L, p1, p2, p3, p4⟩, h5⟩ := hRm
  obtain ⟨n0, hn0, rfl⟩ := wb_of x0
  have f1 := fu64
  obtain ⟨s1, m, m8, s2, s3⟩ := ch_loop (σ := μ) (v1 := lN n0) hn0 8 0 FU FU (by decide) (by omega) (by omega)
  rw [show n0 / 2 ^ (8 * 0) = n0 from Nat.div_one _, nI_0] at s1 s2 s3
  unfold S_X9_put S_X9_put_b0 P_X9_put P_X9_put_b0 S_X10_put P_X10_put S_X10_put_b0 P_X10_put_b0
  have e9 : P_X9_charactersIn (lN n0) = nI m := s2
  have e9s : S_X9_charactersIn (lN n0) := s1
  rw [e9, p2]
  rcases s3 with ⟨rfl, s4, s5⟩ | ⟨hm0, s4, s5⟩
  · rw [if_pos (show nI 0 = 0 from rfl), s4]
    exact ⟨⟨e9s, fun _ => trivial, fun h => absurd rfl h⟩, s5, rfl, Rel_mono _ _ _ hR⟩
  · have z : ¬ nI m = 0 := nI_ne0 hm0 (by omega)
    rw [if_neg z, s4, p3, nI_add]
    rw [p3, nI_add] at s5
    by_cases c : L + m ≤ 80
    · have c' : nI (L + m) ≤ 80 := nI_le (a := L + m) (b := 80) c (by omega)
      rw [if_pos c', if_pos c']
      obtain ⟨u1, u2', u3, u4, u5, u6⟩ := cb_loop hn0 m FU L ξ (by omega) m8 c p2
      obtain ⟨w1, w2, w3, w4, w5, w6⟩ := mb_loop hn0 m8 c m FU 0 μ (by omega) (by omega) p3
      rw [nI_0] at w1 w2 w3 w4 w5 w6
      refine ⟨⟨e9s, fun h => absurd h z, fun _ => ⟨fun _ => u1, fun h => absurd c' h⟩⟩, s5 (fun _ => w1), by rw [u2', w2], ?_⟩
      generalize P_X9_put_b34 FU ξ (lN n0) (nI m - 1) = R at u3 u4 u5 u6 ⊢
      generalize P_X10_put_b86 FU μ (lN n0) (nI m) 0 = R2 at w3 w4 w5 w6 ⊢
      refine ⟨SC_f (SC_cells h1 (fun j hj => u6 _ (by omega) (by omega))) (fun i _ => by rw [w6 1 (by decide) (by decide)]), ⟨nx, pf, pm, h21, Hist_c h22 (u6 35 (by decide) (by decide)) (fun j _ _ => u6 j (by omega) (by omega)) (by rw [w3, pk_un (by decide)]) (by rw [w3, pk_un (by decide)]) (fun i _ => by rw [w6 2 (by decide) (by decide)])⟩, Slots_c h3 (u6 174 (by decide) (by decide)) (fun j _ _ => u6 j (by omega) (by omega)) (w6 4 (by decide) (by decide)) (fun i _ => by rw [w6 3 (by decide) (by decide)]), ⟨L + m, c, u3, by rw [w3, pk_us], fun i hi => ?_⟩, by rw [w3, pk_un (by decide), h5]⟩
      by_cases ci : i < L
      · rw [u4 i ci, w4 i (by omega)]; exact p4 i ci
      · have a := u5 (i - L) (by omega)
        have b := w5 (i - L) (by omega) (by omega)
        rw [show L + (i - L) = i by omega] at a b
        rw [a, b]
    · have c' : ¬ nI (L + m) ≤ 80 := nI_ge (a := 80) (b := L + m) (by omega) (by omega)
      rw [if_neg c', if_neg c']
      exact ⟨⟨e9s, fun h => absurd h z, fun _ => ⟨fun h => absurd h c', fun _ => trivial⟩⟩, s5 (fun h => absurd h c'), rfl, Rel_mono _ _ _ hR⟩
end PU1
