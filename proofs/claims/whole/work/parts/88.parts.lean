/-! the two readers: signs, beats, parts -/
section RP1
def BT (m a c : Nat) (σ μ : T2) : Prop := (σ 0 2 = nI m ∧ μ 0 13 = nI m ∧ σ 0 5 = nI a ∧ μ 0 14 = nI a ∧ σ 0 6 = nI c ∧ μ 0 15 = nI c) ∧ ∀ i, i < m → i < 64 → σ 1 i = μ 7 i ∧ σ 2 i = μ 8 i ∧ ∃ g z, σ 1 i = nI g ∧ 1 ≤ g ∧ g ≤ 900000 ∧ σ 2 i = nI z ∧ z ≤ 10000
def St (p : Nat) (σ μ : T2) : Prop := σ 0 3 = -6 ∧ μ 0 11 = 0 ∧ σ 0 4 = nI p ∧ μ 0 10 = nI p
def Bad (q : Nat) (σ μ : T2) : Prop := σ 0 3 = nI q ∧ μ 0 10 = nI q ∧ μ 0 11 = 1 ∧ q ≤ 80
def Fr3 (σ σ' : T2) : Prop := ∀ j, 3 ≤ j → σ' j = σ j
def FrB (μ μ' : T2) : Prop := (∀ j, j ≠ 0 → j ≠ 7 → j ≠ 8 → μ' j = μ j) ∧ (∀ i, i < 10 → μ' 0 i = μ 0 i)
theorem BT_f {m a c : Nat} {σ μ σ' μ' : T2} (h : BT m a c σ μ) (h1 : FrC σ σ') (h2 : FrM μ μ') : BT m a c σ' μ' := by
  obtain ⟨⟨b1, b2, b3, b4, b5, b6⟩, b7⟩ := h
  refine ⟨⟨by rw [h1.2 2 (by decide) (by decide), b1], by rw [h2.2 13 (by decide) (by decide) (by decide), b2], by rw [h1.2 5 (by decide) (by decide), b3], by rw [h2.2 14 (by decide) (by decide) (by decide), b4], by rw [h1.2 6 (by decide) (by decide), b5], by rw [h2.2 15 (by decide) (by decide) (by decide), b6]⟩, fun i hi h64 => ?_⟩
  rw [h1.1 1 (by decide), h1.1 2 (by decide), h2.1 7 (by decide), h2.1 8 (by decide)]
  exact b7 i hi h64
theorem PP_3 {L : Nat} {σ μ σ' μ' : T2} (h : PP L σ μ) (h1 : Fr3 σ σ') (h2 : FrB μ μ') : PP L σ' μ' := ⟨h.1, by rw [h1 3 (by decide)]; exact h.2.1, by rw [h2.2 9 (by decide)]; exact h.2.2.1, fun i hi => by rw [h1 4 (by decide), h2.1 6 (by decide) (by decide) (by decide)]; exact h.2.2.2 i hi⟩
theorem Fr3_t {a b c : T2} (h1 : Fr3 a b) (h2 : Fr3 b c) : Fr3 a c := fun j h => (h2 j h).trans (h1 j h)
theorem FrB_t {a b c : T2} (h1 : FrB a b) (h2 : FrB b c) : FrB a c := ⟨fun j h h' h'' => (h2.1 j h h' h'').trans (h1.1 j h h' h''), fun i h => (h2.2 i h).trans (h1.2 i h)⟩
theorem FrC_3 {a b : T2} (h : FrC a b) : Fr3 a b := fun j hj => h.1 j (by omega)
theorem FrM_B {a b : T2} (h : FrM a b) : FrB a b := ⟨fun j h0 _ _ => h.1 j h0, fun i hi => h.2 i (by omega) (by omega) (by omega)⟩
theorem Fr3_r (a : T2) : Fr3 a a := fun _ _ => rfl
theorem FrB_r (a : T2) : FrB a a := ⟨fun _ _ _ _ => rfl, fun _ _ => rfl⟩
theorem bad_ne {q : Nat} {σ μ : T2} (h : Bad q σ μ) : ¬ σ 0 3 = -6 ∧ ¬ μ 0 11 = 0 := by
  obtain ⟨h1, h2, h3, h4⟩ := h
  rw [h1, h3]
  refine ⟨fun e => ?_, by decide⟩
  rw [ia_eq, nI_toInt (by omega), ia_m6] at e
  omega
-- signs
theorem bad_sign {q : Nat} {σ μ : T2} {v : Int32} (h : Bad q σ μ) : S_X6_readSign σ v ∧ S_X10_takeSign μ v ∧ P_X6_readSign σ v = σ ∧ FrM μ (P_X10_takeSign μ v) ∧ Bad q σ (P_X10_takeSign μ v) := by
  obtain ⟨n1, n2⟩ := bad_ne h
  obtain ⟨h1, h2, h3, h4⟩ := h
  have c10 : ¬ (1 : Int32) = 0 := by decide
  have eM : P_X10_takeSign μ v = u2 μ 0 (upd (upd (μ 0) 11 1) 10 (nI q)) := by
    unfold P_X10_takeSign P_X10_takeSign_b0 P_X10_takeSign_b16 P_X10_takeSign_b21 P_X10_takeSign_b41
    rw [if_neg n2, if_neg c10, u2_same, u2_at, h2, show nI q + (0 : Int32) = nI q from Int32.add_zero _]
  unfold S_X6_readSign S_X6_readSign_b0 P_X6_readSign P_X6_readSign_b0
  rw [if_neg n1, eM]
  refine ⟨⟨fun h => absurd h n1, fun _ => trivial⟩, ?_, rfl, frM_u (fun i a b c => by rw [pk_un a, pk_un b]), h1, ?_, ?_, h4⟩
  · unfold S_X10_takeSign S_X10_takeSign_b0 S_X10_takeSign_b16 S_X10_takeSign_b21 S_X10_takeSign_b41
    exact ⟨fun h => absurd h n2, fun _ => ⟨Or.inr rfl, fun h => absurd h c10, fun _ => trivial⟩⟩
  · rw [u2_at, pk_us]
  · rw [u2_at, pk_un (by decide), pk_us]
theorem sgn_ok {L p s : Nat} {σ μ : T2} (hP : PP L σ μ) (hp : p ≤ 80) (hs : 0 < s) (hs2 : s < 1000) (hst : St p σ μ) : S_X6_readSign σ (nI s) ∧ S_X10_takeSign μ (nI s) ∧ FrC σ (P_X6_readSign σ (nI s)) ∧ FrM μ (P_X10_takeSign μ (nI s)) ∧ ((p + 1 ≤ 80 ∧ St (p + 1) (P_X6_readSign σ (nI s)) (P_X10_takeSign μ (nI s))) ∨ Bad p (P_X6_readSign σ (nI s)) (P_X10_takeSign μ (nI s))) := by
  obtain ⟨e3, m11, e4, m10⟩ := hst
  obtain ⟨s1, s2, s3⟩ := sg_eq hP (by omega) m10
  have hL := hP.1
  unfold S_X6_readSign S_X6_readSign_b0 P_X6_readSign P_X6_readSign_b0 S_X10_takeSign S_X10_takeSign_b0 P_X10_takeSign P_X10_takeSign_b0 P_X10_takeSign_b16 S_X10_takeSign_b16 P_X10_takeSign_b21 S_X10_takeSign_b21 P_X10_takeSign_b41 S_X10_takeSign_b41
  have c10 : ¬ (1 : Int32) = 0 := by decide
  rw [if_pos e3, if_pos m11, e4, s1, if_pos (show (0 : Int32) = 0 from rfl), if_neg c10]
  have hS9 : (σ 0 3 = -6 → S_X4_signAt (fun j => σ (3 + j)) (nI p) ∧ (P_X10_next μ = nI s → True) ∧ (¬ P_X10_next μ = nI s → True)) ∧ (¬ σ 0 3 = -6 → True) := ⟨fun _ => ⟨cs_signs _ _, fun _ => trivial, fun _ => trivial⟩, fun _ => trivial⟩
  refine ⟨hS9, ⟨fun _ => ⟨s3, fun _ => ⟨Or.inl rfl, fun _ => trivial, fun _ => trivial⟩, fun _ => ⟨Or.inr rfl, fun _ => trivial, fun _ => trivial⟩⟩, fun h => absurd m11 h⟩, ?_⟩
  by_cases c : P_X10_next μ = nI s
  · have hpL : p < L := by
      rcases Nat.lt_or_ge p L with h | h
      · exact h
      · exfalso
        have h0 := s2 h
        rw [h0] at c
        exact nI_ne0 hs (by omega) c.symm
    rw [if_pos c, if_pos c, nI_1]
    simp only [u2_at, u2_same]
    rw [m10, nI_1]
    refine ⟨frC_u (fun i a b => pk_un b), frM_u (fun i a b c => by rw [pk_un a, pk_un b]), Or.inl ⟨by omega, ?_, ?_, ?_, ?_⟩⟩
    · rw [u2_at, pk_un (by decide), e3]
    · rw [u2_at, pk_un (by decide), pk_us]
    · rw [u2_at, pk_us]
    · rw [u2_at, pk_us]
  · rw [if_neg c, if_neg c]
    simp only [u2_at, u2_same]
    rw [m10, show nI p + (0 : Int32) = nI p from Int32.add_zero _]
    refine ⟨frC_u (fun i a b => pk_un a), frM_u (fun i a b c => by rw [pk_un a, pk_un b]), Or.inr ⟨?_, ?_, ?_, hp⟩⟩
    · rw [u2_at, pk_us]
    · rw [u2_at, pk_us]
    · rw [u2_at, pk_un (by decide), pk_us]
theorem bad_num {q : Nat} {σ μ : T2} {lo hi : Int32} (h : Bad q σ μ) : S_X6_readNumber σ lo hi ∧ S_X10_takeNumber μ lo hi ∧ P_X6_readNumber σ lo hi = ((0 : Int32), σ) ∧ FrM μ (P_X10_takeNumber μ lo hi) ∧ Bad q σ (P_X10_takeNumber μ lo hi) := by
  obtain ⟨n1, n2⟩ := bad_ne h
  obtain ⟨h1, h2, h3, h4⟩ := h
  have c10 : ¬ (1 : Int32) = 0 := by decide
  have eM : P_X10_takeNumber μ lo hi = u2 μ 0 (upd (μ 0) 11 1) := by
    unfold P_X10_takeNumber P_X10_takeNumber_b0 P_X10_takeNumber_b22 P_X10_takeNumber_b27
    rw [if_neg n2, if_neg c10]
  unfold S_X6_readNumber S_X6_readNumber_b0 P_X6_readNumber P_X6_readNumber_b0
  rw [if_neg n1, eM]
  refine ⟨⟨fun h => absurd h n1, fun _ => trivial⟩, ?_, rfl, frM_u (fun i a b c => pk_un b), h1, ?_, ?_, h4⟩
  · unfold S_X10_takeNumber S_X10_takeNumber_b0 S_X10_takeNumber_b22 S_X10_takeNumber_b27
    exact ⟨fun h => absurd h n2, fun _ => ⟨Or.inr rfl, fun h => absurd h c10, fun _ => trivial⟩⟩
  · rw [u2_at, pk_un (by decide), h2]
  · rw [u2_at, pk_us]
-- one beat added
noncomputable def stX (σ : T2) (v : Int32) : T2 := if σ 0 2 < 0 then σ else if (64 : Int32) ≤ σ 0 2 then σ else u2 (u2 σ 1 (upd (σ 1) (σ 0 2).toNatClampNeg (v + σ 0 5))) 2 (upd (σ 2) (σ 0 2).toNatClampNeg (σ 0 6))
noncomputable def stp (σ : T2) (v : Int32) : T2 := u2 (stX σ v) 0 (upd (upd (upd (stX σ v 0) 2 (stX σ v 0 2 + 1)) 5 0) 6 0)
theorem st_step (n : Nat) (σ : T2) (v1 v2 v3 : Int32) (h : ¬ v2 ≤ v3) : P_X6_addBeats_b2 (n + 1) σ v1 v2 v3 = P_X6_addBeats_b2 n (stp σ v1) v1 v2 (v3 + 1) ∧ (S_X6_addBeats_b2 n (stp σ v1) v1 v2 (v3 + 1) → S_X6_addBeats_b2 (n + 1) σ v1 v2 v3) := by
  rw [P_X6_addBeats_b2_e, S_X6_addBeats_b2_e, if_neg h]
  unfold P_X6_addBeats_b51 S_X6_addBeats_b51 stp stX
  by_cases c1 : σ 0 2 < 0
  · rw [if_pos c1, if_pos c1]
    exact ⟨rfl, fun hs => ⟨fun h' => absurd h' h, fun _ => ⟨fun _ => hs, fun h' => absurd c1 h'⟩⟩⟩
  · rw [if_neg c1, if_neg c1]
    by_cases c2 : (64 : Int32) ≤ σ 0 2
    · rw [if_pos c2, if_pos c2]
      exact ⟨rfl, fun hs => ⟨fun h' => absurd h' h, fun _ => ⟨fun h' => absurd h' c1, fun _ => ⟨fun _ => hs, fun h' => absurd c2 h'⟩⟩⟩⟩
    · rw [if_neg c2, if_neg c2]
      have hv : vp_in (σ 0 2) 64 := by
        obtain ⟨j, hj, e⟩ := nI_of c1
        rw [e] at c2 ⊢
        refine vp_in_nI ?_ (by omega)
        exact Nat.not_le.mp (fun hle => c2 (nI_le (a := 64) hle hj))
      exact ⟨rfl, fun hs => ⟨fun h' => absurd h' h, fun _ => ⟨fun h' => absurd h' c1, fun _ => ⟨fun h' => absurd h' c2, fun _ => ⟨hv, hv, hs⟩⟩⟩⟩⟩
theorem stX_0 (σ : T2) (v : Int32) : stX σ v 0 = σ 0 ∧ ∀ j, 3 ≤ j → stX σ v j = σ j := by
  unfold stX
  split
  · exact ⟨rfl, fun _ _ => rfl⟩
  · split
    · exact ⟨rfl, fun _ _ => rfl⟩
    · exact ⟨by rw [u2_ne (by decide), u2_ne (by decide)], fun j hj => by rw [u2_ne (by omega), u2_ne (by omega)]⟩
theorem stp_f (σ : T2) (v : Int32) : (∀ j, 3 ≤ j → stp σ v j = σ j) ∧ (∀ i, i ≠ 2 → i ≠ 5 → i ≠ 6 → stp σ v 0 i = σ 0 i) := by
  obtain ⟨h0, h3⟩ := stX_0 σ v
  unfold stp
  exact ⟨fun j hj => by rw [u2_ne (by omega), h3 j hj], fun i a b c => by rw [u2_at, pk_un c, pk_un b, pk_un a, h0]⟩
theorem ad1 (σ : T2) (v : Int32) : S_X6_addBeats σ v 1 ∧ P_X6_addBeats σ v 1 = stp σ v := by
  have f1 := fu64
  obtain ⟨m, hm⟩ : ∃ m, FU = m + 1 + 1 := ⟨FU - 2, by omega⟩
  unfold S_X6_addBeats P_X6_addBeats S_X6_addBeats_b0 P_X6_addBeats_b0
  rw [hm]
  obtain ⟨a1, a2⟩ := st_step (m + 1) σ v 1 0 (by decide)
  have c : (1 : Int32) ≤ 0 + 1 := by decide
  rw [a1, P_X6_addBeats_b2_e, if_pos c]
  refine ⟨a2 ?_, rfl⟩
  rw [S_X6_addBeats_b2_e]
  exact ⟨fun _ => trivial, fun h => absurd c h⟩
theorem ent_f {m : Nat} {μ : T2} {v : Int32} (hm : m < 1000000) (e : μ 0 13 = nI m) : S_X10_enterBeat μ v ∧ (∀ j, j ≠ 0 → j ≠ 7 → j ≠ 8 → P_X10_enterBeat μ v j = μ j) ∧ (∀ i, i ≠ 13 → i ≠ 14 → i ≠ 15 → P_X10_enterBeat μ v 0 i = μ 0 i) := by
  unfold S_X10_enterBeat S_X10_enterBeat_b0 P_X10_enterBeat P_X10_enterBeat_b0 S_X10_enterBeat_b37 P_X10_enterBeat_b37
  rw [e]
  refine ⟨⟨fun _ => trivial, fun h => ?_⟩, fun j a b c => ?_, fun i a b c => ?_⟩
  · have hv : vp_in (nI m) 65 := vp_in_nI (Nat.not_le.mp (fun hle => h (nI_le (a := 65) hle (by omega)))) (by omega)
    exact ⟨hv, hv, trivial⟩
  · split
    · rw [u2_ne a]
    · rw [u2_ne a, u2_ne c, u2_ne b]
  · split
    · rw [u2_at, pk_un c, pk_un b, pk_un a]
    · rw [u2_at, pk_un c, pk_un b, pk_un a, u2_ne (by decide), u2_ne (by decide)]
theorem one_beat {m a c g : Nat} {σ μ : T2} (hB : BT m a c σ μ) (hm : m ≤ 4000) (ha : a ≤ 800000) (hc : c ≤ 8000) (hg : 1 ≤ g) (hg2 : g ≤ 999) : BT (m + 1) 0 0 (stp σ (nI g)) (P_X10_enterBeat μ (nI g)) := by
  obtain ⟨⟨b1, b2, b3, b4, b5, b6⟩, b7⟩ := hB
  obtain ⟨h0, h3⟩ := stX_0 σ (nI g)
  have ec : ∀ i, stp σ (nI g) 0 i = upd (upd (upd (σ 0) 2 (nI (m + 1))) 5 0) 6 0 i := fun i => by
    unfold stp
    rw [u2_at, h0, b1, nI_1]
  have hj : ∀ j, j ≠ 0 → stp σ (nI g) j = stX σ (nI g) j := fun j h => by unfold stp; rw [u2_ne h]
  have eX : m < 64 → stX σ (nI g) = u2 (u2 σ 1 (upd (σ 1) m (nI (g + a)))) 2 (upd (σ 2) m (nI c)) := fun h => by
    unfold stX
    rw [b1, if_neg (nI_pos (by omega)), if_neg (show ¬ (64 : Int32) ≤ nI m from nI_ge (a := m) (b := 64) h (by omega)), nI_clamp (n := m) (by omega), b3, b5, nI_add]
  have eX2 : ¬ m < 64 → stX σ (nI g) = σ := fun h => by
    unfold stX
    rw [b1, if_neg (nI_pos (by omega)), if_pos (show (64 : Int32) ≤ nI m from nI_le (a := 64) (b := m) (by omega) (by omega))]
  have eM : P_X10_enterBeat μ (nI g) 0 = upd (upd (upd (μ 0) 13 (nI (m + 1))) 14 0) 15 0 := by
    unfold P_X10_enterBeat P_X10_enterBeat_b0 P_X10_enterBeat_b37
    by_cases c1 : (65 : Int32) ≤ μ 0 13
    · rw [if_pos c1, u2_at, b2, nI_1]
    · rw [if_neg c1, u2_at, u2_ne (by decide), u2_ne (by decide), b2, nI_1]
  have eM7 : m < 65 → P_X10_enterBeat μ (nI g) 7 = upd (μ 7) m (nI (g + a)) ∧ P_X10_enterBeat μ (nI g) 8 = upd (μ 8) m (nI c) := fun h => by
    unfold P_X10_enterBeat P_X10_enterBeat_b0 P_X10_enterBeat_b37
    rw [b2, if_neg (show ¬ (65 : Int32) ≤ nI m from nI_ge (a := m) (b := 65) h (by omega)), nI_clamp (n := m) (by omega), b4, b6, nI_add]
    exact ⟨by rw [u2_ne (by decide), u2_ne (by decide), u2_at], by rw [u2_ne (by decide), u2_at]⟩
  have eM8 : ¬ m < 65 → P_X10_enterBeat μ (nI g) 7 = μ 7 ∧ P_X10_enterBeat μ (nI g) 8 = μ 8 := fun h => by
    unfold P_X10_enterBeat P_X10_enterBeat_b0 P_X10_enterBeat_b37
    rw [b2, if_pos (show (65 : Int32) ≤ nI m from nI_le (a := 65) (b := m) (by omega) (by omega))]
    exact ⟨by rw [u2_ne (by decide)], by rw [u2_ne (by decide)]⟩
  refine ⟨⟨?_, ?_, ?_, ?_, ?_, ?_⟩, fun i hi h64 => ?_⟩
  · rw [ec, pk_un (by decide), pk_un (by decide), pk_us]
  · rw [eM, pk_un (by decide), pk_un (by decide), pk_us]
  · rw [ec, pk_un (by decide), pk_us]; rfl
  · rw [eM, pk_un (by decide), pk_us]; rfl
  · rw [ec, pk_us]; rfl
  · rw [eM, pk_us]; rfl
  · rw [hj 1 (by decide), hj 2 (by decide)]
    by_cases c1 : m < 64
    · rw [eX c1, (eM7 (by omega)).1, (eM7 (by omega)).2, u2_ne (by decide), u2_at, u2_at]
      by_cases ci : i = m
      · rw [ci, pk_us, pk_us, pk_us, pk_us]
        exact ⟨rfl, rfl, g + a, c, rfl, by omega, by omega, rfl, by omega⟩
      · rw [pk_un ci, pk_un ci, pk_un ci, pk_un ci]
        exact b7 i (by omega) h64
    · rw [eX2 c1]
      by_cases c2 : m < 65
      · rw [(eM7 c2).1, (eM7 c2).2, pk_un (by omega), pk_un (by omega)]
        exact b7 i (by omega) h64
      · rw [(eM8 c2).1, (eM8 c2).2]
        exact b7 i (by omega) h64
end RP1
