/-! the two readers: parts and whole texts; fault -/
section RF1
def RG (p0 : Nat) (σ μ σ' μ' : T2) : Prop := Fr3 σ σ' ∧ FrB μ μ' ∧ ((∃ p m a c, p0 ≤ p ∧ p ≤ 80 ∧ m ≤ 40 * p ∧ a ≤ 9999 * p ∧ c ≤ 99 * p ∧ St p σ' μ' ∧ BT m a c σ' μ') ∨ (∃ q, Bad q σ' μ'))
theorem RG_t {p0 p1 : Nat} {σ μ σ1 μ1 σ' μ' : T2} (h1 : Fr3 σ σ1) (h2 : FrB μ μ1) (hp : p0 ≤ p1) (h : RG p1 σ1 μ1 σ' μ') : RG p0 σ μ σ' μ' := by
  obtain ⟨a, b, c⟩ := h
  refine ⟨Fr3_t h1 a, FrB_t h2 b, ?_⟩
  rcases c with ⟨p, m, a', c', x1, x⟩ | ⟨q, x⟩
  · exact Or.inl ⟨p, m, a', c', by omega, x⟩
  · exact Or.inr ⟨q, x⟩
theorem sb_stp (σ : T2) (v : Int32) : sb σ 0 3 (stp σ v) = stp σ v := by
  funext j
  unfold sb
  by_cases c : 0 ≤ j ∧ j < 0 + 3
  · rw [if_pos c]; rfl
  · rw [if_neg c, (stp_f σ v).1 j (by omega)]
theorem add_fr {m : Nat} {σ μ : T2} {v v' : Int32} (hm : m < 1000000) (e : μ 0 13 = nI m) : Fr3 σ (stp σ v) ∧ FrB μ (P_X10_enterBeat μ v') := by
  obtain ⟨f1, f2⟩ := stp_f σ v
  obtain ⟨-, g1, g2⟩ := ent_f (v := v') hm e
  exact ⟨f1, g1, fun i hi => g2 i (by omega) (by omega) (by omega)⟩
theorem add_ok {p m a c y : Nat} {σ μ : T2} (hst : St p σ μ) (hB : BT m a c σ μ) (hm : m ≤ 4000) (ha : a ≤ 800000) (hc : c ≤ 8000) (hg : 1 ≤ y) (hg2 : y ≤ 999) : St p (stp σ (nI y)) (P_X10_enterBeat μ (nI y)) ∧ BT (m + 1) 0 0 (stp σ (nI y)) (P_X10_enterBeat μ (nI y)) := by
  obtain ⟨f1, f2⟩ := stp_f σ (nI y)
  obtain ⟨-, g1, g2⟩ := ent_f (v := nI y) (by omega) hB.1.2.1
  refine ⟨⟨?_, ?_, ?_, ?_⟩, one_beat hB hm ha hc hg hg2⟩
  · rw [f2 3 (by decide) (by decide) (by decide)]; exact hst.1
  · rw [g2 11 (by decide) (by decide) (by decide)]; exact hst.2.1
  · rw [f2 4 (by decide) (by decide) (by decide)]; exact hst.2.2.1
  · rw [g2 10 (by decide) (by decide) (by decide)]; exact hst.2.2.2
theorem add_bad {q m : Nat} {σ μ : T2} {v v' : Int32} (hb : Bad q σ μ) (hm : m < 1000000) (e : μ 0 13 = nI m) : Bad q (stp σ v) (P_X10_enterBeat μ v') := by
  obtain ⟨f1, f2⟩ := stp_f σ v
  obtain ⟨-, g1, g2⟩ := ent_f (v := v') hm e
  refine ⟨?_, ?_, ?_, hb.2.2.2⟩
  · rw [f2 3 (by decide) (by decide) (by decide)]; exact hb.1
  · rw [g2 10 (by decide) (by decide) (by decide)]; exact hb.2.1
  · rw [g2 11 (by decide) (by decide) (by decide)]; exact hb.2.2.1
theorem mv_C {p : Nat} {σ μ : T2} (hst : St p σ μ) : FrC σ (u2 σ 0 (upd (σ 0) 4 (nI (p + 1)))) ∧ FrM μ (u2 μ 0 (upd (μ 0) 10 (nI (p + 1)))) ∧ St (p + 1) (u2 σ 0 (upd (σ 0) 4 (nI (p + 1)))) (u2 μ 0 (upd (μ 0) 10 (nI (p + 1)))) := by
  refine ⟨frC_u (fun i a b => pk_un b), frM_u (fun i a b c => pk_un a), ?_, ?_, ?_, ?_⟩
  · rw [u2_at, pk_un (by decide)]; exact hst.1
  · rw [u2_at, pk_un (by decide)]; exact hst.2.1
  · rw [u2_at, pk_us]
  · rw [u2_at, pk_us]
theorem rb_bad {n : Nat} {σ μ : T2} {v : Int32} {q : Nat} (hb : Bad q σ μ) : P_X6_readBeats_b16 (n + 1) σ v = σ ∧ S_X6_readBeats_b16 (n + 1) σ v ∧ (∀ m, P_X10_takeBeats_b16 (m + 1) μ = μ ∧ S_X10_takeBeats_b16 (m + 1) μ) := by
  obtain ⟨n1, n2⟩ := bad_ne hb
  refine ⟨?_, ?_, fun m => ⟨?_, ?_⟩⟩
  · rw [P_X6_readBeats_b16_e, if_neg n1]
    split <;> rfl
  · rw [S_X6_readBeats_b16_e]
    exact ⟨fun _ => trivial, fun _ => ⟨fun h => absurd h n1, fun _ => trivial⟩⟩
  · rw [P_X10_takeBeats_b16_e, if_neg n2]
  · rw [S_X10_takeBeats_b16_e]
    exact ⟨fun h => absurd h n2, fun _ => trivial⟩
theorem rb_loop {L : Nat} : ∀ (d fc fm t p m a c : Nat) (σ μ : T2), 80 ≤ p + d → d < fc → d < fm → t ≤ p → p ≤ 80 → m ≤ 40 * p → a ≤ 9999 * p → c ≤ 99 * p → St p σ μ → BT m a c σ μ → PP L σ μ →
    S_X6_readBeats_b16 fc σ (nI t) ∧ S_X10_takeBeats_b16 fm μ ∧ RG p σ μ (P_X6_readBeats_b16 fc σ (nI t)) (P_X10_takeBeats_b16 fm μ) := by
  intro d
  induction d with
  | zero =>
    intro fc fm t p m a c σ μ hd hfc hfm ht hp hm ha hc hst hB hP
    obtain ⟨f, rfl⟩ : ∃ f, fc = f + 1 := ⟨fc - 1, by omega⟩
    obtain ⟨g, rfl⟩ : ∃ g, fm = g + 1 := ⟨fm - 1, by omega⟩
    obtain ⟨e3, m11, e4, m10⟩ := hst
    obtain ⟨s1, s2, s3⟩ := sg_eq hP (by omega) m10
    have hL := hP.1
    have hn0 := s2 (by omega)
    have hne : ¬ P_X10_next μ = 44 := by rw [hn0]; decide
    have eC : P_X6_readBeats_b16 (f + 1) σ (nI t) = σ := by
      rw [P_X6_readBeats_b16_e, if_pos e3, e4, s1, if_neg hne]
      split <;> rfl
    have eM : P_X10_takeBeats_b16 (g + 1) μ = μ := by
      rw [P_X10_takeBeats_b16_e, if_pos m11, if_neg hne]
    rw [eC, eM, S_X6_readBeats_b16_e, S_X10_takeBeats_b16_e, e4, s1]
    exact ⟨⟨fun _ => trivial, fun _ => ⟨fun _ => ⟨cs_signs _ _, fun h => absurd h hne, fun _ => trivial⟩, fun _ => trivial⟩⟩, ⟨fun _ => ⟨s3, fun h => absurd h hne, fun _ => trivial⟩, fun _ => trivial⟩, Fr3_r σ, FrB_r μ, Or.inl ⟨p, m, a, c, Nat.le_refl _, hp, hm, ha, hc, ⟨e3, m11, e4, m10⟩, hB⟩⟩
  | succ d ih =>
    intro fc fm t p m a c σ μ hd hfc hfm ht hp hm ha hc hst hB hP
    obtain ⟨f, rfl⟩ : ∃ f, fc = f + 1 := ⟨fc - 1, by omega⟩
    obtain ⟨g, rfl⟩ : ∃ g, fm = g + 1 := ⟨fm - 1, by omega⟩
    have hst0 := hst
    obtain ⟨e3, m11, e4, m10⟩ := hst
    obtain ⟨s1, s2, s3⟩ := sg_eq hP (by omega) m10
    have hL := hP.1
    by_cases hne : P_X10_next μ = 44
    · have hpL : p < L := by
        rcases Nat.lt_or_ge p L with h | h
        · exact h
        · exfalso
          have h0 := s2 h
          rw [h0] at hne
          exact absurd hne (by decide)
      have c80 : ¬ (80 : Int32) ≤ nI t := nI_ge (a := t) (b := 80) (by omega) (by omega)
      obtain ⟨v1, v2, v3⟩ := mv_C hst0
      obtain ⟨n1, n2, n3⟩ := num_ok (L := L) (lo := 1) (hi := 999) (p := p + 1) (by decide) (by decide) (by decide) (by decide) (by omega) v3.1 v3.2.2.1 v3.2.2.2 v3.2.1 (PP_f hP v1 v2)
      have hB1 := BT_f hB v1 v2
      have hP1 := PP_f hP v1 v2
      rw [P_X6_readBeats_b16_e, S_X6_readBeats_b16_e, P_X10_takeBeats_b16_e, S_X10_takeBeats_b16_e, if_neg c80, if_pos e3, e4, s1, if_pos hne, if_pos m11, if_pos hne, m10, nI_1]
      unfold P_X6_readBeats_b64c S_X6_readBeats_b64c P_X6_readBeats_b68c S_X6_readBeats_b68c P_X10_takeBeats_b50c S_X10_takeBeats_b50c P_X10_takeBeats_b58c S_X10_takeBeats_b58c
      rw [(ad1 _ _).2, sb_stp, nI_1]
      have n1' : S_X6_readNumber (u2 σ 0 (upd (σ 0) 4 (nI (p + 1)))) 1 999 := n1
      have n2' : S_X10_takeNumber (u2 μ 0 (upd (μ 0) 10 (nI (p + 1)))) 1 999 := n2
      have n3' : NR 1 999 (p + 1) (u2 σ 0 (upd (σ 0) 4 (nI (p + 1)))) (u2 μ 0 (upd (μ 0) 10 (nI (p + 1)))) (P_X6_readNumber (u2 σ 0 (upd (σ 0) 4 (nI (p + 1)))) 1 999) (P_X10_takeNumber (u2 μ 0 (upd (μ 0) 10 (nI (p + 1)))) 1 999) := n3
      generalize P_X6_readNumber (u2 σ 0 (upd (σ 0) 4 (nI (p + 1)))) 1 999 = R at n3' ⊢
      generalize P_X10_takeNumber (u2 μ 0 (upd (μ 0) 10 (nI (p + 1)))) 1 999 = M at n3' ⊢
      obtain ⟨w1, w2, q', w3, w4, w5⟩ := n3'
      have hB2 := BT_f hB1 w1 w2
      have hP2 := PP_f hP1 w1 w2
      have hF1 : Fr3 σ R.2 := Fr3_t (FrC_3 v1) (FrC_3 w1)
      have hF2 : FrB μ M := FrB_t (FrM_B v2) (FrM_B w2)
      obtain ⟨x1, x2⟩ := add_fr (σ := R.2) (v := R.1) (v' := M 0 12) (by omega : m < 1000000) hB2.1.2.1
      have hent := (ent_f (v := M 0 12) (by omega : m < 1000000) hB2.1.2.1).1
      have hgo : ∀ (S9 : S_X6_readBeats_b16 f (stp R.2 R.1) (nI (t + 1))) (S10 : S_X10_takeBeats_b16 g (P_X10_enterBeat M (M 0 12))), (((80 : Int32) ≤ nI t → True) ∧ (¬ (80 : Int32) ≤ nI t → (σ 0 3 = -6 → S_X4_signAt (fun j => σ (3 + j)) (nI p) ∧ (P_X10_next μ = 44 → S_X6_readNumber (u2 σ 0 (upd (σ 0) 4 (nI (p + 1)))) 1 999 ∧ S_X6_addBeats R.2 R.1 1 ∧ S_X6_readBeats_b16 f (stp R.2 R.1) (nI (t + 1))) ∧ (¬ P_X10_next μ = 44 → True)) ∧ (¬ σ 0 3 = -6 → True))) ∧ ((μ 0 11 = 0 → S_X10_next μ ∧ (P_X10_next μ = 44 → S_X10_takeNumber (u2 μ 0 (upd (μ 0) 10 (nI (p + 1)))) 1 999 ∧ S_X10_enterBeat M (M 0 12) ∧ S_X10_takeBeats_b16 g (P_X10_enterBeat M (M 0 12))) ∧ (¬ P_X10_next μ = 44 → True)) ∧ (¬ μ 0 11 = 0 → True)) := fun S9 S10 =>
        ⟨⟨fun _ => trivial, fun _ => ⟨fun _ => ⟨cs_signs _ _, fun _ => ⟨n1', (ad1 _ _).1, S9⟩, fun _ => trivial⟩, fun _ => trivial⟩⟩, ⟨fun _ => ⟨s3, fun _ => ⟨n2', hent, S10⟩, fun _ => trivial⟩, fun _ => trivial⟩⟩
      rcases w5 with ⟨y, y1, y2, y3, y4, y5, y6, y7, y8⟩ | ⟨y1, y2, y3, y4⟩
      · obtain ⟨z1, z2⟩ := add_ok (y := y) (p := q') ⟨y5, y8, y6, y7⟩ hB2 (by omega) (by omega) (by omega) y1 y2
        rw [y3] at x1 ⊢
        rw [y4] at x2 ⊢
        obtain ⟨u1, u2', u3⟩ := ih f g (t + 1) q' (m + 1) 0 0 (stp R.2 (nI y)) (P_X10_enterBeat M (nI y)) (by omega) (by omega) (by omega) (by omega) w4 (by omega) (by omega) (by omega) z1 z2 (PP_3 hP2 x1 x2)
        rw [y3, y4] at hgo
        obtain ⟨h1, h2⟩ := hgo u1 u2'
        exact ⟨h1, h2, RG_t (Fr3_t hF1 x1) (FrB_t hF2 x2) (by omega) u3⟩
      · have hbad : Bad q' (stp R.2 R.1) (P_X10_enterBeat M (M 0 12)) := add_bad ⟨y2, y3, y4, w4⟩ (by omega : m < 1000000) hB2.1.2.1
        obtain ⟨f', rfl⟩ : ∃ f', f = f' + 1 := ⟨f - 1, by omega⟩
        obtain ⟨g', rfl⟩ : ∃ g', g = g' + 1 := ⟨g - 1, by omega⟩
        obtain ⟨k1, k2, k3⟩ := rb_bad (n := f') (v := nI (t + 1)) hbad
        obtain ⟨k4, k5⟩ := k3 g'
        obtain ⟨h1, h2⟩ := hgo k2 k5
        rw [k1, k4]
        exact ⟨h1, h2, Fr3_t hF1 x1, FrB_t hF2 x2, Or.inr ⟨q', hbad⟩⟩
    · have eC : P_X6_readBeats_b16 (f + 1) σ (nI t) = σ := by
        rw [P_X6_readBeats_b16_e, if_pos e3, e4, s1, if_neg hne]
        split <;> rfl
      have eM : P_X10_takeBeats_b16 (g + 1) μ = μ := by
        rw [P_X10_takeBeats_b16_e, if_pos m11, if_neg hne]
      rw [eC, eM, S_X6_readBeats_b16_e, S_X10_takeBeats_b16_e, e4, s1]
      exact ⟨⟨fun _ => trivial, fun _ => ⟨fun _ => ⟨cs_signs _ _, fun h => absurd h hne, fun _ => trivial⟩, fun _ => trivial⟩⟩, ⟨fun _ => ⟨s3, fun h => absurd h hne, fun _ => trivial⟩, fun _ => trivial⟩, Fr3_r σ, FrB_r μ, Or.inl ⟨p, m, a, c, Nat.le_refl _, hp, hm, ha, hc, ⟨e3, m11, e4, m10⟩, hB⟩⟩
theorem rb_ok {L p m a c : Nat} {σ μ : T2} (hp : p ≤ 80) (hm : m + 1 ≤ 40 * p) (ha : a ≤ 9999 * p) (hc : c ≤ 99 * p) (hst : St p σ μ) (hB : BT m a c σ μ) (hP : PP L σ μ) : S_X6_readBeats σ ∧ S_X10_takeBeats μ ∧ RG p σ μ (P_X6_readBeats σ) (P_X10_takeBeats μ) := by
  have f1 := fu1364
  obtain ⟨n1, n2, n3⟩ := num_ok (L := L) (lo := 1) (hi := 999) (p := p) (by decide) (by decide) (by decide) (by decide) hp hst.1 hst.2.2.1 hst.2.2.2 hst.2.1 hP
  have n1' : S_X6_readNumber σ 1 999 := n1
  have n2' : S_X10_takeNumber μ 1 999 := n2
  have n3' : NR 1 999 p σ μ (P_X6_readNumber σ 1 999) (P_X10_takeNumber μ 1 999) := n3
  unfold S_X6_readBeats S_X6_readBeats_b0 S_X6_readBeats_b10c S_X6_readBeats_b14c P_X6_readBeats P_X6_readBeats_b0 P_X6_readBeats_b10c P_X6_readBeats_b14c S_X10_takeBeats S_X10_takeBeats_b0 S_X10_takeBeats_b8c P_X10_takeBeats P_X10_takeBeats_b0 P_X10_takeBeats_b8c
  rw [(ad1 _ _).2, sb_stp]
  generalize P_X6_readNumber σ 1 999 = R at n3' ⊢
  generalize P_X10_takeNumber μ 1 999 = M at n3' ⊢
  obtain ⟨w1, w2, q', w3, w4, w5⟩ := n3'
  have hB2 := BT_f hB w1 w2
  have hP2 := PP_f hP w1 w2
  obtain ⟨x1, x2⟩ := add_fr (σ := R.2) (v := R.1) (v' := M 0 12) (by omega : m < 1000000) hB2.1.2.1
  have hent := (ent_f (v := M 0 12) (by omega : m < 1000000) hB2.1.2.1).1
  rcases w5 with ⟨y, y1, y2, y3, y4, y5, y6, y7, y8⟩ | ⟨y1, y2, y3, y4⟩
  · obtain ⟨z1, z2⟩ := add_ok (y := y) (p := q') ⟨y5, y8, y6, y7⟩ hB2 (by omega) (by omega) (by omega) y1 y2
    rw [y4] at hent
    rw [y3] at x1 ⊢
    rw [y4] at x2 ⊢
    obtain ⟨u1, u2', u3⟩ := rb_loop (L := L) 80 FU FU 0 q' (m + 1) 0 0 (stp R.2 (nI y)) (P_X10_enterBeat M (nI y)) (by omega) (by omega) (by omega) (by omega) w4 (by omega) (by omega) (by omega) z1 z2 (PP_3 hP2 x1 x2)
    rw [nI_0] at u1 u3
    exact ⟨⟨n1', (ad1 _ _).1, u1⟩, ⟨n2', hent, u2'⟩, RG_t (Fr3_t (FrC_3 w1) x1) (FrB_t (FrM_B w2) x2) w3 u3⟩
  · have hbad : Bad q' (stp R.2 R.1) (P_X10_enterBeat M (M 0 12)) := add_bad ⟨y2, y3, y4, w4⟩ (by omega : m < 1000000) hB2.1.2.1
    obtain ⟨f', hf'⟩ : ∃ f', FU = f' + 1 := ⟨FU - 1, by omega⟩
    rw [hf']
    obtain ⟨k1, k2, k3⟩ := rb_bad (n := f') (v := 0) hbad
    obtain ⟨k4, k5⟩ := k3 f'
    rw [k1, k4]
    exact ⟨⟨n1', (ad1 _ _).1, k2⟩, ⟨n2', hent, k5⟩, Fr3_t (FrC_3 w1) x1, FrB_t (FrM_B w2) x2, Or.inr ⟨q', hbad⟩⟩
-- even beats
theorem re_loop {T g : Nat} (hT : T ≤ 40) (hg : 1 ≤ g) (hg2 : g ≤ 999) {p : Nat} : ∀ (d fc fm j m a c : Nat) (σ μ : T2), j + d = T → d < fc → d < fm → m + d ≤ 4000 → a ≤ 800000 → c ≤ 8000 → St p σ μ → BT m a c σ μ → μ 0 12 = nI T →
    S_X6_addBeats_b2 fc σ (nI g) (nI T) (nI j) ∧ S_X10_takeRow_b28 fm μ (nI g) (nI j) ∧ Fr3 σ (P_X6_addBeats_b2 fc σ (nI g) (nI T) (nI j)) ∧ FrB μ (P_X10_takeRow_b28 fm μ (nI g) (nI j)) ∧ St p (P_X6_addBeats_b2 fc σ (nI g) (nI T) (nI j)) (P_X10_takeRow_b28 fm μ (nI g) (nI j)) ∧ ∃ a' c', a' ≤ a ∧ c' ≤ c ∧ BT (m + d) a' c' (P_X6_addBeats_b2 fc σ (nI g) (nI T) (nI j)) (P_X10_takeRow_b28 fm μ (nI g) (nI j)) := by
  intro d
  induction d with
  | zero =>
    intro fc fm j m a c σ μ hd hfc hfm hm ha hc hst hB hT12
    obtain ⟨f, rfl⟩ : ∃ f, fc = f + 1 := ⟨fc - 1, by omega⟩
    obtain ⟨h, rfl⟩ : ∃ h, fm = h + 1 := ⟨fm - 1, by omega⟩
    obtain rfl : j = T := by omega
    have c1 : nI j ≤ nI j := nI_le (Nat.le_refl _) (by omega)
    rw [P_X6_addBeats_b2_e, S_X6_addBeats_b2_e, P_X10_takeRow_b28_e, S_X10_takeRow_b28_e, hT12, if_pos c1, if_pos c1]
    exact ⟨⟨fun _ => trivial, fun h => absurd c1 h⟩, ⟨fun _ => trivial, fun h => absurd c1 h⟩, Fr3_r σ, FrB_r μ, hst, a, c, Nat.le_refl _, Nat.le_refl _, hB⟩
  | succ d ih =>
    intro fc fm j m a c σ μ hd hfc hfm hm ha hc hst hB hT12
    obtain ⟨f, rfl⟩ : ∃ f, fc = f + 1 := ⟨fc - 1, by omega⟩
    obtain ⟨h, rfl⟩ : ∃ h, fm = h + 1 := ⟨fm - 1, by omega⟩
    have c1 : ¬ nI T ≤ nI j := nI_ge (by omega) (by omega)
    obtain ⟨t1, t2⟩ := st_step f σ (nI g) (nI T) (nI j) c1
    obtain ⟨z1, z2⟩ := add_ok (y := g) hst hB (by omega) ha hc hg hg2
    obtain ⟨x1, x2⟩ := add_fr (σ := σ) (v := nI g) (v' := nI g) (by omega : m < 1000000) hB.1.2.1
    obtain ⟨hent, hen2, hen3⟩ := ent_f (v := nI g) (by omega : m < 1000000) hB.1.2.1
    obtain ⟨u1, u2', u3, u4, u5, a', c', u6, u7, u8⟩ := ih f h (j + 1) (m + 1) 0 0 (stp σ (nI g)) (P_X10_enterBeat μ (nI g)) (by omega) (by omega) (by omega) (by omega) (by omega) (by omega) z1 z2 (by rw [hen3 12 (by decide) (by decide) (by decide), hT12])
    rw [← nI_1] at u1 u2' u3 u4 u5 u8
    rw [t1, P_X10_takeRow_b28_e, S_X10_takeRow_b28_e, hT12, if_neg c1, if_pos hst.2.1]
    unfold P_X10_takeRow_b48c S_X10_takeRow_b48c
    exact ⟨t2 u1, ⟨fun h => absurd h c1, fun _ => ⟨fun _ => ⟨hent, u2'⟩, fun h => absurd hst.2.1 h⟩⟩, Fr3_t x1 u3, FrB_t x2 u4, u5, a', c', by omega, by omega, by rw [show m + (d + 1) = m + 1 + d by omega]; exact u8⟩
theorem sb_3 {σ τ : T2} (h : ∀ j, 3 ≤ j → τ j = σ j) : sb σ 0 3 τ = τ := by
  funext j
  unfold sb
  by_cases c : 0 ≤ j ∧ j < 0 + 3
  · rw [if_pos c]; rfl
  · rw [if_neg c, h j (by omega)]
theorem re_ok {L p m a c : Nat} {σ μ : T2} (hp : p ≤ 80) (hm : m + 40 ≤ 40 * p) (ha : a ≤ 9999 * p) (hc : c ≤ 99 * p) (hst : St p σ μ) (hB : BT m a c σ μ) (hP : PP L σ μ) : S_X6_readEvenBeats σ ∧ S_X10_takeRow μ ∧ RG p σ μ (P_X6_readEvenBeats σ) (P_X10_takeRow μ) := by
  have f1 := fu1364
  obtain ⟨f', hf'⟩ : ∃ f', FU = f' + 1 := ⟨FU - 1, by omega⟩
  obtain ⟨n1, n2, n3⟩ := num_ok (L := L) (lo := 1) (hi := 999) (p := p) (by decide) (by decide) (by decide) (by decide) hp hst.1 hst.2.2.1 hst.2.2.2 hst.2.1 hP
  have n1' : S_X6_readNumber σ 1 999 := n1
  have n2' : S_X10_takeNumber μ 1 999 := n2
  have n3' : NR 1 999 p σ μ (P_X6_readNumber σ 1 999) (P_X10_takeNumber μ 1 999) := n3
  unfold S_X6_readEvenBeats S_X6_readEvenBeats_b0 S_X6_readEvenBeats_b9c S_X6_readEvenBeats_b17c S_X6_readEvenBeats_b27c P_X6_readEvenBeats P_X6_readEvenBeats_b0 P_X6_readEvenBeats_b9c P_X6_readEvenBeats_b17c P_X6_readEvenBeats_b27c S_X10_takeRow S_X10_takeRow_b0 S_X10_takeRow_b8c S_X10_takeRow_b19c S_X10_takeRow_b26c P_X10_takeRow P_X10_takeRow_b0 P_X10_takeRow_b8c P_X10_takeRow_b19c P_X10_takeRow_b26c
  generalize P_X6_readNumber σ 1 999 = R at n3' ⊢
  generalize P_X10_takeNumber μ 1 999 = M at n3' ⊢
  obtain ⟨w1, w2, q', w3, w4, w5⟩ := n3'
  have hB2 := BT_f hB w1 w2
  have hP2 := PP_f hP w1 w2
  -- what follows a fault
  have hbadend : ∀ (q : Nat) (τ ν : T2) (v gp : Int32), Bad q τ ν → Fr3 σ τ → FrB μ ν → (S_X6_readNumber τ 2 40 ∧ S_X6_addBeats (P_X6_readNumber τ 2 40).2 v (P_X6_readNumber τ 2 40).1 ∧ True) ∧ (S_X10_takeNumber ν 2 40 ∧ S_X10_takeRow_b28 FU (P_X10_takeNumber ν 2 40) gp 0) ∧ RG p σ μ (sb (P_X6_readNumber τ 2 40).2 0 3 (P_X6_addBeats (P_X6_readNumber τ 2 40).2 v (P_X6_readNumber τ 2 40).1)) (P_X10_takeRow_b28 FU (P_X10_takeNumber ν 2 40) gp 0) := fun q τ ν v gp hb h1 h2 => by
    obtain ⟨k1, k2, k3, k4, k5⟩ := bad_num (lo := 2) (hi := 40) hb
    rw [k3]
    dsimp only
    unfold S_X6_addBeats P_X6_addBeats S_X6_addBeats_b0 P_X6_addBeats_b0
    have c0 : (0 : Int32) ≤ 0 := by decide
    rw [hf', P_X6_addBeats_b2_e, S_X6_addBeats_b2_e, if_pos c0, P_X10_takeRow_b28_e, S_X10_takeRow_b28_e]
    obtain ⟨-, n11⟩ := bad_ne k5
    rw [if_neg n11, sb_3 (fun _ _ => rfl)]
    have hs : (if P_X10_takeNumber ν 2 40 0 12 ≤ 0 then P_X10_takeNumber ν 2 40 else P_X10_takeNumber ν 2 40) = P_X10_takeNumber ν 2 40 := by split <;> rfl
    rw [hs]
    exact ⟨⟨k1, ⟨fun _ => trivial, fun h => absurd c0 h⟩, trivial⟩, ⟨k2, fun _ => trivial, fun _ => ⟨fun h => absurd h n11, fun _ => trivial⟩⟩, h1, FrB_t h2 (FrM_B k4), Or.inr ⟨q, k5⟩⟩
  rcases w5 with ⟨y, y1, y2, y3, y4, y5, y6, y7, y8⟩ | ⟨y1, y2, y3, y4⟩
  · rw [y3, y4]
    obtain ⟨g1, g2, g3, g4, g5⟩ := sgn_ok (s := 42) hP2 w4 (by decide) (by decide) ⟨y5, y8, y6, y7⟩
    have g1' : S_X6_readSign R.2 42 := g1
    have g2' : S_X10_takeSign M 42 := g2
    have g3' : FrC R.2 (P_X6_readSign R.2 42) := g3
    have g4' : FrM M (P_X10_takeSign M 42) := g4
    have g5' : (q' + 1 ≤ 80 ∧ St (q' + 1) (P_X6_readSign R.2 42) (P_X10_takeSign M 42)) ∨ Bad q' (P_X6_readSign R.2 42) (P_X10_takeSign M 42) := g5
    generalize P_X6_readSign R.2 42 = σ2 at g3' g5' ⊢
    generalize P_X10_takeSign M 42 = μ2 at g4' g5' ⊢
    have hB3 := BT_f hB2 g3' g4'
    have hP3 := PP_f hP2 g3' g4'
    have hF1 : Fr3 σ σ2 := Fr3_t (FrC_3 w1) (FrC_3 g3')
    have hF2 : FrB μ μ2 := FrB_t (FrM_B w2) (FrM_B g4')
    rcases g5' with ⟨g6, g7⟩ | g6
    · obtain ⟨j1, j2, j3⟩ := num_ok (L := L) (lo := 2) (hi := 40) (p := q' + 1) (by decide) (by decide) (by decide) (by decide) g6 g7.1 g7.2.2.1 g7.2.2.2 g7.2.1 hP3
      have j1' : S_X6_readNumber σ2 2 40 := j1
      have j2' : S_X10_takeNumber μ2 2 40 := j2
      have j3' : NR 2 40 (q' + 1) σ2 μ2 (P_X6_readNumber σ2 2 40) (P_X10_takeNumber μ2 2 40) := j3
      generalize P_X6_readNumber σ2 2 40 = R2 at j3' ⊢
      generalize P_X10_takeNumber μ2 2 40 = M2 at j3' ⊢
      obtain ⟨i1, i2, q2, i3, i4, i5⟩ := j3'
      have hB4 := BT_f hB3 i1 i2
      rcases i5 with ⟨T, k1, k2, k3, k4, k5, k6, k7, k8⟩ | ⟨k1, k2, k3, k4⟩
      · rw [k3]
        unfold S_X6_addBeats P_X6_addBeats S_X6_addBeats_b0 P_X6_addBeats_b0
        obtain ⟨u1, u2', u3, u4, u5, a', c', u6, u7, u8⟩ := re_loop (g := y) (p := q2) k2 y1 y2 T FU FU 0 m a c R2.2 M2 (by omega) (by omega) (by omega) (by omega) (by omega) (by omega) ⟨k5, k8, k6, k7⟩ hB4 k4
        rw [nI_0] at u1 u2' u3 u4 u5 u8
        rw [sb_3 u3]
        exact ⟨⟨n1', g1', j1', u1, trivial⟩, ⟨n2', g2', j2', u2'⟩, Fr3_t (Fr3_t hF1 (FrC_3 i1)) u3, FrB_t (FrB_t hF2 (FrM_B i2)) u4, Or.inl ⟨q2, m + T, a', c', by omega, i4, by omega, by omega, by omega, u5, u8⟩⟩
      · rw [k1]
        unfold S_X6_addBeats P_X6_addBeats S_X6_addBeats_b0 P_X6_addBeats_b0
        have c0 : (0 : Int32) ≤ 0 := by decide
        have hbd : Bad q2 R2.2 M2 := ⟨k2, k3, k4, i4⟩
        obtain ⟨-, n11⟩ := bad_ne hbd
        rw [hf', P_X6_addBeats_b2_e, S_X6_addBeats_b2_e, if_pos c0, P_X10_takeRow_b28_e, S_X10_takeRow_b28_e, if_neg n11, sb_3 (fun _ _ => rfl)]
        have hs : (if M2 0 12 ≤ 0 then M2 else M2) = M2 := by split <;> rfl
        rw [hs]
        exact ⟨⟨n1', g1', j1', ⟨fun _ => trivial, fun h => absurd c0 h⟩, trivial⟩, ⟨n2', g2', j2', fun _ => trivial, fun _ => ⟨fun h => absurd h n11, fun _ => trivial⟩⟩, Fr3_t hF1 (FrC_3 i1), FrB_t hF2 (FrM_B i2), Or.inr ⟨q2, hbd⟩⟩
    · obtain ⟨z1, z2, z3⟩ := hbadend q' σ2 μ2 (nI y) (nI y) g6 hF1 hF2
      exact ⟨⟨n1', g1', z1⟩, ⟨n2', g2', z2⟩, z3⟩
  · have hbd : Bad q' R.2 M := ⟨y2, y3, y4, w4⟩
    obtain ⟨k1, k2, k3, k4, k5⟩ := bad_sign (v := 42) hbd
    rw [k3]
    obtain ⟨z1, z2, z3⟩ := hbadend q' R.2 (P_X10_takeSign M 42) R.1 (M 0 12) k5 (FrC_3 w1) (FrB_t (FrM_B w2) (FrM_B k4))
    exact ⟨⟨n1', k1, z1⟩, ⟨n2', k2, z2⟩, z3⟩
end RF1
