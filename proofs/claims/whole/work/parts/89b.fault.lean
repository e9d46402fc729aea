/-! parts, whole texts, fault -/
section FT1
theorem bt_5 {m a c a' : Nat} {σ μ : T2} (h : BT m a c σ μ) : BT m a' c (u2 σ 0 (upd (σ 0) 5 (nI a'))) (u2 μ 0 (upd (μ 0) 14 (nI a'))) := by
  obtain ⟨⟨b1, b2, b3, b4, b5, b6⟩, b7⟩ := h
  refine ⟨⟨?_, ?_, ?_, ?_, ?_, ?_⟩, fun i hi h64 => ?_⟩
  · rw [u2_at, pk_un (by decide), b1]
  · rw [u2_at, pk_un (by decide), b2]
  · rw [u2_at, pk_us]
  · rw [u2_at, pk_us]
  · rw [u2_at, pk_un (by decide), b5]
  · rw [u2_at, pk_un (by decide), b6]
  · rw [u2_ne (by decide), u2_ne (by decide), u2_ne (by decide), u2_ne (by decide)]; exact b7 i hi h64
theorem bt_6 {m a c c' : Nat} {σ μ : T2} (h : BT m a c σ μ) : BT m a c' (u2 σ 0 (upd (σ 0) 6 (nI c'))) (u2 μ 0 (upd (μ 0) 15 (nI c'))) := by
  obtain ⟨⟨b1, b2, b3, b4, b5, b6⟩, b7⟩ := h
  refine ⟨⟨?_, ?_, ?_, ?_, ?_, ?_⟩, fun i hi h64 => ?_⟩
  · rw [u2_at, pk_un (by decide), b1]
  · rw [u2_at, pk_un (by decide), b2]
  · rw [u2_at, pk_un (by decide), b3]
  · rw [u2_at, pk_un (by decide), b4]
  · rw [u2_at, pk_us]
  · rw [u2_at, pk_us]
  · rw [u2_ne (by decide), u2_ne (by decide), u2_ne (by decide), u2_ne (by decide)]; exact b7 i hi h64
theorem st_o {p i k : Nat} {σ μ : T2} {x y : Int32} (h : St p σ μ) (hi : 5 ≤ i) (hk : 13 ≤ k) : St p (u2 σ 0 (upd (σ 0) i x)) (u2 μ 0 (upd (μ 0) k y)) := by
  refine ⟨?_, ?_, ?_, ?_⟩
  · rw [u2_at, pk_un (by omega)]; exact h.1
  · rw [u2_at, pk_un (by omega)]; exact h.2.1
  · rw [u2_at, pk_un (by omega)]; exact h.2.2.1
  · rw [u2_at, pk_un (by omega)]; exact h.2.2.2
theorem bad_o {q i k : Nat} {σ μ : T2} {x y : Int32} (h : Bad q σ μ) (hi : 5 ≤ i) (hk : 13 ≤ k) : Bad q (u2 σ 0 (upd (σ 0) i x)) (u2 μ 0 (upd (μ 0) k y)) := by
  refine ⟨?_, ?_, ?_, h.2.2.2⟩
  · rw [u2_at, pk_un (by omega)]; exact h.1
  · rw [u2_at, pk_un (by omega)]; exact h.2.1
  · rw [u2_at, pk_un (by omega)]; exact h.2.2.1
theorem fr_o {i k : Nat} {σ μ : T2} {x y : Int32} (hk : 13 ≤ k) : Fr3 σ (u2 σ 0 (upd (σ 0) i x)) ∧ FrB μ (u2 μ 0 (upd (μ 0) k y)) :=
  ⟨fun j hj => u2_ne (by omega), fun j h0 _ _ => u2_ne h0, fun i hi => by rw [u2_at, pk_un (by omega)]⟩
theorem part_ok {L p m a c : Nat} {σ μ : T2} (hp : p ≤ 80) (hm : m ≤ 40 * p) (ha : a ≤ 9999 * p) (hc : c ≤ 99 * p) (hst : St p σ μ) (hB : BT m a c σ μ) (hP : PP L σ μ) : S_X6_readPart σ ∧ S_X10_takePart μ ∧ RG p σ μ (P_X6_readPart σ) (P_X10_takePart μ) := by
  have hst0 := hst
  obtain ⟨e3, m11, e4, m10⟩ := hst
  obtain ⟨s1, s2, s3⟩ := sg_eq hP (by omega) m10
  have hL := hP.1
  obtain ⟨v1, v2, v3⟩ := mv_C hst0
  have hB1 := BT_f hB v1 v2
  have hP1 := PP_f hP v1 v2
  unfold S_X6_readPart S_X6_readPart_b0 P_X6_readPart P_X6_readPart_b0 S_X10_takePart S_X10_takePart_b0 P_X10_takePart P_X10_takePart_b0 S_X6_readPart_b77c P_X6_readPart_b77c S_X6_readPart_b85c P_X6_readPart_b85c S_X6_readPart_b122c P_X6_readPart_b122c S_X6_readPart_b101c P_X6_readPart_b101c S_X10_takePart_b64c P_X10_takePart_b64c S_X10_takePart_b71c P_X10_takePart_b71c S_X10_takePart_b105c P_X10_takePart_b105c S_X10_takePart_b81c P_X10_takePart_b81c
  rw [if_pos e3, e4, s1, m10, nI_1]
  have hlt : ∀ s : Nat, 0 < s → s < 1000 → P_X10_next μ = nI s → p + 1 ≤ 80 := fun s h0 h1 h => by
    rcases Nat.lt_or_ge p L with h2 | h2
    · omega
    · exfalso
      have h3 := s2 h2
      rw [h3] at h
      exact nI_ne0 h0 (by omega) h.symm
  by_cases c98 : P_X10_next μ = 98
  · have hp1 := hlt 98 (by decide) (by decide) c98
    obtain ⟨r1, r2, r3⟩ := rb_ok (L := L) hp1 (by omega : m + 1 ≤ 40 * (p + 1)) (by omega : a ≤ 9999 * (p + 1)) (by omega : c ≤ 99 * (p + 1)) v3 hB1 hP1
    rw [if_pos c98, if_pos c98]
    exact ⟨⟨fun _ => ⟨cs_signs _ _, fun _ => ⟨r1, trivial⟩, fun h => absurd c98 h⟩, fun h => absurd e3 h⟩, ⟨s3, fun _ => ⟨r2, trivial⟩, fun h => absurd c98 h⟩, RG_t (FrC_3 v1) (FrM_B v2) (by omega) r3⟩
  rw [if_neg c98, if_neg c98]
  by_cases c101 : P_X10_next μ = 101
  · have hp1 := hlt 101 (by decide) (by decide) c101
    obtain ⟨r1, r2, r3⟩ := re_ok (L := L) hp1 (by omega : m + 40 ≤ 40 * (p + 1)) (by omega : a ≤ 9999 * (p + 1)) (by omega : c ≤ 99 * (p + 1)) v3 hB1 hP1
    rw [if_pos c101, if_pos c101]
    exact ⟨⟨fun _ => ⟨cs_signs _ _, fun h => absurd h c98, fun _ => ⟨fun _ => ⟨r1, trivial⟩, fun h => absurd c101 h⟩⟩, fun h => absurd e3 h⟩, ⟨s3, fun h => absurd h c98, fun _ => ⟨fun _ => ⟨r2, trivial⟩, fun h => absurd c101 h⟩⟩, RG_t (FrC_3 v1) (FrM_B v2) (by omega) r3⟩
  rw [if_neg c101, if_neg c101]
  by_cases c108 : P_X10_next μ = 108
  · have hp1 := hlt 108 (by decide) (by decide) c108
    obtain ⟨n1, n2, n3⟩ := num_ok (L := L) (lo := 1) (hi := 9999) (p := p + 1) (by decide) (by decide) (by decide) (by decide) hp1 v3.1 v3.2.2.1 v3.2.2.2 v3.2.1 hP1
    have n1' : S_X6_readNumber (u2 σ 0 (upd (σ 0) 4 (nI (p + 1)))) 1 9999 := n1
    have n2' : S_X10_takeNumber (u2 μ 0 (upd (μ 0) 10 (nI (p + 1)))) 1 9999 := n2
    have n3' : NR 1 9999 (p + 1) (u2 σ 0 (upd (σ 0) 4 (nI (p + 1)))) (u2 μ 0 (upd (μ 0) 10 (nI (p + 1)))) (P_X6_readNumber (u2 σ 0 (upd (σ 0) 4 (nI (p + 1)))) 1 9999) (P_X10_takeNumber (u2 μ 0 (upd (μ 0) 10 (nI (p + 1)))) 1 9999) := n3
    rw [if_pos c108, if_pos c108]
    generalize P_X6_readNumber (u2 σ 0 (upd (σ 0) 4 (nI (p + 1)))) 1 9999 = R at n3' ⊢
    generalize P_X10_takeNumber (u2 μ 0 (upd (μ 0) 10 (nI (p + 1)))) 1 9999 = M at n3' ⊢
    obtain ⟨w1, w2, q', w3, w4, w5⟩ := n3'
    have hB2 := BT_f hB1 w1 w2
    refine ⟨⟨fun _ => ⟨cs_signs _ _, fun h => absurd h c98, fun _ => ⟨fun h => absurd h c101, fun _ => ⟨fun _ => ⟨n1', trivial⟩, fun h => absurd c108 h⟩⟩⟩, fun h => absurd e3 h⟩, ⟨s3, fun h => absurd h c98, fun _ => ⟨fun h => absurd h c101, fun _ => ⟨fun _ => ⟨n2', trivial⟩, fun h => absurd c108 h⟩⟩⟩, ?_⟩
    have hf := fr_o (i := 5) (k := 14) (σ := R.2) (μ := M) (x := σ 0 5 + R.1) (y := M 0 14 + M 0 12) (by decide)
    refine ⟨Fr3_t (Fr3_t (FrC_3 v1) (FrC_3 w1)) hf.1, FrB_t (FrB_t (FrM_B v2) (FrM_B w2)) hf.2, ?_⟩
    rcases w5 with ⟨y, y1, y2, y3, y4, y5, y6, y7, y8⟩ | ⟨y1, y2, y3, y4⟩
    · refine Or.inl ⟨q', m, a + y, c, by omega, w4, by omega, by omega, by omega, st_o ⟨y5, y8, y6, y7⟩ (by decide) (by decide), ?_⟩
      have e5 : σ 0 5 + R.1 = nI (a + y) := by rw [hB.1.2.2.1, y3, nI_add]
      have e14 : M 0 14 + M 0 12 = nI (a + y) := by rw [hB2.1.2.2.2.1, y4, nI_add]
      rw [e5, e14]
      exact bt_5 hB2
    · exact Or.inr ⟨q', bad_o ⟨y2, y3, y4, w4⟩ (by decide) (by decide)⟩
  rw [if_neg c108, if_neg c108]
  by_cases c109 : P_X10_next μ = 109
  · have hp1 := hlt 109 (by decide) (by decide) c109
    obtain ⟨n1, n2, n3⟩ := num_ok (L := L) (lo := 1) (hi := 99) (p := p + 1) (by decide) (by decide) (by decide) (by decide) hp1 v3.1 v3.2.2.1 v3.2.2.2 v3.2.1 hP1
    have n1' : S_X6_readNumber (u2 σ 0 (upd (σ 0) 4 (nI (p + 1)))) 1 99 := n1
    have n2' : S_X10_takeNumber (u2 μ 0 (upd (μ 0) 10 (nI (p + 1)))) 1 99 := n2
    have n3' : NR 1 99 (p + 1) (u2 σ 0 (upd (σ 0) 4 (nI (p + 1)))) (u2 μ 0 (upd (μ 0) 10 (nI (p + 1)))) (P_X6_readNumber (u2 σ 0 (upd (σ 0) 4 (nI (p + 1)))) 1 99) (P_X10_takeNumber (u2 μ 0 (upd (μ 0) 10 (nI (p + 1)))) 1 99) := n3
    rw [if_pos c109, if_pos c109]
    generalize P_X6_readNumber (u2 σ 0 (upd (σ 0) 4 (nI (p + 1)))) 1 99 = R at n3' ⊢
    generalize P_X10_takeNumber (u2 μ 0 (upd (μ 0) 10 (nI (p + 1)))) 1 99 = M at n3' ⊢
    obtain ⟨w1, w2, q', w3, w4, w5⟩ := n3'
    have hB2 := BT_f hB1 w1 w2
    refine ⟨⟨fun _ => ⟨cs_signs _ _, fun h => absurd h c98, fun _ => ⟨fun h => absurd h c101, fun _ => ⟨fun h => absurd h c108, fun _ => ⟨fun _ => ⟨n1', trivial⟩, fun h => absurd c109 h⟩⟩⟩⟩, fun h => absurd e3 h⟩, ⟨s3, fun h => absurd h c98, fun _ => ⟨fun h => absurd h c101, fun _ => ⟨fun h => absurd h c108, fun _ => ⟨fun _ => ⟨n2', trivial⟩, fun h => absurd c109 h⟩⟩⟩⟩, ?_⟩
    have hf := fr_o (i := 6) (k := 15) (σ := R.2) (μ := M) (x := σ 0 6 + R.1) (y := M 0 15 + M 0 12) (by decide)
    refine ⟨Fr3_t (Fr3_t (FrC_3 v1) (FrC_3 w1)) hf.1, FrB_t (FrB_t (FrM_B v2) (FrM_B w2)) hf.2, ?_⟩
    rcases w5 with ⟨y, y1, y2, y3, y4, y5, y6, y7, y8⟩ | ⟨y1, y2, y3, y4⟩
    · refine Or.inl ⟨q', m, a, c + y, by omega, w4, by omega, by omega, by omega, st_o ⟨y5, y8, y6, y7⟩ (by decide) (by decide), ?_⟩
      have e5 : σ 0 6 + R.1 = nI (c + y) := by rw [hB.1.2.2.2.2.1, y3, nI_add]
      have e14 : M 0 15 + M 0 12 = nI (c + y) := by rw [hB2.1.2.2.2.2.2, y4, nI_add]
      rw [e5, e14]
      exact bt_6 hB2
    · exact Or.inr ⟨q', bad_o ⟨y2, y3, y4, w4⟩ (by decide) (by decide)⟩
  rw [if_neg c109, if_neg c109, nI_pred]
  refine ⟨⟨fun _ => ⟨cs_signs _ _, fun h => absurd h c98, fun _ => ⟨fun h => absurd h c101, fun _ => ⟨fun h => absurd h c108, fun _ => ⟨fun h => absurd h c109, fun _ => trivial⟩⟩⟩⟩, fun h => absurd e3 h⟩, ⟨s3, fun h => absurd h c98, fun _ => ⟨fun h => absurd h c101, fun _ => ⟨fun h => absurd h c108, fun _ => ⟨fun h => absurd h c109, fun _ => trivial⟩⟩⟩⟩, FrC_3 (frC_u (fun i a b => by rw [pk_un a, pk_un b])), FrM_B (frM_u (fun i a b c => by rw [pk_un b, pk_un a, pk_un a])), Or.inr ⟨p, ?_, ?_, ?_, hp⟩⟩
  · rw [u2_at, pk_us]
  · rw [u2_at, pk_un (by decide), pk_us]
  · rw [u2_at, pk_us]
theorem part_bad {q : Nat} {σ μ : T2} (hb : Bad q σ μ) : S_X6_readPart σ ∧ P_X6_readPart σ = σ := by
  obtain ⟨n1, n2⟩ := bad_ne hb
  unfold S_X6_readPart S_X6_readPart_b0 P_X6_readPart P_X6_readPart_b0
  rw [if_neg n1]
  exact ⟨⟨fun h => absurd h n1, fun _ => trivial⟩, rfl⟩
/-- what a whole text gives -/
def RD (σ μ σ' : T2) (M : Int32 × T2) : Prop := Fr3 σ σ' ∧ FrB μ M.2 ∧ σ' 0 3 = M.1 ∧ ((M.1 = -6 ∧ ∃ m a c, m ≤ 3200 ∧ BT m a c σ' M.2) ∨ 0 ≤ M.1.toInt)
theorem read_bad {q : Nat} {σ μ : T2} (hb : Bad q σ μ) : (∀ n v, P_X6_read_b33 (n + 1) σ v = σ ∧ S_X6_read_b33 (n + 1) σ v) ∧ (∀ n, P_X10_fault_b29 (n + 1) μ = (nI q, μ) ∧ S_X10_fault_b29 (n + 1) μ) := by
  obtain ⟨n1, n2⟩ := bad_ne hb
  refine ⟨fun n v => ⟨?_, ?_⟩, fun n => ⟨?_, ?_⟩⟩
  · rw [P_X6_read_b33_e, if_neg n1]
    split <;> rfl
  · rw [S_X6_read_b33_e]
    exact ⟨fun _ => trivial, fun _ => ⟨fun h => absurd h n1, fun _ => trivial⟩⟩
  · rw [P_X10_fault_b29_e, if_neg n2]
    unfold P_X10_fault_b67
    rw [if_neg n2, hb.2.1]
  · rw [S_X10_fault_b29_e]
    exact ⟨fun h => absurd h n2, fun _ => ⟨fun _ => trivial, fun _ => trivial⟩⟩
theorem RD_bad {q : Nat} {σ μ σ' μ' : T2} (h1 : Fr3 σ σ') (h2 : FrB μ μ') (hb : Bad q σ' μ') : RD σ μ σ' (nI q, μ') := ⟨h1, h2, hb.1, Or.inr (by show 0 ≤ (nI q).toInt; rw [nI_toInt (by have := hb.2.2.2; omega)]; omega)⟩
theorem read_loop {L : Nat} : ∀ (d fc fm t p m a c : Nat) (σ μ : T2), 80 ≤ p + d → d + 1 < fc → d + 1 < fm → t ≤ p → p ≤ 80 → m ≤ 40 * p → a ≤ 9999 * p → c ≤ 99 * p → St p σ μ → BT m a c σ μ → PP L σ μ →
    S_X6_read_b33 fc σ (nI t) ∧ S_X10_fault_b29 fm μ ∧ RD σ μ (P_X6_read_b33 fc σ (nI t)) (P_X10_fault_b29 fm μ) := by
  have hend : ∀ (fc fm t p m a c : Nat) (σ μ : T2), p ≤ 80 → L ≤ p → m ≤ 40 * p → St p σ μ → BT m a c σ μ → PP L σ μ → S_X6_read_b33 (fc + 1) σ (nI t) ∧ S_X10_fault_b29 (fm + 1) μ ∧ RD σ μ (P_X6_read_b33 (fc + 1) σ (nI t)) (P_X10_fault_b29 (fm + 1) μ) := fun fc fm t p m a c σ μ hp hLp hm hst hB hP => by
    obtain ⟨e3, m11, e4, m10⟩ := hst
    have hL := hP.1
    have c1 : σ 3 1 ≤ σ 0 4 := by rw [hP.2.1, e4]; exact nI_le hLp (by omega)
    have c2 : μ 0 9 ≤ μ 0 10 := by rw [hP.2.2.1, m10]; exact nI_le hLp (by omega)
    have eC : P_X6_read_b33 (fc + 1) σ (nI t) = σ := by
      rw [P_X6_read_b33_e, if_pos e3, if_pos c1]
      split <;> rfl
    rw [eC, P_X10_fault_b29_e, S_X6_read_b33_e, S_X10_fault_b29_e, if_pos m11, if_pos c2]
    unfold P_X10_fault_b67 S_X10_fault_b67
    rw [if_pos m11]
    exact ⟨⟨fun _ => trivial, fun _ => ⟨fun _ => ⟨fun _ => trivial, fun h => absurd c1 h⟩, fun _ => trivial⟩⟩, ⟨fun _ => ⟨fun _ => ⟨fun _ => trivial, fun _ => trivial⟩, fun h => absurd c2 h⟩, fun h => absurd m11 h⟩, Fr3_r σ, FrB_r μ, e3, Or.inl ⟨rfl, m, a, c, by omega, hB⟩⟩
  intro d
  induction d with
  | zero =>
    intro fc fm t p m a c σ μ hd hfc hfm ht hp hm ha hc hst hB hP
    obtain ⟨f, rfl⟩ : ∃ f, fc = f + 1 := ⟨fc - 1, by omega⟩
    obtain ⟨g, rfl⟩ : ∃ g, fm = g + 1 := ⟨fm - 1, by omega⟩
    exact hend f g t p m a c σ μ hp (by have := hP.1; omega) hm hst hB hP
  | succ d ih =>
    intro fc fm t p m a c σ μ hd hfc hfm ht hp hm ha hc hst hB hP
    obtain ⟨f, rfl⟩ : ∃ f, fc = f + 1 := ⟨fc - 1, by omega⟩
    obtain ⟨g, rfl⟩ : ∃ g, fm = g + 1 := ⟨fm - 1, by omega⟩
    have hL := hP.1
    by_cases hLp : L ≤ p
    · exact hend f g t p m a c σ μ hp hLp hm hst hB hP
    · have hst0 := hst
      obtain ⟨e3, m11, e4, m10⟩ := hst
      have c80 : ¬ (80 : Int32) ≤ nI t := nI_ge (a := t) (b := 80) (by omega) (by omega)
      have c1 : ¬ σ 3 1 ≤ σ 0 4 := by rw [hP.2.1, e4]; exact nI_ge (by omega) (by omega)
      have c2 : ¬ μ 0 9 ≤ μ 0 10 := by rw [hP.2.2.1, m10]; exact nI_ge (by omega) (by omega)
      obtain ⟨g1, g2, g3, g4, g5⟩ := sgn_ok (s := 59) hP hp (by decide) (by decide) hst0
      have g1' : S_X6_readSign σ 59 := g1
      have g2' : S_X10_takeSign μ 59 := g2
      have g3' : FrC σ (P_X6_readSign σ 59) := g3
      have g4' : FrM μ (P_X10_takeSign μ 59) := g4
      have g5' : (p + 1 ≤ 80 ∧ St (p + 1) (P_X6_readSign σ 59) (P_X10_takeSign μ 59)) ∨ Bad p (P_X6_readSign σ 59) (P_X10_takeSign μ 59) := g5
      rw [P_X6_read_b33_e, S_X6_read_b33_e, P_X10_fault_b29_e, S_X10_fault_b29_e, if_neg c80, if_pos e3, if_neg c1, if_pos m11, if_neg c2]
      unfold P_X6_read_b66c S_X6_read_b66c P_X6_read_b71c S_X6_read_b71c P_X10_fault_b53c S_X10_fault_b53c P_X10_fault_b64c S_X10_fault_b64c
      rw [nI_1]
      generalize P_X6_readSign σ 59 = σ2 at g3' g5' ⊢
      generalize P_X10_takeSign μ 59 = μ2 at g4' g5' ⊢
      have hB3 := BT_f hB g3' g4'
      have hP3 := PP_f hP g3' g4'
      rcases g5' with ⟨g6, g7⟩ | g6
      · obtain ⟨r1, r2, r3, r4, r5⟩ := part_ok (L := L) g6 (by omega : m ≤ 40 * (p + 1)) (by omega : a ≤ 9999 * (p + 1)) (by omega : c ≤ 99 * (p + 1)) g7 hB3 hP3
        rw [if_pos g7.2.1]
        have hF1 := Fr3_t (FrC_3 g3') r3
        have hF2 := FrB_t (FrM_B g4') r4
        rcases r5 with ⟨p', m', a', c', x1, x2, x3, x4, x5, x6, x7⟩ | ⟨q, x⟩
        · obtain ⟨u1, u2', u3, u4, u5, u6⟩ := ih f g (t + 1) p' m' a' c' (P_X6_readPart σ2) (P_X10_takePart μ2) (by omega) (by omega) (by omega) (by omega) x2 x3 x4 x5 x6 x7 (PP_3 hP3 r3 r4)
          exact ⟨⟨fun h => absurd h c80, fun _ => ⟨fun _ => ⟨fun h => absurd h c1, fun _ => ⟨g1', r1, u1⟩⟩, fun h => absurd e3 h⟩⟩, ⟨fun _ => ⟨fun h => absurd h c2, fun _ => ⟨g2', fun _ => ⟨r2, u2'⟩, fun h => absurd g7.2.1 h⟩⟩, fun h => absurd m11 h⟩, Fr3_t hF1 u3, FrB_t hF2 u4, u5, u6⟩
        · obtain ⟨f', rfl⟩ : ∃ f', f = f' + 1 := ⟨f - 1, by omega⟩
          obtain ⟨g', rfl⟩ : ∃ g', g = g' + 1 := ⟨g - 1, by omega⟩
          obtain ⟨k1, k2⟩ := read_bad x
          rw [(k1 f' (nI (t + 1))).1, (k2 g').1]
          exact ⟨⟨fun h => absurd h c80, fun _ => ⟨fun _ => ⟨fun h => absurd h c1, fun _ => ⟨g1', r1, (k1 f' (nI (t + 1))).2⟩⟩, fun h => absurd e3 h⟩⟩, ⟨fun _ => ⟨fun h => absurd h c2, fun _ => ⟨g2', fun _ => ⟨r2, (k2 g').2⟩, fun h => absurd g7.2.1 h⟩⟩, fun h => absurd m11 h⟩, RD_bad hF1 hF2 x⟩
      · obtain ⟨n1, n2⟩ := bad_ne g6
        obtain ⟨z1, z2⟩ := part_bad g6
        rw [if_neg n2, z2]
        obtain ⟨f', rfl⟩ : ∃ f', f = f' + 1 := ⟨f - 1, by omega⟩
        obtain ⟨g', rfl⟩ : ∃ g', g = g' + 1 := ⟨g - 1, by omega⟩
        obtain ⟨k1, k2⟩ := read_bad g6
        rw [(k1 f' (nI (t + 1))).1, (k2 g').1]
        exact ⟨⟨fun h => absurd h c80, fun _ => ⟨fun _ => ⟨fun h => absurd h c1, fun _ => ⟨g1', z1, (k1 f' (nI (t + 1))).2⟩⟩, fun h => absurd e3 h⟩⟩, ⟨fun _ => ⟨fun h => absurd h c2, fun _ => ⟨g2', fun h => absurd h n2, fun _ => (k2 g').2⟩⟩, fun h => absurd m11 h⟩, RD_bad (FrC_3 g3') (FrM_B g4') g6⟩
theorem read_ok {L : Nat} {σ μ : T2} (hP : PP L σ μ) : S_X6_read σ ∧ S_X10_fault μ ∧ RD σ μ (P_X6_read σ) (P_X10_fault μ) := by
  have f1 := fu1364
  obtain ⟨f', hf'⟩ : ∃ f', FU = f' + 1 := ⟨FU - 1, by omega⟩
  unfold S_X6_read S_X6_read_b0 S_X6_read_b31c P_X6_read P_X6_read_b0 P_X6_read_b31c S_X10_fault S_X10_fault_b0 P_X10_fault P_X10_fault_b0
  generalize hσ : u2 σ 0 (upd (upd (upd (upd (upd (σ 0) 2 (0 : Int32)) 3 (-6 : Int32)) 4 (0 : Int32)) 5 (0 : Int32)) 6 (0 : Int32)) = σ0
  generalize hμ : u2 μ 0 (upd (upd (upd (upd (upd (μ 0) 10 (0 : Int32)) 11 (0 : Int32)) 13 (0 : Int32)) 14 (0 : Int32)) 15 (0 : Int32)) = μ0
  have hF1 : Fr3 σ σ0 := fun j hj => by rw [← hσ, u2_ne (by omega)]
  have hF2 : FrB μ μ0 := ⟨fun j h0 _ _ => by rw [← hμ, u2_ne h0], fun i hi => by rw [← hμ, u2_at, pk_un (by omega), pk_un (by omega), pk_un (by omega), pk_un (by omega), pk_un (by omega)]⟩
  have hst : St 0 σ0 μ0 := by
    refine ⟨?_, ?_, ?_, ?_⟩
    · rw [← hσ, u2_at, pk_un (by decide), pk_un (by decide), pk_un (by decide), pk_us]
    · rw [← hμ, u2_at, pk_un (by decide), pk_un (by decide), pk_un (by decide), pk_us]
    · rw [← hσ, u2_at, pk_un (by decide), pk_un (by decide), pk_us]; rfl
    · rw [← hμ, u2_at, pk_un (by decide), pk_un (by decide), pk_un (by decide), pk_un (by decide), pk_us]; rfl
  have hB : BT 0 0 0 σ0 μ0 := by
    refine ⟨⟨?_, ?_, ?_, ?_, ?_, ?_⟩, fun i hi => absurd hi (by omega)⟩
    · rw [← hσ, u2_at, pk_un (by decide), pk_un (by decide), pk_un (by decide), pk_un (by decide), pk_us]; rfl
    · rw [← hμ, u2_at, pk_un (by decide), pk_un (by decide), pk_us]; rfl
    · rw [← hσ, u2_at, pk_un (by decide), pk_us]; rfl
    · rw [← hμ, u2_at, pk_un (by decide), pk_us]; rfl
    · rw [← hσ, u2_at, pk_us]; rfl
    · rw [← hμ, u2_at, pk_us]; rfl
  have hP0 := PP_3 hP hF1 hF2
  obtain ⟨r1, r2, r3, r4, r5⟩ := part_ok (L := L) (by decide : 0 ≤ 80) (Nat.zero_le _) (Nat.zero_le _) (Nat.zero_le _) hst hB hP0
  rcases r5 with ⟨p', m', a', c', x1, x2, x3, x4, x5, x6, x7⟩ | ⟨q, x⟩
  · obtain ⟨u1, u2', u3, u4, u5, u6⟩ := read_loop (L := L) 80 FU FU 0 p' m' a' c' (P_X6_readPart σ0) (P_X10_takePart μ0) (by omega) (by omega) (by omega) (by omega) x2 x3 x4 x5 x6 x7 (PP_3 hP0 r3 r4)
    rw [nI_0] at u1 u3 u5 u6
    exact ⟨⟨r1, u1⟩, ⟨r2, u2'⟩, Fr3_t (Fr3_t hF1 r3) u3, FrB_t (FrB_t hF2 r4) u4, u5, u6⟩
  · obtain ⟨k1, k2⟩ := read_bad x
    rw [hf', (k1 f' 0).1, (k2 f').1]
    exact ⟨⟨r1, (k1 f' 0).2⟩, ⟨r2, (k2 f').2⟩, RD_bad (Fr3_t hF1 r3) (FrB_t hF2 r4) x⟩
theorem PP_of {k : Nat} {ξ μ : T2} (hR : Rel k ξ μ) : ∃ L, PP L (sel ξ 177 3 175) μ := by
  obtain ⟨-, -, -, ⟨L, p1, p2, p3, p4⟩, -⟩ := hR
  have s3 : sel ξ 177 3 175 3 = ξ 175 := by unfold sel; rw [if_neg (by decide)]
  have s4 : sel ξ 177 3 175 4 = ξ 176 := by unfold sel; rw [if_neg (by decide)]
  exact ⟨L, p1, by rw [s3]; exact p2, p3, fun i hi => by rw [s4]; exact p4 i hi⟩
theorem rd_back {ξ σ' : T2} (h : Fr3 (sel ξ 177 3 175) σ') : ∀ j, ¬ (177 ≤ j ∧ j < 180) → sb2 ξ 177 3 175 2 σ' j = ξ j := fun j hj => by
  unfold sb2
  rw [if_neg (by omega)]
  by_cases c : 175 ≤ j ∧ j < 175 + 2
  · rw [if_pos c, h _ (by omega)]
    unfold sel
    rw [if_neg (by omega), show 175 + (3 + (j - 175) - 3) = j by omega]
  · rw [if_neg c]
theorem Rel_rd {k : Nat} {ξ μ ξ' μ' : T2} (h : Rel k ξ μ) (e : ∀ j, ¬ (177 ≤ j ∧ j < 180) → ξ' j = ξ j) (m : FrB μ μ') : Rel k ξ' μ' :=
  Rel_c h (fun j hj => e j (by omega)) ⟨m.2 2 (by decide), m.2 3 (by decide), m.2 7 (by decide), m.2 9 (by decide)⟩ (fun i _ => by rw [m.1 1 (by decide) (by decide) (by decide)]) (m.1 2 (by decide) (by decide) (by decide)) (m.1 3 (by decide) (by decide) (by decide)) (m.1 4 (by decide) (by decide) (by decide)) (m.1 6 (by decide) (by decide) (by decide))
theorem ok_fault : Ok_fault Rel := by
  intro k ξ μ hk hR
  obtain ⟨L, hP⟩ := PP_of hR
  obtain ⟨r1, r2, r3, r4, r5, -⟩ := read_ok hP
  refine ⟨?_, r2, ?_, ?_⟩
  · unfold S_X9_fault S_X9_fault_b0
    exact ⟨r1, trivial⟩
  · exact r5
  · exact Rel_rd (Rel_mono _ _ _ hR) (rd_back r3) r4
end FT1
