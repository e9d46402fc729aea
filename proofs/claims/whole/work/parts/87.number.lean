/-! the two readers: a number -/
section RN1
def PP (L : Nat) (σ μ : T2) : Prop := L ≤ 80 ∧ σ 3 1 = nI L ∧ μ 0 9 = nI L ∧ ∀ i, i < L → σ 4 i = μ 6 i
theorem cs_signs (σ : T2) (v : Int32) : S_X4_signAt σ v := by
  unfold S_X4_signAt S_X4_signAt_b0
  refine ⟨fun _ => trivial, fun h0 => ⟨fun _ => trivial, fun _ => ⟨fun _ => trivial, fun h1 => ⟨?_, trivial⟩⟩⟩⟩
  obtain ⟨j, hj, e⟩ := nI_of h0
  rw [e] at h1 ⊢
  refine vp_in_nI ?_ (by omega)
  exact Nat.not_le.mp (fun hle => h1 (nI_le (a := 80) hle hj))
theorem cs_digits (σ : T2) (v : Int32) : S_X4_digitAt σ v := by
  unfold S_X4_digitAt S_X4_digitAt_b0
  exact ⟨cs_signs _ _, fun _ => trivial, fun _ => ⟨fun _ => trivial, fun _ => trivial⟩⟩
theorem sg_eq {L q : Nat} {σ μ : T2} (hP : PP L σ μ) (hq : q ≤ 100) (h10 : μ 0 10 = nI q) : P_X4_signAt (fun j => σ (3 + j)) (nI q) = P_X10_next μ ∧ (L ≤ q → P_X10_next μ = 0) ∧ S_X10_next μ := by
  obtain ⟨h1, h2, h3, h4⟩ := hP
  have e' : (fun j => σ (3 + j)) 0 1 = nI L := h2
  unfold P_X4_signAt P_X4_signAt_b0 P_X10_next P_X10_next_b0 S_X10_next S_X10_next_b0
  rw [e', h3, h10, if_neg (nI_pos (by omega))]
  by_cases c : L ≤ q
  · have c' : nI L ≤ nI q := nI_le c (by omega)
    rw [if_pos c', if_pos c']
    exact ⟨rfl, fun _ => rfl, fun _ => trivial, fun h => absurd c' h⟩
  · have c' : ¬ nI L ≤ nI q := nI_ge (by omega) (by omega)
    rw [if_neg c', if_neg c', if_neg (show ¬ (80 : Int32) ≤ nI q from nI_ge (a := q) (b := 80) (by omega) (by omega)), nI_clamp (n := q) (by omega)]
    exact ⟨h4 q (by omega), fun h => absurd h c, fun h => absurd h c', fun _ => ⟨vp_in_nI (by omega) (by omega), trivial⟩⟩
theorem dg_no {σ : T2} {v s : Int32} (e : P_X4_signAt σ v = s) (h : P_X10_in s 48 57 = 0) : P_X4_digitAt σ v < 0 := by
  have hx := in_no h
  rw [show (48 : Int32).toInt = 48 from by decide, show (57 : Int32).toInt = 57 from by decide] at hx
  unfold P_X4_digitAt P_X4_digitAt_b0
  rw [e]
  by_cases c1 : s < 48
  · rw [if_pos c1]; decide
  · rw [if_neg c1, if_pos (by rw [ia_lt, show (57 : Int32).toInt = 57 from by decide]; rw [ia_lt, show (48 : Int32).toInt = 48 from by decide] at c1; omega)]
    decide
theorem dg_yes {σ : T2} {v s : Int32} (e : P_X4_signAt σ v = s) (h : ¬ P_X10_in s 48 57 = 0) : ∃ x, x < 10 ∧ s = nI (48 + x) ∧ P_X4_digitAt σ v = nI x := by
  have hx := in_ok h
  rw [show (48 : Int32).toInt = 48 from by decide, show (57 : Int32).toInt = 57 from by decide] at hx
  obtain ⟨j, -, rfl, ej⟩ := nI_ex (x := s) (by omega)
  refine ⟨j - 48, by omega, by rw [show 48 + (j - 48) = j by omega], ?_⟩
  unfold P_X4_digitAt P_X4_digitAt_b0
  rw [e, if_neg (by rw [ia_lt, show (48 : Int32).toInt = 48 from by decide]; omega), if_neg (by rw [ia_lt, show (57 : Int32).toInt = 57 from by decide]; omega)]
  exact pk_sub (a := j) (b := 48) (by omega)
def FrC (σ σ' : T2) : Prop := (∀ j, j ≠ 0 → σ' j = σ j) ∧ (∀ i, i ≠ 3 → i ≠ 4 → σ' 0 i = σ 0 i)
def FrM (μ μ' : T2) : Prop := (∀ j, j ≠ 0 → μ' j = μ j) ∧ (∀ i, i ≠ 10 → i ≠ 11 → i ≠ 12 → μ' 0 i = μ 0 i)
theorem FrC_t {a b c : T2} (h1 : FrC a b) (h2 : FrC b c) : FrC a c := ⟨fun j h => (h2.1 j h).trans (h1.1 j h), fun i h h' => (h2.2 i h h').trans (h1.2 i h h')⟩
theorem FrM_t {a b c : T2} (h1 : FrM a b) (h2 : FrM b c) : FrM a c := ⟨fun j h => (h2.1 j h).trans (h1.1 j h), fun i h h' h'' => (h2.2 i h h' h'').trans (h1.2 i h h' h'')⟩
theorem FrC_r (σ : T2) : FrC σ σ := ⟨fun _ _ => rfl, fun _ _ _ => rfl⟩
theorem PP_f {L : Nat} {σ μ σ' μ' : T2} (h : PP L σ μ) (h1 : FrC σ σ') (h2 : FrM μ μ') : PP L σ' μ' := ⟨h.1, by rw [h1.1 3 (by decide)]; exact h.2.1, by rw [h2.2 9 (by decide) (by decide) (by decide)]; exact h.2.2.1, fun i hi => by rw [h1.1 4 (by decide), h2.1 6 (by decide)]; exact h.2.2.2 i hi⟩
def NR (lo hi q : Nat) (σ μ : T2) (R : Int32 × T2) (M : T2) : Prop := FrC σ R.2 ∧ FrM μ M ∧ ∃ q', q ≤ q' ∧ q' ≤ 80 ∧ ((∃ y, lo ≤ y ∧ y ≤ hi ∧ R.1 = nI y ∧ M 0 12 = nI y ∧ R.2 0 3 = -6 ∧ R.2 0 4 = nI q' ∧ M 0 10 = nI q' ∧ M 0 11 = 0) ∨ (R.1 = 0 ∧ R.2 0 3 = nI q' ∧ M 0 10 = nI q' ∧ M 0 11 = 1))
theorem frC_u {σ : T2} {g : T1} (h : ∀ i, i ≠ 3 → i ≠ 4 → g i = σ 0 i) : FrC σ (u2 σ 0 g) := ⟨fun j h => u2_ne h, fun i a b => by rw [u2_at]; exact h i a b⟩
theorem frM_u {μ : T2} {g : T1} (h : ∀ i, i ≠ 10 → i ≠ 11 → i ≠ 12 → g i = μ 0 i) : FrM μ (u2 μ 0 g) := ⟨fun j h => u2_ne h, fun i a b c => by rw [u2_at]; exact h i a b c⟩
/-- the end of a number on both sides -/
theorem num_end {lo hi q x : Nat} {σ μ : T2} (hlo : 1 ≤ lo) (hhi : hi ≤ 9999) (hlh : lo ≤ hi) (hx : x ≤ hi) (hq : q ≤ 80) (e3 : σ 0 3 = -6) (e4 : σ 0 4 = nI q) (m10 : μ 0 10 = nI q) (m11 : μ 0 11 = 0) (m12 : μ 0 12 = nI x) : S_X6_readNumber_b124 σ (nI lo) (nI x) ∧ S_X10_takeNumber_b172 μ (nI lo) ∧ NR lo hi q σ μ (P_X6_readNumber_b124 σ (nI lo) (nI x)) (P_X10_takeNumber_b172 μ (nI lo)) := by
  unfold S_X6_readNumber_b124 S_X10_takeNumber_b172 P_X6_readNumber_b124 P_X10_takeNumber_b172 S_X10_takeNumber_b188 P_X10_takeNumber_b188 S_X10_takeNumber_b193 P_X10_takeNumber_b193
  rw [if_pos m11, m12]
  refine ⟨⟨fun _ => trivial, fun _ => trivial⟩, ⟨fun _ => ⟨fun _ => ⟨Or.inl rfl, trivial⟩, fun _ => ⟨Or.inr rfl, trivial⟩⟩, fun _ => ⟨Or.inr rfl, trivial⟩⟩, ?_⟩
  by_cases c : lo ≤ x
  · have c' : nI lo ≤ nI x := nI_le c (by omega)
    rw [if_pos c', if_pos c']
    refine ⟨FrC_r σ, frM_u (fun i a b c => pk_un b), q, Nat.le_refl _, hq, Or.inl ⟨x, c, hx, rfl, ?_, e3, e4, ?_, ?_⟩⟩
    · rw [u2_at, pk_un (by decide), m12]
    · rw [u2_at, pk_un (by decide), m10]
    · rw [u2_at, pk_us]
  · have c' : ¬ nI lo ≤ nI x := nI_ge (by omega) (by omega)
    rw [if_neg c', if_neg c']
    refine ⟨frC_u (fun i a b => pk_un a), frM_u (fun i a b c => pk_un b), q, Nat.le_refl _, hq, Or.inr ⟨rfl, ?_, ?_, ?_⟩⟩
    · dsimp only; rw [u2_at, pk_us, e4]
    · rw [u2_at, pk_un (by decide), m10]
    · rw [u2_at, pk_us]
theorem num_loop {L lo hi : Nat} (hlo : 1 ≤ lo) (hhi : hi ≤ 9999) (hlh : lo ≤ hi) : ∀ (d fc fm q t x : Nat) (σ μ : T2), L ≤ q + d → d < fc → d + 1 < fm → t ≤ q → q ≤ 80 → x ≤ hi → σ 0 3 = -6 → σ 0 4 = nI q → μ 0 10 = nI q → μ 0 11 = 0 → μ 0 12 = nI x → PP L σ μ →
    S_X6_readNumber_b49 fc σ (nI lo) (nI hi) (nI x) (nI t) ∧ S_X10_takeNumber_b59 fm μ (nI lo) (nI hi) ∧ NR lo hi q σ μ (P_X6_readNumber_b49 fc σ (nI lo) (nI hi) (nI x) (nI t)) (P_X10_takeNumber_b59 fm μ (nI lo) (nI hi)) := by
  intro d
  induction d with
  | zero =>
    intro fc fm q t x σ μ hL hfc hfm ht hq hx e3 e4 m10 m11 m12 hP
    obtain ⟨c, rfl⟩ : ∃ c, fc = c + 1 := ⟨fc - 1, by omega⟩
    obtain ⟨m, rfl⟩ : ∃ m, fm = m + 1 := ⟨fm - 1, by omega⟩
    obtain ⟨s1, s2, s3⟩ := sg_eq hP (by omega) m10
    have hn0 := s2 (by omega)
    have hin : P_X10_in (P_X10_next μ) 48 57 = 0 := by rw [hn0]; unfold P_X10_in P_X10_in_b0; decide
    have hdg := dg_no s1 hin
    obtain ⟨n1, n2, n3⟩ := num_end hlo hhi hlh hx hq e3 e4 m10 m11 m12
    have eC : P_X6_readNumber_b49 (c + 1) σ (nI lo) (nI hi) (nI x) (nI t) = P_X6_readNumber_b124 σ (nI lo) (nI x) := by
      rw [P_X6_readNumber_b49_e, e4, if_pos hdg]
      split <;> rfl
    have eM : P_X10_takeNumber_b59 (m + 1) μ (nI lo) (nI hi) = P_X10_takeNumber_b172 μ (nI lo) := by
      rw [P_X10_takeNumber_b59_e, if_pos m11, if_pos hin]
      split <;> rfl
    rw [eC, eM, S_X6_readNumber_b49_e, S_X10_takeNumber_b59_e, e4]
    exact ⟨⟨fun _ => n1, fun _ => ⟨cs_digits _ _, fun _ => n1, fun h => absurd hdg h⟩⟩, ⟨fun _ => ⟨fun _ => n2, fun _ => ⟨s3, ins _ _ _, fun _ => n2, fun h => absurd hin h⟩⟩, fun h => absurd m11 h⟩, n3⟩
  | succ d ih =>
    intro fc fm q t x σ μ hL hfc hfm ht hq hx e3 e4 m10 m11 m12 hP
    obtain ⟨c, rfl⟩ : ∃ c, fc = c + 1 := ⟨fc - 1, by omega⟩
    obtain ⟨m, rfl⟩ : ∃ m, fm = m + 1 := ⟨fm - 1, by omega⟩
    obtain ⟨s1, s2, s3⟩ := sg_eq hP (by omega) m10
    obtain ⟨n1, n2, n3⟩ := num_end hlo hhi hlh hx hq e3 e4 m10 m11 m12
    by_cases hin : P_X10_in (P_X10_next μ) 48 57 = 0
    · have hdg := dg_no s1 hin
      have eC : P_X6_readNumber_b49 (c + 1) σ (nI lo) (nI hi) (nI x) (nI t) = P_X6_readNumber_b124 σ (nI lo) (nI x) := by
        rw [P_X6_readNumber_b49_e, e4, if_pos hdg]
        split <;> rfl
      have eM : P_X10_takeNumber_b59 (m + 1) μ (nI lo) (nI hi) = P_X10_takeNumber_b172 μ (nI lo) := by
        rw [P_X10_takeNumber_b59_e, if_pos m11, if_pos hin]
        split <;> rfl
      rw [eC, eM, S_X6_readNumber_b49_e, S_X10_takeNumber_b59_e, e4]
      exact ⟨⟨fun _ => n1, fun _ => ⟨cs_digits _ _, fun _ => n1, fun h => absurd hdg h⟩⟩, ⟨fun _ => ⟨fun _ => n2, fun _ => ⟨s3, ins _ _ _, fun _ => n2, fun h => absurd hin h⟩⟩, fun h => absurd m11 h⟩, n3⟩
    · obtain ⟨y, hy, es, ed⟩ := dg_yes s1 hin
      have hqL : q < L := by
        rcases Nat.lt_or_ge q L with h | h
        · exact h
        · exfalso
          have h0 := s2 h
          rw [h0] at hin
          exact hin (by unfold P_X10_in P_X10_in_b0; decide)
      have hL80 := hP.1
      have c80 : ¬ (80 : Int32) ≤ nI t := nI_ge (a := t) (b := 80) (by omega) (by omega)
      have hdg : ¬ nI y < 0 := nI_pos (by omega)
      have el : nI x * 10 + nI y = nI (10 * x + y) := by
        rw [show (10 : Int32) = nI 10 from rfl, pk_mul, nI_add, Nat.mul_comm]
      have em : (10 : Int32) * nI x + nI (48 + y) - 48 = nI (10 * x + y) := by
        rw [show (10 : Int32) = nI 10 from rfl, pk_mul, nI_add, show (48 : Int32) = nI 48 from rfl, pk_sub (by omega), show 10 * x + (48 + y) - 48 = 10 * x + y by omega]
      have hin' : ¬ P_X10_in (nI (48 + y)) 48 57 = 0 := by rw [← es]; exact hin
      rw [P_X6_readNumber_b49_e, S_X6_readNumber_b49_e, P_X10_takeNumber_b59_e, S_X10_takeNumber_b59_e, e4, if_neg c80, ed, if_neg hdg, if_pos m11, if_neg hin, es, m12, el, em]
      unfold P_X6_readNumber_b83n S_X6_readNumber_b83n P_X6_readNumber_b94 S_X6_readNumber_b94
      by_cases cx : x = 0
      · have z : nI x = 0 := by rw [cx]; rfl
        have z2 : nI x ≤ 0 := by rw [z]; decide
        rw [if_pos z, if_pos z2]
        have hnl : ¬ nI lo ≤ nI x := nI_ge (by omega) (by omega)
        refine ⟨⟨fun h => absurd h c80, fun _ => ⟨cs_digits _ _, fun h => absurd h hdg, fun _ => ⟨cs_digits _ _, fun _ => trivial, fun h => absurd z h⟩⟩⟩, ⟨fun _ => ⟨fun _ => n2, fun h => absurd z2 h⟩, fun h => absurd m11 h⟩, ?_⟩
        unfold P_X10_takeNumber_b172 P_X10_takeNumber_b188 P_X10_takeNumber_b193
        rw [if_pos m11, m12, if_neg hnl]
        refine ⟨frC_u (fun i a b => pk_un a), frM_u (fun i a b c => pk_un b), q, Nat.le_refl _, hq, Or.inr ⟨rfl, ?_, ?_, ?_⟩⟩
        · dsimp only; rw [u2_at, pk_us, e4]
        · rw [u2_at, pk_un (by decide), m10]
        · rw [u2_at, pk_us]
      · have z : ¬ nI x = 0 := nI_ne0 (by omega) (by omega)
        have z2 : ¬ nI x ≤ 0 := nI_nle (by omega) (by omega)
        rw [if_neg z, if_neg z2]
        by_cases ch : 10 * x + y ≤ hi
        · have ch' : nI (10 * x + y) ≤ nI hi := nI_le ch (by omega)
          rw [if_pos ch', if_pos ch', e4, nI_1, nI_1]
          unfold P_X10_takeNumber_b112 S_X10_takeNumber_b112
          have en : P_X10_next (u2 μ 0 (upd (μ 0) 11 0)) = nI (48 + y) := by
            rw [← es]
            unfold P_X10_next P_X10_next_b0
            rw [u2_at, pk_un (by decide), pk_un (by decide), u2_ne (by decide)]
          have ens : S_X10_next (u2 μ 0 (upd (μ 0) 11 0)) := by
            unfold S_X10_next S_X10_next_b0 at s3 ⊢
            rw [u2_at, pk_un (by decide), pk_un (by decide)]
            exact s3
          rw [if_pos rfl, en, m12, em]
          unfold P_X10_takeNumber_b145 S_X10_takeNumber_b145 P_X10_takeNumber_b165 S_X10_takeNumber_b165
          simp only [u2_at, u2_same]
          have k11 : upd (μ 0) 11 0 11 = 0 := pk_us
          have k10 : upd (μ 0) 11 0 10 = nI q := by rw [pk_un (by decide), m10]
          rw [if_pos k11, k10, nI_1]
          obtain ⟨u1, u2', u3⟩ := ih c m (q + 1) (t + 1) (10 * x + y) (u2 σ 0 (upd (σ 0) 4 (nI (q + 1)))) (u2 μ 0 (upd (upd (upd (μ 0) 11 0) 12 (nI (10 * x + y))) 10 (nI (q + 1)))) (by omega) (by omega) (by omega) (by omega) (by omega) ch (by rw [u2_at, pk_un (by decide), e3]) (by rw [u2_at, pk_us]) (by rw [u2_at, pk_us]) (by rw [u2_at, pk_un (by decide), pk_un (by decide), pk_us]) (by rw [u2_at, pk_un (by decide), pk_us]) (PP_f hP (frC_u (fun i a b => pk_un b)) (frM_u (fun i a b c => by rw [pk_un a, pk_un c, pk_un b])))
          obtain ⟨v1, v2, q', v3, v4, v5⟩ := u3
          refine ⟨⟨fun h => absurd h c80, fun _ => ⟨cs_digits _ _, fun h => absurd h hdg, fun _ => ⟨cs_digits _ _, fun h => absurd h z, fun _ => ⟨fun _ => u1, fun h => absurd ch' h⟩⟩⟩⟩, ⟨fun _ => ⟨fun h => absurd h z2, fun _ => ⟨s3, ins _ _ _, fun h => absurd h hin', fun _ => ⟨s3, fun _ => ⟨by simp, fun _ => ⟨ens, fun _ => u2', fun h => absurd k11 h⟩, fun h => absurd (by simp) h⟩, fun h => absurd ch' h⟩⟩⟩, fun h => absurd m11 h⟩, FrC_t (frC_u (fun i a b => pk_un b)) v1, FrM_t (frM_u (fun i a b c => by rw [pk_un a, pk_un c, pk_un b])) v2, q', by omega, v4, v5⟩
        · have ch' : ¬ nI (10 * x + y) ≤ nI hi := nI_ge (by omega) (by omega)
          rw [if_neg ch', if_neg ch']
          unfold P_X10_takeNumber_b112 S_X10_takeNumber_b112
          have n1' : ¬ (1 : Int32) = 0 := by decide
          rw [if_neg n1']
          unfold P_X10_takeNumber_b145 S_X10_takeNumber_b145 P_X10_takeNumber_b165 S_X10_takeNumber_b165
          simp only [u2_at, u2_same]
          have k11 : ¬ upd (μ 0) 11 1 11 = 0 := by rw [pk_us]; decide
          have k10 : upd (μ 0) 11 1 10 = nI q := by rw [pk_un (by decide), m10]
          rw [if_neg k11, k10, show nI q + (0 : Int32) = nI q from Int32.add_zero _, m12]
          obtain ⟨m', rfl⟩ : ∃ m', m = m' + 1 := ⟨m - 1, by omega⟩
          have k11' : ¬ u2 μ 0 (upd (upd (upd (μ 0) 11 1) 12 (nI x)) 10 (nI q)) 0 11 = 0 := by
            rw [u2_at, pk_un (by decide), pk_un (by decide), pk_us]; decide
          rw [P_X10_takeNumber_b59_e, S_X10_takeNumber_b59_e, if_neg k11']
          have eB : P_X10_takeNumber_b172 (u2 μ 0 (upd (upd (upd (μ 0) 11 1) 12 (nI x)) 10 (nI q))) (nI lo) = u2 μ 0 (upd (upd (upd (upd (μ 0) 11 1) 12 (nI x)) 10 (nI q)) 11 1) := by
            unfold P_X10_takeNumber_b172 P_X10_takeNumber_b188 P_X10_takeNumber_b193
            rw [if_neg k11', u2_at, u2_same]
          have sB : S_X10_takeNumber_b172 (u2 μ 0 (upd (upd (upd (μ 0) 11 1) 12 (nI x)) 10 (nI q))) (nI lo) := by
            unfold S_X10_takeNumber_b172 S_X10_takeNumber_b188 S_X10_takeNumber_b193
            exact ⟨fun h => absurd h k11', fun _ => ⟨Or.inr rfl, trivial⟩⟩
          rw [eB]
          refine ⟨⟨fun h => absurd h c80, fun _ => ⟨cs_digits _ _, fun h => absurd h hdg, fun _ => ⟨cs_digits _ _, fun h => absurd h z, fun _ => ⟨fun h => absurd h ch', fun _ => trivial⟩⟩⟩⟩, ⟨fun _ => ⟨fun h => absurd h z2, fun _ => ⟨s3, ins _ _ _, fun h => absurd h hin', fun _ => ⟨s3, fun h => absurd h ch', fun _ => ⟨by simp, fun h => absurd h n1', fun _ => ⟨fun h => absurd h k11, fun _ => ⟨fun h => absurd h k11', fun _ => sB⟩⟩⟩⟩⟩⟩, fun h => absurd m11 h⟩, frC_u (fun i a b => pk_un a), frM_u (fun i a b c => by rw [pk_un b, pk_un a, pk_un c, pk_un b]), q, Nat.le_refl _, hq, Or.inr ⟨rfl, ?_, ?_, ?_⟩⟩
          · dsimp only; rw [u2_at, pk_us, e4]
          · rw [u2_at, pk_un (by decide), pk_us]
          · rw [u2_at, pk_us]
theorem num_ok {L lo hi p : Nat} {σ μ : T2} (hlo : 1 ≤ lo) (hhi : hi ≤ 9999) (hlh : lo ≤ hi) (h9 : 9 ≤ hi) (hp : p ≤ 80) (e3 : σ 0 3 = -6) (e4 : σ 0 4 = nI p) (m10 : μ 0 10 = nI p) (m11 : μ 0 11 = 0) (hP : PP L σ μ) : S_X6_readNumber σ (nI lo) (nI hi) ∧ S_X10_takeNumber μ (nI lo) (nI hi) ∧ NR lo hi p σ μ (P_X6_readNumber σ (nI lo) (nI hi)) (P_X10_takeNumber μ (nI lo) (nI hi)) := by
  have f1 := fu1364
  obtain ⟨s1, s2, s3⟩ := sg_eq hP (by omega) m10
  unfold S_X6_readNumber S_X6_readNumber_b0 P_X6_readNumber P_X6_readNumber_b0 S_X10_takeNumber S_X10_takeNumber_b0 P_X10_takeNumber P_X10_takeNumber_b0 S_X6_readNumber_b21n P_X6_readNumber_b21n S_X10_takeNumber_b22 P_X10_takeNumber_b22 S_X10_takeNumber_b27 P_X10_takeNumber_b27
  rw [if_pos e3, e4, if_pos m11]
  by_cases hin : P_X10_in (P_X10_next μ) 48 57 = 0
  · have hdg := dg_no s1 hin
    have hd2 : ¬ 0 ≤ P_X4_digitAt (fun j => σ (3 + j)) (nI p) := by rw [ia_le, ia_0]; rw [ia_lt, ia_0] at hdg; omega
    have n1' : ¬ (1 : Int32) = 0 := by decide
    rw [if_neg hd2, if_pos hin, if_neg n1']
    refine ⟨⟨fun _ => ⟨cs_digits _ _, fun h => absurd h hd2, fun _ => trivial⟩, fun h => absurd e3 h⟩, ⟨fun _ => ⟨s3, ins _ _ _, fun _ => ⟨Or.inr rfl, fun h => absurd h n1', fun _ => trivial⟩, fun h => absurd hin h⟩, fun h => absurd m11 h⟩, frC_u (fun i a b => pk_un a), frM_u (fun i a b c => pk_un b), p, Nat.le_refl _, hp, Or.inr ⟨rfl, ?_, ?_, ?_⟩⟩
    · dsimp only; rw [u2_at, pk_us]
    · rw [u2_at, pk_un (by decide), m10]
    · rw [u2_at, pk_us]
  · obtain ⟨y, hy, es, ed⟩ := dg_yes s1 hin
    have hpL : p < L := by
      rcases Nat.lt_or_ge p L with h | h
      · exact h
      · exfalso
        have h0 := s2 h
        rw [h0] at hin
        exact hin (by unfold P_X10_in P_X10_in_b0; decide)
    have hL80 := hP.1
    have hd2 : 0 ≤ nI y := nI_pos' (by omega)
    rw [ed, if_pos hd2, if_neg hin, if_pos rfl, nI_1]
    have en : P_X10_next (u2 μ 0 (upd (μ 0) 11 0)) = nI (48 + y) := by
      rw [← es]
      unfold P_X10_next P_X10_next_b0
      rw [u2_at, pk_un (by decide), pk_un (by decide), u2_ne (by decide)]
    have ens : S_X10_next (u2 μ 0 (upd (μ 0) 11 0)) := by
      unfold S_X10_next S_X10_next_b0 at s3 ⊢
      rw [u2_at, pk_un (by decide), pk_un (by decide)]
      exact s3
    rw [en, show nI (48 + y) - (48 : Int32) = nI y from by rw [show (48 : Int32) = nI 48 from rfl, pk_sub (by omega), show 48 + y - 48 = y by omega], m10, nI_1]
    obtain ⟨u1, u2', v1, v2, q', v3, v4, v5⟩ := num_loop (L := L) hlo hhi hlh (L - (p + 1)) FU FU (p + 1) 0 y (u2 σ 0 (upd (σ 0) 4 (nI (p + 1)))) (u2 μ 0 (upd (upd (upd (μ 0) 11 0) 12 (nI y)) 10 (nI (p + 1)))) (by omega) (by omega) (by omega) (by omega) (by omega) (by omega) (by rw [u2_at, pk_un (by decide), e3]) (by rw [u2_at, pk_us]) (by rw [u2_at, pk_us]) (by rw [u2_at, pk_un (by decide), pk_un (by decide), pk_us]) (by rw [u2_at, pk_un (by decide), pk_us]) (PP_f hP (frC_u (fun i a b => pk_un b)) (frM_u (fun i a b c => by rw [pk_un a, pk_un c, pk_un b])))
    rw [nI_0] at u1 v1 v5
    refine ⟨⟨fun _ => ⟨cs_digits _ _, fun _ => u1, fun h => absurd hd2 h⟩, fun h => absurd e3 h⟩, ⟨fun _ => ⟨s3, ins _ _ _, fun h => absurd h hin, fun _ => ⟨Or.inl rfl, fun _ => ⟨ens, u2'⟩, fun h => absurd rfl h⟩⟩, fun h => absurd m11 h⟩, FrC_t (frC_u (fun i a b => pk_un b)) v1, FrM_t (frM_u (fun i a b c => by rw [pk_un a, pk_un c, pk_un b])) v2, q', by omega, v4, v5⟩
end RN1
