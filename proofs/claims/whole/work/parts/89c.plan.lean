/-! plan -/
section PN1
def LT (f : T1) (B : Nat) : Int32 := if B = 0 then 0 else f (32 + 6 * (B - 1))
def NT (f : T1) (B : Nat) : Int32 := if B = 0 then 0 else f (33 + 6 * (B - 1)) + 1
def fA (g z : T1) (d : Nat) : Nat → Nat → T1 → T1 := Nat.rec (motive := fun _ => Nat → Nat → T1 → T1) (fun _ _ f => f) (fun _ r i B f => r (i + 1) (B + 1) (adb f B (LT f B + g i) (NT f B + z i))) d
theorem fA_0 (g z : T1) (i B : Nat) (f : T1) : fA g z 0 i B f = f := rfl
theorem fA_s (g z : T1) (d i B : Nat) (f : T1) : fA g z (d + 1) i B f = fA g z d (i + 1) (B + 1) (adb f B (LT f B + g i) (NT f B + z i)) := rfl
theorem LTm {μ : T2} {B : Nat} (e : μ 1 22 = nI B) (hB : B ≤ 64) : P_X10_lastTime μ = LT (μ 1) B ∧ P_X10_nextTrue μ = NT (μ 1) B ∧ S_X10_lastTime μ ∧ S_X10_nextTrue μ := by
  unfold P_X10_lastTime P_X10_lastTime_b0 P_X10_nextTrue P_X10_nextTrue_b0 S_X10_lastTime S_X10_lastTime_b0 S_X10_nextTrue S_X10_nextTrue_b0 LT NT
  rw [e]
  by_cases c : B = 0
  · have z : nI B = 0 := by rw [c]; rfl
    rw [if_pos z, if_pos z, if_pos c, if_pos c]
    exact ⟨rfl, rfl, ⟨fun _ => trivial, fun h => absurd z h⟩, ⟨fun _ => trivial, fun h => absurd z h⟩⟩
  · have z : ¬ nI B = 0 := nI_ne0 (by omega) (by omega)
    rw [if_neg z, if_neg z, if_neg c, if_neg c, nI_predb (by omega), ms_ofB (ki := 0) (k := 0) rfl (by omega) (by decide), ms_ofB (ki := 1) (k := 1) rfl (by omega) (by decide)]
    exact ⟨rfl, by rw [show 32 + 6 * (B - 1) + 1 = 33 + 6 * (B - 1) by omega], ⟨fun h => absurd h z, fun _ => ⟨ms_ofBs (ki := 0) (k := 0) rfl (by omega) (by decide), trivial⟩⟩, ⟨fun h => absurd h z, fun _ => ⟨ms_ofBs (ki := 1) (k := 1) rfl (by omega) (by decide), trivial⟩⟩⟩
theorem LTc {σ : T2} {f : T1} {B : Nat} (e : σ 0 2 = nI B) (hB : B ≤ 64) (h : ∀ c, c < B → σ 1 c = f (32 + 6 * c) ∧ σ 2 c = f (33 + 6 * c)) : P_X5_lastTime σ = LT f B ∧ P_X5_nextNumber σ = NT f B := by
  unfold P_X5_lastTime P_X5_lastTime_b0 P_X5_nextNumber P_X5_nextNumber_b0 LT NT
  rw [e]
  by_cases c : B = 0
  · subst c
    have h0 := has_m1 (σ := σ)
    unfold P_X5_timeOf P_X5_timeOf_b0 P_X5_numberOf P_X5_numberOf_b0
    rw [h0]
    refine ⟨?_, ?_⟩
    · rw [if_pos rfl, if_pos rfl]
    · rw [if_pos rfl, if_pos rfl]; decide
  · rw [if_neg c, if_neg c, nI_predb (by omega), cs_timeOf (b := B - 1) (m := B) e (by omega) hB, cs_numberOf (b := B - 1) (m := B) e (by omega) hB, (h (B - 1) (by omega)).1, (h (B - 1) (by omega)).2]
    exact ⟨rfl, rfl⟩
theorem am_loop {m : Nat} (hm : m ≤ 64) : ∀ (d fm i B : Nat) (μ : T2), i + d = m → B + d ≤ 64 → d < fm → μ 1 22 = nI B → μ 0 13 = nI m →
    S_X10_plan_b27 fm μ (nI i) ∧ P_X10_plan_b27 fm μ (nI i) = (nI (B + d), u2 (u2 μ 1 (fA (μ 7) (μ 8) d i B (μ 1))) 0 (upd (μ 0) 9 0)) := by
  intro d
  induction d with
  | zero =>
    intro fm i B μ hi hB hf e22 e13
    obtain ⟨f, rfl⟩ : ∃ f, fm = f + 1 := ⟨fm - 1, by omega⟩
    have c : μ 0 13 ≤ nI i := by rw [e13]; exact nI_le (by omega) (by omega)
    rw [P_X10_plan_b27_e, S_X10_plan_b27_e, if_pos c, fA_0, u2_self, e22]
    exact ⟨⟨fun _ => trivial, fun h => absurd c h⟩, rfl⟩
  | succ d ih =>
    intro fm i B μ hi hB hf e22 e13
    obtain ⟨f, rfl⟩ : ∃ f, fm = f + 1 := ⟨fm - 1, by omega⟩
    have c : ¬ μ 0 13 ≤ nI i := by rw [e13]; exact nI_ge (by omega) (by omega)
    obtain ⟨l1, l2, l3, l4⟩ := LTm e22 (by omega : B ≤ 64)
    obtain ⟨a1, a2⟩ := ms_add (v3 := LT (μ 1) B + μ 7 i) (v4 := NT (μ 1) B + μ 8 i) e22 (by omega)
    rw [P_X10_plan_b27_e, S_X10_plan_b27_e, if_neg c, l1, l2, nI_clamp (n := i) (by omega)]
    unfold P_X10_plan_b61c S_X10_plan_b61c
    rw [a1, nI_1]
    obtain ⟨u1, u2'⟩ := ih f (i + 1) (B + 1) (u2 μ 1 (adb (μ 1) B (LT (μ 1) B + μ 7 i) (NT (μ 1) B + μ 8 i))) (by omega) (by omega) (by omega) (by rw [u2_at]; unfold adb; rw [pk_us]) (by rw [u2_ne (by decide), e13])
    rw [u2'] 
    rw [u2_at, u2_same, u2_ne (σ := μ) (c := 1) (j := 7) (by decide), u2_ne (σ := μ) (c := 1) (j := 8) (by decide), u2_ne (σ := μ) (c := 1) (j := 0) (by decide), fA_s, show B + 1 + d = B + (d + 1) by omega]
    exact ⟨⟨fun h => absurd h c, fun _ => ⟨l3, vp_in_nI (by omega) (by omega), l4, vp_in_nI (by omega) (by omega), a2, u1⟩⟩, rfl⟩
theorem cs_app0 {σ : T2} {B : Nat} {v3 v4 : Int32} (e : σ 0 2 = nI B) (hB : B < 64) : sb σ 0 3 (P_X5_append σ v3 v4) = u2 (u2 (u2 σ 1 (upd (σ 1) B v3)) 2 (upd (σ 2) B v4)) 0 (upd (σ 0) 2 (nI (B + 1))) := by
  have h := cs_app5 (ξ := σ) (o := 0) (k1 := 1) (k2 := 2) (b := B) (v3 := v3) (v4 := v4) rfl rfl e hB
  have eid : P_X5_append (fun i => σ (0 + i)) v3 v4 = P_X5_append σ v3 v4 := by
    congr 1
    funext i
    rw [Nat.zero_add]
  rw [eid] at h
  exact h
/-- too many beats: the class sees it, at the latest, when its rows are full -/
theorem pf_loop {m : Nat} (hm : m ≤ 64) : ∀ (d fc i B : Nat) (σ : T2), i + d = m → 64 < B + d → B ≤ 64 → d < fc → σ 0 2 = nI B → σ 3 2 = nI m →
    S_X5_appendAll_b13 fc σ (nI i) ∧ (P_X5_appendAll_b13 fc σ (nI i)).1 = 0 ∧ (∀ j, 3 ≤ j → (P_X5_appendAll_b13 fc σ (nI i)).2 j = σ j) := by
  intro d
  induction d with
  | zero => intro fc i B σ hi h1 h2; omega
  | succ d ih =>
    intro fc i B σ hi h1 h2 hf e0 e3
    obtain ⟨f, rfl⟩ : ∃ f, fc = f + 1 := ⟨fc - 1, by omega⟩
    have c : ¬ σ 3 2 ≤ nI i := by rw [e3]; exact nI_ge (by omega) (by omega)
    have hv : vp_in (nI i) 64 := vp_in_nI (by omega) (by omega)
    rw [P_X5_appendAll_b13_e, S_X5_appendAll_b13_e, if_neg c]
    unfold P_X5_appendAll_b33n S_X5_appendAll_b33n P_X5_appendAll_b46n S_X5_appendAll_b46n P_X5_appendAll_b65c S_X5_appendAll_b65c
    generalize P_X5_lastTime σ + σ 4 (nI i).toNatClampNeg = v3
    generalize P_X5_nextNumber σ + σ 5 (nI i).toNatClampNeg = v4
    by_cases ch : P_X5_canHold σ v3 v4 = 0
    · rw [if_pos ch]
      exact ⟨⟨fun h => absurd h c, fun _ => ⟨cs_lasts _, hv, cs_nexts _, hv, cs_cans _ _ _, fun _ => trivial, fun h => absurd ch h⟩⟩, rfl, fun _ _ => rfl⟩
    · have hB : B < 64 := by
        rcases Nat.lt_or_ge B 64 with h | h
        · exact h
        · exfalso
          apply ch
          unfold P_X5_canHold P_X5_canHold_b0
          rw [e0, if_pos (show (64 : Int32) ≤ nI B from nI_le (a := 64) (b := B) h (by omega))]
      rw [if_neg ch, cs_app0 e0 hB, nI_1]
      obtain ⟨u1, u2', u3⟩ := ih f (i + 1) (B + 1) (u2 (u2 (u2 σ 1 (upd (σ 1) B v3)) 2 (upd (σ 2) B v4)) 0 (upd (σ 0) 2 (nI (B + 1)))) (by omega) (by omega) (by omega) (by omega) (by rw [u2_at, pk_us]) (by rw [u2_ne (by decide), u2_ne (by decide), u2_ne (by decide), e3])
      exact ⟨⟨fun h => absurd h c, fun _ => ⟨cs_lasts _, hv, cs_nexts _, hv, cs_cans _ _ _, fun h => absurd h ch, fun _ => ⟨cs_apps _ _ _, u1⟩⟩⟩, u2', fun j hj => by rw [u3 j hj, u2_ne (by omega), u2_ne (by omega), u2_ne (by omega)]⟩
def Tp (B : Nat) (σ sc : T2) : Prop := σ 0 2 = nI B ∧ ∀ c, c < 64 → σ 1 c = sc 3 c ∧ σ 2 c = sc 4 c
theorem Tp_f {h n B : Nat} {σ sc : T2} {f : T1} (hR : RS 64 h n B sc f) (hT : Tp B σ sc) : ∀ c, c < B → σ 1 c = f (32 + 6 * c) ∧ σ 2 c = f (33 + 6 * c) := fun c hc => by
  have hb := hR.2.2.2.1.2.1
  have hP := hR.2.2.2.2.2.1.1 c (by rw [wbF hb]; exact hc)
  rw [show skp 64 c = c by unfold skp; rw [if_pos (by omega)]] at hP
  obtain ⟨t1, t2⟩ := hT.2 c (by omega)
  exact ⟨t1.trans hP.1, t2.trans hP.2⟩
theorem LT_b {h n B : Nat} {sc : T2} {f : T1} (hR : RS 64 h n B sc f) : 0 ≤ (LT f B).toInt ∧ (LT f B).toInt ≤ 100000 ∧ (0 < B → (f (32 + 6 * (B - 1))).toInt = (LT f B).toInt) := by
  unfold LT
  by_cases c : B = 0
  · rw [if_pos c, ia_0]; exact ⟨by decide, by decide, fun h => absurd h (by omega)⟩
  · rw [if_neg c]
    have := hR.2.2.2.2.2.1.2.1 (B - 1) (by omega)
    exact ⟨this.1, this.2, fun _ => rfl⟩
/-- what appendAll and whyNotPlan say, where there is room -/
theorem pl_loop {h n m : Nat} {ν : T2} (hm : m ≤ 64) (e13 : ν 0 13 = nI m) : ∀ (d fc fw i B : Nat) (σ sc : T2) (f : T1) (late : Int32), i + d = m → B + d ≤ 64 → d < fc → d < fw → RS 64 h n B sc f → Tp B σ sc → σ 3 2 = nI m → (∀ k, k < m → σ 4 k = ν 7 k ∧ σ 5 k = ν 8 k ∧ 1 ≤ (ν 7 k).toInt ∧ (ν 7 k).toInt ≤ 900000) → (late = 0 ∨ late = 1) →
    S_X5_appendAll_b13 fc σ (nI i) ∧ S_X10_whyNotPlan_b35 fw ν (LT f B) (NT f B) late (nI i) ∧ (∀ j, 3 ≤ j → (P_X5_appendAll_b13 fc σ (nI i)).2 j = σ j) ∧
    (((P_X5_appendAll_b13 fc σ (nI i)).1 = 0 ∧ P_X10_whyNotPlan_b35 fw ν (LT f B) (NT f B) late (nI i) = -4) ∨
     ((P_X5_appendAll_b13 fc σ (nI i)).1 = 1 ∧ (∃ sc', RS 64 h n (B + d) sc' (fA (ν 7) (ν 8) d i B f) ∧ Tp (B + d) (P_X5_appendAll_b13 fc σ (nI i)).2 sc' ∧ (∀ j, j ≠ 2 → j ≠ 3 → j ≠ 4 → sc' j = sc j)) ∧ (∀ c, c < B → (P_X5_appendAll_b13 fc σ (nI i)).2 1 c = σ 1 c) ∧ (0 < d → (P_X5_appendAll_b13 fc σ (nI i)).2 1 B = LT f B + ν 7 i) ∧ P_X10_whyNotPlan_b35 fw ν (LT f B) (NT f B) late (nI i) = (if ¬ late = 0 then -5 else if 0 < d ∧ ¬ ν 1 8 < LT f B + ν 7 i then -5 else 0))) := by
  intro d
  induction d with
  | zero =>
    intro fc fw i B σ sc f late hi hB hfc hfw hR hT e3 hg hl
    obtain ⟨c, rfl⟩ : ∃ c, fc = c + 1 := ⟨fc - 1, by omega⟩
    obtain ⟨w, rfl⟩ : ∃ w, fw = w + 1 := ⟨fw - 1, by omega⟩
    have c1 : σ 3 2 ≤ nI i := by rw [e3]; exact nI_le (by omega) (by omega)
    have c2 : ν 0 13 ≤ nI i := by rw [e13]; exact nI_le (by omega) (by omega)
    rw [P_X5_appendAll_b13_e, S_X5_appendAll_b13_e, P_X10_whyNotPlan_b35_e, S_X10_whyNotPlan_b35_e, if_pos c1, if_pos c2]
    refine ⟨⟨fun _ => trivial, fun h => absurd c1 h⟩, ⟨fun _ => ⟨fun _ => trivial, fun _ => trivial⟩, fun h => absurd c2 h⟩, fun _ _ => rfl, Or.inr ⟨rfl, ⟨sc, hR, hT, fun _ _ _ _ => rfl⟩, fun _ _ => rfl, fun h => absurd h (by omega), ?_⟩⟩
    by_cases z : late = 0
    · rw [if_pos z, if_neg (fun h => h z), if_neg (fun h => absurd h.1 (by omega))]
    · rw [if_neg z, if_pos z]
  | succ d ih =>
    intro fc fw i B σ sc f late hi hB hfc hfw hR hT e3 hg hl
    obtain ⟨c, rfl⟩ : ∃ c, fc = c + 1 := ⟨fc - 1, by omega⟩
    obtain ⟨w, rfl⟩ : ∃ w, fw = w + 1 := ⟨fw - 1, by omega⟩
    have c1 : ¬ σ 3 2 ≤ nI i := by rw [e3]; exact nI_ge (by omega) (by omega)
    have c2 : ¬ ν 0 13 ≤ nI i := by rw [e13]; exact nI_ge (by omega) (by omega)
    have hv : vp_in (nI i) 64 := vp_in_nI (by omega) (by omega)
    have hv2 : vp_in (nI i) 65 := vp_in_nI (by omega) (by omega)
    obtain ⟨g1, g2, g3, g4⟩ := hg i (by omega)
    obtain ⟨t1, t2⟩ := LTc hT.1 (by omega) (Tp_f hR hT)
    obtain ⟨b1, b2, b3⟩ := LT_b hR
    rw [P_X5_appendAll_b13_e, S_X5_appendAll_b13_e, P_X10_whyNotPlan_b35_e, S_X10_whyNotPlan_b35_e, if_neg c1, if_neg c2, t1, nI_clamp (n := i) (by omega), g1]
    unfold P_X5_appendAll_b33n S_X5_appendAll_b33n
    rw [t2, nI_clamp (n := i) (by omega), g2]
    unfold P_X5_appendAll_b46n S_X5_appendAll_b46n P_X5_appendAll_b65c S_X5_appendAll_b65c
    have et : (LT f B + ν 7 i).toInt = (LT f B).toInt + (ν 7 i).toInt := ia_add (by omega) (by omega)
    generalize hv3 : LT f B + ν 7 i = v3 at et ⊢
    generalize hv4 : NT f B + ν 8 i = v4
    have hcan : P_X5_canHold σ v3 v4 = if (100000 : Int32) < v3 then 0 else if v4 ≤ 1000 then 1 else 0 := by
      unfold P_X5_canHold P_X5_canHold_b0
      rw [hT.1, if_neg (show ¬ (64 : Int32) ≤ nI B from nI_ge (a := B) (b := 64) (by omega) (by omega))]
      by_cases c3 : (100000 : Int32) < v3
      · rw [if_pos c3, if_pos c3]
      · rw [if_neg c3, if_neg c3]
        by_cases c4 : v4 ≤ 1000
        · rw [if_pos c4, if_neg (fun h => by rw [ia_lt] at h; rw [ia_le] at c4; omega)]
        · rw [if_neg c4, if_pos (by rw [ia_lt]; rw [ia_le] at c4; omega)]
    have hSc : ∀ (A : Prop), (¬ P_X5_canHold σ v3 v4 = 0 → A) → ((σ 3 2 ≤ nI i → True) ∧ (¬ σ 3 2 ≤ nI i → S_X5_lastTime σ ∧ vp_in (nI i) 64 ∧ S_X5_nextNumber σ ∧ vp_in (nI i) 64 ∧ S_X5_canHold σ v3 v4 ∧ (P_X5_canHold σ v3 v4 = 0 → True) ∧ (¬ P_X5_canHold σ v3 v4 = 0 → S_X5_append σ v3 v4 ∧ A))) := fun A hA => ⟨fun _ => trivial, fun _ => ⟨cs_lasts _, hv, cs_nexts _, hv, cs_cans _ _ _, fun _ => trivial, fun h => ⟨cs_apps _ _ _, hA h⟩⟩⟩
    unfold P_X10_whyNotPlan_b81 S_X10_whyNotPlan_b81
    by_cases c3 : (100000 : Int32) < v3
    · have hc0 : P_X5_canHold σ v3 v4 = 0 := by rw [hcan, if_pos c3]
      rw [if_pos hc0, if_pos c3, if_pos c3]
      refine ⟨hSc _ (fun h => absurd hc0 h), ⟨fun h => absurd h c2, fun _ => ⟨hv2, hv2, fun _ => ⟨fun _ => trivial, fun h => absurd c3 h⟩, fun _ => ⟨fun _ => trivial, fun h => absurd c3 h⟩⟩⟩, fun _ _ => rfl, Or.inl ⟨rfl, ?_⟩⟩
      split <;> rfl
    by_cases c4 : v4 ≤ 1000
    · have hc0 : ¬ P_X5_canHold σ v3 v4 = 0 := by rw [hcan, if_neg c3, if_pos c4]; decide
      rw [if_neg hc0, if_neg c3, if_neg c3, if_pos c4, if_pos c4, cs_app0 hT.1 (by omega), nI_1]
      have hR' := RS_add (v3 := v3) (v4 := v4) hR (by omega) (by omega) (by rw [ia_lt, show (100000 : Int32).toInt = 100000 from by decide] at c3; omega) (fun hb0 => by rw [b3 hb0]; omega)
      have hT' : Tp (B + 1) (u2 (u2 (u2 σ 1 (upd (σ 1) B v3)) 2 (upd (σ 2) B v4)) 0 (upd (σ 0) 2 (nI (B + 1)))) (u2 (u2 (u2 sc 3 (upd (sc 3) B v3)) 4 (upd (sc 4) B v4)) 2 (upd (sc 2) 2 (nI (B + 1)))) := by
        refine ⟨by rw [u2_at, pk_us], fun c9 h9 => ?_⟩
        rw [u2_ne (by decide), u2_ne (by decide), u2_at, u2_ne (by decide), u2_ne (by decide), u2_at, u2_ne (by decide), u2_at, u2_ne (by decide), u2_at]
        obtain ⟨k1, k2⟩ := hT.2 c9 h9
        exact ⟨upd_c k1, upd_c k2⟩
      have eLT : LT (adb f B v3 v4) (B + 1) = v3 := by
        unfold LT adb
        rw [if_neg (by omega), show B + 1 - 1 = B by omega, pk_un (by omega), bec_o (by omega), pk_un (by omega), pk_us]
      have eNT : NT (adb f B v3 v4) (B + 1) = v4 + 1 := by
        unfold NT adb
        rw [if_neg (by omega), show B + 1 - 1 = B by omega, pk_un (by omega), bec_o (by omega), pk_us]
      have e4' : ∀ j, 3 ≤ j → u2 (u2 (u2 σ 1 (upd (σ 1) B v3)) 2 (upd (σ 2) B v4)) 0 (upd (σ 0) 2 (nI (B + 1))) j = σ j := fun j hj => by rw [u2_ne (by omega), u2_ne (by omega), u2_ne (by omega)]
      have hgo : ∀ late' : Int32, (late' = 0 ∨ late' = 1) → _ := fun late' hl' => ih c w (i + 1) (B + 1) (u2 (u2 (u2 σ 1 (upd (σ 1) B v3)) 2 (upd (σ 2) B v4)) 0 (upd (σ 0) 2 (nI (B + 1)))) (u2 (u2 (u2 sc 3 (upd (sc 3) B v3)) 4 (upd (sc 4) B v4)) 2 (upd (sc 2) 2 (nI (B + 1)))) (adb f B v3 v4) late' (by omega) (by omega) (by omega) (by omega) hR' hT' (by rw [e4' 3 (by decide)]; exact e3) (fun k hk => by rw [e4' 4 (by decide), e4' 5 (by decide)]; exact hg k hk) hl'
      rw [eLT, eNT] at hgo
      have ef : fA (ν 7) (ν 8) (d + 1) i B f = fA (ν 7) (ν 8) d (i + 1) (B + 1) (adb f B v3 v4) := by rw [fA_s, hv3, hv4]
      rw [ef]
      generalize u2 (u2 (u2 σ 1 (upd (σ 1) B v3)) 2 (upd (σ 2) B v4)) 0 (upd (σ 0) 2 (nI (B + 1))) = σ1 at hT' e4' hgo ⊢
      have hT1 : ∀ c9, c9 < 64 → σ1 1 c9 = upd (σ 1) B v3 c9 := fun c9 h9 => by
        obtain ⟨k1, -⟩ := hT'.2 c9 h9
        rw [k1, u2_ne (by decide), u2_ne (by decide), u2_at]
        exact (upd_c (hT.2 c9 h9).1).symm
      -- where the late flag goes
      have hor : ∀ t : Int32, (t = 0 ∨ t = 1) → (late ||| t = 0 ∨ late ||| t = 1) ∧ (¬ late ||| t = 0 ↔ (¬ late = 0 ∨ ¬ t = 0)) := fun t ht => by
        rcases hl with rfl | rfl <;> rcases ht with rfl | rfl <;> decide
      have hfin : ∀ t : Int32, (t = 0 ∨ t = 1) → (t = 0 ↔ ν 1 8 < v3) → S_X5_appendAll_b13 c σ1 (nI (i + 1)) ∧ S_X10_whyNotPlan_b35 w ν v3 (v4 + 1) (late ||| t) (nI (i + 1)) ∧ (∀ j, 3 ≤ j → (P_X5_appendAll_b13 c σ1 (nI (i + 1))).2 j = σ j) ∧
          (((P_X5_appendAll_b13 c σ1 (nI (i + 1))).1 = 0 ∧ P_X10_whyNotPlan_b35 w ν v3 (v4 + 1) (late ||| t) (nI (i + 1)) = -4) ∨
           ((P_X5_appendAll_b13 c σ1 (nI (i + 1))).1 = 1 ∧ (∃ sc', RS 64 h n (B + (d + 1)) sc' (fA (ν 7) (ν 8) d (i + 1) (B + 1) (adb f B v3 v4)) ∧ Tp (B + (d + 1)) (P_X5_appendAll_b13 c σ1 (nI (i + 1))).2 sc' ∧ (∀ j, j ≠ 2 → j ≠ 3 → j ≠ 4 → sc' j = sc j)) ∧ (∀ c9, c9 < B → (P_X5_appendAll_b13 c σ1 (nI (i + 1))).2 1 c9 = σ 1 c9) ∧ (0 < d + 1 → (P_X5_appendAll_b13 c σ1 (nI (i + 1))).2 1 B = v3) ∧ P_X10_whyNotPlan_b35 w ν v3 (v4 + 1) (late ||| t) (nI (i + 1)) = (if ¬ late = 0 then -5 else if 0 < d + 1 ∧ ¬ ν 1 8 < v3 then -5 else 0))) := fun t ht htn => by
        obtain ⟨o1, o2⟩ := hor t ht
        obtain ⟨u1, u2', u3, u4⟩ := hgo (late ||| t) o1
        refine ⟨u1, u2', fun j hj => (u3 j hj).trans (e4' j hj), ?_⟩
        rcases u4 with u4 | ⟨x1, ⟨sc', x2, x3, x4⟩, x5, x6, x7⟩
        · exact Or.inl u4
        · refine Or.inr ⟨x1, ⟨sc', by rw [show B + (d + 1) = B + 1 + d by omega]; exact x2, by rw [show B + (d + 1) = B + 1 + d by omega]; exact x3, fun j a b c => by rw [x4 j a b c, u2_ne a, u2_ne c, u2_ne b]⟩, fun c9 h9 => ?_, fun _ => ?_, ?_⟩
          · rw [x5 c9 (by omega), hT1 c9 (by omega), pk_un (by omega)]
          · rw [x5 B (by omega), hT1 B (by omega), pk_us]
          · rw [x7]
            by_cases z : late = 0
            · rw [if_neg (show ¬ ¬ late = 0 from fun h => h z)]
              by_cases z2 : ν 1 8 < v3
              · have t0 : t = 0 := htn.mpr z2
                have hno : ¬ ¬ late ||| t = 0 := fun h => by
                  rcases o2.mp h with h | h
                  · exact h z
                  · exact h t0
                rw [if_neg hno, if_neg (show ¬ (0 < d + 1 ∧ ¬ ν 1 8 < v3) from fun h => h.2 z2)]
                rw [if_neg]
                intro h9
                obtain ⟨k1, k2, k3, k4⟩ := hg (i + 1) (by omega)
                apply h9.2
                have ev3 : v3.toInt ≤ 100000 := by rw [ia_lt, show (100000 : Int32).toInt = 100000 from by decide] at c3; omega
                rw [ia_lt, ia_add (by omega) (by omega)]
                rw [ia_lt] at z2
                omega
              · have t1 : ¬ t = 0 := fun h => z2 (htn.mp h)
                rw [if_pos (o2.mpr (Or.inr t1)), if_pos (show 0 < d + 1 ∧ ¬ ν 1 8 < v3 from ⟨by omega, z2⟩)]
            · rw [if_pos (o2.mpr (Or.inl z)), if_pos z]
      by_cases z2 : ν 1 8 < v3
      · rw [if_pos z2]
        obtain ⟨y1, y2, y3, y4⟩ := hfin 0 (Or.inl rfl) ⟨fun _ => z2, fun _ => rfl⟩
        exact ⟨hSc _ (fun _ => y1), ⟨fun h => absurd h c2, fun _ => ⟨hv2, hv2, fun _ => ⟨fun h => absurd h c3, fun _ => ⟨fun _ => y2, fun h => absurd c4 h⟩⟩, fun h => absurd z2 h⟩⟩, y3, y4⟩
      · rw [if_neg z2]
        obtain ⟨y1, y2, y3, y4⟩ := hfin 1 (Or.inr rfl) ⟨fun h => absurd h (by decide), fun h => absurd h z2⟩
        exact ⟨hSc _ (fun _ => y1), ⟨fun h => absurd h c2, fun _ => ⟨hv2, hv2, fun h => absurd h z2, fun _ => ⟨fun h => absurd h c3, fun _ => ⟨fun _ => y2, fun h => absurd c4 h⟩⟩⟩⟩, y3, y4⟩
    · have hc0 : P_X5_canHold σ v3 v4 = 0 := by rw [hcan, if_neg c3, if_neg c4]
      rw [if_pos hc0, if_neg c3, if_neg c3, if_neg c4, if_neg c4]
      refine ⟨hSc _ (fun h => absurd hc0 h), ⟨fun h => absurd h c2, fun _ => ⟨hv2, hv2, fun _ => ⟨fun h => absurd h c3, fun _ => ⟨fun h => absurd h c4, fun _ => trivial⟩⟩, fun _ => ⟨fun h => absurd h c3, fun _ => ⟨fun h => absurd h c4, fun _ => trivial⟩⟩⟩⟩, fun _ _ => rfl, Or.inl ⟨rfl, ?_⟩⟩
      split <;> rfl
end PN1
