/-! beat, cut, pass -/
section OB1
theorem wbF {b : Nat} (hb : b ≤ 64) : (if 64 < b then b - 1 else b) = b := if_neg (by omega)
theorem nI_predb {b : Nat} (h : 0 < b) : nI b - (1 : Int32) = nI (b - 1) := by
  obtain ⟨c, rfl⟩ : ∃ c, b = c + 1 := ⟨b - 1, by omega⟩
  exact nI_pred c
theorem has_m1 {σ : T2} : P_X5_has σ (nI 0 - (1 : Int32)) = 0 := by
  unfold P_X5_has P_X5_has_b0
  rw [if_pos (by decide)]
/-- the last beat of the plan, and the next true number -/
theorem last_eq {h n b : Nat} {sc μ : T2} (hR : RS 64 h n b sc (μ 1)) : P_X5_lastTime (fun j => sc (2 + j)) = P_X10_lastTime μ ∧ P_X5_nextNumber (fun j => sc (2 + j)) = P_X10_nextTrue μ ∧ S_X10_lastTime μ ∧ S_X10_nextTrue μ ∧ (0 ≤ (P_X10_lastTime μ).toInt ∧ (P_X10_lastTime μ).toInt ≤ 100000) ∧ (0 < b → P_X10_lastTime μ = μ 1 (32 + 6 * (b - 1))) ∧ (b = 0 → P_X10_lastTime μ = 0) := by
  obtain ⟨hS, hN, -, ⟨e22, hb, e14, hhb, e2, e16⟩, hs, ⟨hP1, hP2, hP3⟩, hF⟩ := hR
  rw [wbF hb] at e2 hP1
  have e2' : (fun j => sc (2 + j)) 0 2 = nI b := e2
  unfold P_X5_lastTime P_X5_lastTime_b0 P_X5_nextNumber P_X5_nextNumber_b0 P_X10_lastTime P_X10_lastTime_b0 P_X10_nextTrue P_X10_nextTrue_b0 S_X10_lastTime S_X10_lastTime_b0 S_X10_nextTrue S_X10_nextTrue_b0
  rw [e2', e22]
  by_cases c : b = 0
  · subst c
    have z : nI 0 = 0 := nI_0
    rw [if_pos z, if_pos z]
    have h0 := has_m1 (σ := fun j => sc (2 + j))
    unfold P_X5_timeOf P_X5_timeOf_b0 P_X5_numberOf P_X5_numberOf_b0
    rw [h0, if_pos rfl, if_pos rfl]
    exact ⟨rfl, by decide, ⟨fun _ => trivial, fun h => absurd z h⟩, ⟨fun _ => trivial, fun h => absurd z h⟩, by decide, fun h => absurd h (by decide), fun _ => rfl⟩
  · have z : ¬ nI b = 0 := nI_ne0 (by omega) (by omega)
    rw [if_neg z, if_neg z, nI_predb (by omega)]
    rw [cs_timeOf (b := b - 1) (m := b) e2' (by omega) hb, cs_numberOf (b := b - 1) (m := b) e2' (by omega) hb]
    rw [ms_ofB (ki := 0) (k := 0) rfl (by omega) (by decide), ms_ofB (ki := 1) (k := 1) rfl (by omega) (by decide)]
    obtain ⟨p1, p2⟩ := hP1 (b - 1) (by omega)
    have es : skp 64 (b - 1) = b - 1 := by unfold skp; rw [if_pos (by omega)]
    rw [es] at p1 p2
    refine ⟨p1, ?_, ⟨fun h => absurd h z, fun _ => ⟨ms_ofBs (ki := 0) (k := 0) rfl (by omega) (by decide), trivial⟩⟩, ⟨fun h => absurd h z, fun _ => ⟨ms_ofBs (ki := 1) (k := 1) rfl (by omega) (by decide), trivial⟩⟩, hP2 (b - 1) (by omega), fun _ => rfl, fun h => absurd h c⟩
    rw [show 32 + 6 * (b - 1) + 1 = 33 + 6 * (b - 1) by omega]
    exact congrArg (fun z => z + (1 : Int32)) p2
theorem cs_lasts (σ : T2) : S_X5_lastTime σ := ⟨cs_times _ _, trivial⟩
theorem cs_nexts (σ : T2) : S_X5_nextNumber σ := ⟨cs_numbers _ _, trivial⟩
theorem cs_cans (σ : T2) (a b : Int32) : S_X5_canHold σ a b := by
  unfold S_X5_canHold S_X5_canHold_b0
  exact ⟨fun _ => trivial, fun _ => ⟨fun _ => trivial, fun _ => ⟨fun _ => trivial, fun _ => trivial⟩⟩⟩
theorem cs_apps (σ : T2) (a b : Int32) : S_X5_append σ a b := by
  unfold S_X5_append S_X5_append_b0
  refine ⟨fun _ => trivial, fun h0 => ⟨fun _ => trivial, fun h1 => ?_⟩⟩
  have h : vp_in (σ 0 2) 64 := by
    obtain ⟨j, hj, e⟩ := nI_of h0
    rw [e] at h1 ⊢
    refine vp_in_nI ?_ (by omega)
    exact Nat.not_le.mp (fun hle => h1 (nI_le (a := 64) hle hj))
  exact ⟨h, h, trivial⟩
/-- a beat appended on the class's side, o the place of the plan in the world -/
theorem cs_app5 {ξ : T2} {o k1 k2 b : Nat} {v3 v4 : Int32} (h1 : o + 1 = k1) (h2 : o + 2 = k2) (e : ξ o 2 = nI b) (hb : b < 64) : sb ξ o 3 (P_X5_append (fun j => ξ (o + j)) v3 v4) = u2 (u2 (u2 ξ k1 (upd (ξ k1) b v3)) k2 (upd (ξ k2) b v4)) o (upd (ξ o) 2 (nI (b + 1))) := by
  subst h1 h2
  unfold P_X5_append P_X5_append_b0
  have e' : (fun j => ξ (o + j)) 0 2 = nI b := e
  rw [e', if_neg (nI_pos (by omega)), if_neg (show ¬ (64 : Int32) ≤ nI b from nI_ge (a := b) (b := 64) hb (by omega)), nI_clamp (n := b) (by omega), nI_1]
  rw [sb_u2 (k := o) (by decide) (by omega), sb_u2 (k := o + 2) (by decide) rfl, sb_u2 (k := o + 1) (by decide) rfl, sb_self]
  rfl
/-- a beat appended in the model -/
def adb (f : T1) (b : Nat) (v3 v4 : Int32) : T1 := upd (bec (upd (upd f (32 + 6 * b) v3) (33 + 6 * b) v4) b 0 (-6) (-6) (-6)) 22 (nI (b + 1))
theorem ms_add {μ : T2} {b : Nat} {v3 v4 : Int32} (e : μ 1 22 = nI b) (hb : b < 64) : P_X10_addBeat μ v3 v4 = u2 μ 1 (adb (μ 1) b v3 v4) ∧ S_X10_addBeat μ v3 v4 := by
  unfold P_X10_addBeat P_X10_addBeat_b0 P_X10_addBeat_b15c P_X10_addBeat_b22c P_X10_addBeat_b34c S_X10_addBeat S_X10_addBeat_b0 S_X10_addBeat_b15c S_X10_addBeat_b22c S_X10_addBeat_b34c
  rw [e]
  refine ⟨?_, ms_lays (ki := 0) (k := 0) rfl hb (by decide), ms_lays (ki := 1) (k := 1) rfl hb (by decide), ms_becomes hb, trivial⟩
  rw [ms_lay (ki := 0) (k := 0) rfl hb (by decide), ms_lay (ki := 1) (k := 1) rfl hb (by decide), ms_become hb]
  simp only [u2_at, u2_same]
  rw [show 32 + 6 * b + 0 = 32 + 6 * b by omega, show 32 + 6 * b + 1 = 33 + 6 * b by omega]
  have e22 : bec (upd (upd (μ 1) (32 + 6 * b) v3) (33 + 6 * b) v4) b 0 (-6) (-6) (-6) 22 = nI b := by
    rw [bec_o (by omega), pk_un (by omega), pk_un (by omega), e]
  rw [e22, nI_1]
  rfl
theorem RS_add {h n b : Nat} {sc : T2} {f : T1} {v3 v4 : Int32} (hR : RS 64 h n b sc f) (hb64 : b < 64) (h0 : 0 ≤ v3.toInt) (h1 : v3.toInt ≤ 100000) (hl : 0 < b → (f (32 + 6 * (b - 1))).toInt < v3.toInt) : RS 64 h n (b + 1) (u2 (u2 (u2 sc 3 (upd (sc 3) b v3)) 4 (upd (sc 4) b v4)) 2 (upd (sc 2) 2 (nI (b + 1)))) (adb f b v3 v4) := by
  obtain ⟨hS, hN, ⟨e12, e10⟩, ⟨e22, hb, e14, hhb, e2, e16⟩, hs, ⟨hP1, hP2, hP3⟩, hF⟩ := hR
  have g : ∀ i, i ≠ 22 → (i < 32 + 6 * b ∨ 37 + 6 * b < i) → adb f b v3 v4 i = f i := fun i a c => by
    unfold adb
    rw [pk_un a, bec_o (by omega), pk_un (by omega), pk_un (by omega)]
  have g32 : adb f b v3 v4 (32 + 6 * b) = v3 := by
    unfold adb
    rw [pk_un (by omega), bec_o (by omega), pk_un (by omega), pk_us]
  have g33 : adb f b v3 v4 (33 + 6 * b) = v4 := by
    unfold adb
    rw [pk_un (by omega), bec_o (by omega), pk_us]
  have c : ∀ i, i ≠ 2 → i ≠ 3 → i ≠ 4 → u2 (u2 (u2 sc 3 (upd (sc 3) b v3)) 4 (upd (sc 4) b v4)) 2 (upd (sc 2) 2 (nI (b + 1))) i = sc i := fun i a b c => by
    rw [u2_ne a, u2_ne c, u2_ne b]
  have c3 : u2 (u2 (u2 sc 3 (upd (sc 3) b v3)) 4 (upd (sc 4) b v4)) 2 (upd (sc 2) 2 (nI (b + 1))) 3 = upd (sc 3) b v3 := by
    rw [u2_ne (by decide), u2_ne (by decide), u2_at]
  have c4 : u2 (u2 (u2 sc 3 (upd (sc 3) b v3)) 4 (upd (sc 4) b v4)) 2 (upd (sc 2) 2 (nI (b + 1))) 4 = upd (sc 4) b v4 := by
    rw [u2_ne (by decide), u2_at]
  rw [wbF hb] at hP1
  have hmx : ∀ i, i < b → (f (32 + 6 * i)).toInt < v3.toInt := fun i hi => by
    have := hl (by omega)
    by_cases ci : i = b - 1
    · rw [ci]; exact this
    · have := hP3 i (b - 1) (by omega) (by omega)
      omega
  refine ⟨?_, Num_e hN (fun i hi => g i (by omega) (by omega)) (g _ (by decide) (by omega)) (g _ (by decide) (by omega)) (g _ (by decide) (by omega)), ⟨by rw [g 12 (by decide) (by omega), e12], by rw [c 10 (by decide) (by decide) (by decide), e10]⟩, ⟨?_, by omega, by rw [g 14 (by decide) (by omega), e14], by omega, ?_, by rw [c 16 (by decide) (by decide) (by decide), e16]⟩, by rw [g 18 (by decide) (by omega)]; exact hs, ⟨fun i hi => ?_, fun i hi => ?_, fun i j hij hj => ?_⟩, fun h64 => ⟨⟨fun i hi => ?_, fun i hi hi2 => ?_⟩, Bl_c (hF h64).2 (fun i _ _ => c i (by omega) (by omega) (by omega)) (fun i hi => g i (by omega) (by omega))⟩⟩
  · refine Sc_cells (sc := sc) ?_ (c 1 (by decide) (by decide) (by decide)) (c 15 (by decide) (by decide) (by decide)) (c 16 (by decide) (by decide) (by decide))
    obtain ⟨⟨a0, a1, a2, a3, a4, a5, a6, a7⟩, ⟨d0, d1, d2, d3, d4, d5, d6⟩, ⟨t1, t2, t3, t4, t5, t6, t7, t8, t9⟩⟩ := hS
    refine ⟨⟨?_, ?_, ?_, ?_, ?_, ?_, ?_, ?_⟩, ⟨?_, ?_, ?_, ?_, ?_, ?_, ?_⟩, ⟨?_, ?_, ?_, ?_, ?_, ?_, ?_, ?_, ?_⟩⟩ <;> (rw [g _ (by decide) (by omega)]; assumption)
  · unfold adb
    rw [pk_us]
  · rw [wbF (by omega), u2_at, pk_us]
  · rw [wbF (by omega)] at hi
    have es : skp 64 i = i := by unfold skp; rw [if_pos (by omega)]
    rw [es, c3, c4]
    by_cases ci : i = b
    · subst ci
      rw [pk_us, pk_us, g32, g33]
      exact ⟨rfl, rfl⟩
    · rw [pk_un ci, pk_un ci, g _ (by omega) (by omega), g _ (by omega) (by omega)]
      have := hP1 i (by omega)
      rw [es] at this
      exact this
  · by_cases ci : i = b
    · subst ci; rw [g32]; exact ⟨h0, h1⟩
    · rw [g _ (by omega) (by omega)]; exact hP2 i (by omega)
  · rw [g (32 + 6 * i) (by omega) (by omega)]
    by_cases cj : j = b
    · subst cj; rw [g32]; exact hmx i (by omega)
    · rw [g _ (by omega) (by omega)]; exact hP3 i j hij (by omega)
  · rw [c 6 (by decide) (by decide) (by decide), c 7 (by decide) (by decide) (by decide), c 8 (by decide) (by decide) (by decide), c 9 (by decide) (by decide) (by decide), g _ (by omega) (by omega), g _ (by omega) (by omega), g _ (by omega) (by omega), g _ (by omega) (by omega)]
    exact (hF h64).1.1 i hi
  · by_cases ci : i = b
    · subst ci
      unfold adb
      rw [pk_un (by omega), pk_un (by omega), bec_0, bec_1]
      exact ⟨rfl, rfl⟩
    · rw [g _ (by omega) (by omega), g _ (by omega) (by omega)]
      exact (hF h64).1.2 i hi (by omega)
theorem RS_rec {k : Nat} {ξ μ : T2} (hk : k < 512) (hR : Rel k ξ μ) {h n b : Nat} (hRS : RS 64 h n b (fun j => ξ (1 + j)) (μ 1)) : RS 64 h n b (fun j => sb2 ξ 35 104 1 17 (P_X3_record (sel ξ 35 104 1)) (1 + j)) (P_X10_keep μ 1) := by
  obtain ⟨-, -, -, r3, r4, r5⟩ := Rel_rec hR hk
  rw [r5 1 (by decide) (by decide)]
  have e : ∀ j, j < 17 → (fun j => sb2 ξ 35 104 1 17 (P_X3_record (sel ξ 35 104 1)) (1 + j)) j = (fun j => ξ (1 + j)) j := fun j hj => r3 _ (by omega)
  exact RS_Ag hRS ⟨fun i _ => by rw [e 1 (by decide)], by rw [e 2 (by decide)], fun j hj i _ => by rw [e j (by omega)], by rw [e 10 (by decide)], fun i _ => by rw [e 15 (by decide)], fun i _ => by rw [e 16 (by decide)], by rw [e 0 (by decide)]⟩
theorem ok_beat : Ok_beat Rel := by
  intro k ξ μ x0 x1 hk hR
  obtain ⟨r1, r2, -, r3, r4, r5⟩ := Rel_rec hR hk
  obtain ⟨h, n, b, hn, hRS, ht8, ht0, ht1⟩ := hR.1
  obtain ⟨l1, l2, l3, l4, l5, l6, l7⟩ := last_eq hRS
  have l1' : P_X5_lastTime (fun j => ξ (3 + j)) = P_X10_lastTime μ := by
    rw [← l1]; congr 1; funext j; rw [show 1 + (2 + j) = 3 + j by omega]
  have l2' : P_X5_nextNumber (fun j => ξ (3 + j)) = P_X10_nextTrue μ := by
    rw [← l2]; congr 1; funext j; rw [show 1 + (2 + j) = 3 + j by omega]
  have hb := hRS.2.2.2.1.2.1
  have e22 := hRS.2.2.2.1.1
  have e2 : ξ 3 2 = nI b := by have := hRS.2.2.2.1.2.2.2.2.1; rw [wbF hb] at this; exact this
  have e8 : μ 1 8 = ξ 1 6 := ht8
  unfold S_X9_beat S_X9_beat_b0 P_X9_beat P_X9_beat_b0 S_X10_beat S_X10_beat_b0 P_X10_beat P_X10_beat_b0
  rw [in9, in9]
  by_cases c0 : P_X10_in x0 1 9999 = 0
  · rw [if_pos c0, if_pos c0]
    exact ⟨⟨isis _ _ _, fun _ => trivial, fun h => absurd c0 h⟩, ⟨ins _ _ _, fun _ => trivial, fun h => absurd c0 h⟩, rfl, Rel_mono _ _ _ hR⟩
  rw [if_neg c0, if_neg c0]
  by_cases c1 : P_X10_in x1 0 99 = 0
  · rw [if_pos c1, if_pos c1]
    exact ⟨⟨isis _ _ _, fun h => absurd h c0, fun _ => ⟨isis _ _ _, fun _ => trivial, fun h => absurd c1 h⟩⟩, ⟨ins _ _ _, fun h => absurd h c0, fun _ => ⟨ins _ _ _, fun _ => trivial, fun h => absurd c1 h⟩⟩, rfl, Rel_mono _ _ _ hR⟩
  rw [if_neg c1, if_neg c1, l1']
  have hx0 := in_ok c0
  rw [ia_1, show (9999 : Int32).toInt = 9999 from by decide] at hx0
  have et : (P_X10_lastTime μ + x0).toInt = (P_X10_lastTime μ).toInt + x0.toInt := ia_add (by omega) (by omega)
  unfold P_X9_beat_b37n S_X9_beat_b37n
  rw [l2']
  generalize hv3 : P_X10_lastTime μ + x0 = v3 at *
  generalize hv4 : P_X10_nextTrue μ + x1 = v4 at *
  unfold P_X9_beat_b51n S_X9_beat_b51n
  have hcan : P_X5_canHold (fun j => ξ (3 + j)) v3 v4 = if μ 1 22 = 64 then 0 else if (100000 : Int32) < v3 then 0 else if v4 ≤ 1000 then 1 else 0 := by
    unfold P_X5_canHold P_X5_canHold_b0
    have e2' : (fun j => ξ (3 + j)) 0 2 = nI b := e2
    rw [e2', e22]
    by_cases c2 : b = 64
    · subst c2
      rw [if_pos (show (64 : Int32) ≤ nI 64 from nI_le (a := 64) (b := 64) (Nat.le_refl _) (by omega)), if_pos (show nI 64 = 64 from rfl)]
    · rw [if_neg (show ¬ (64 : Int32) ≤ nI b from nI_ge (a := b) (b := 64) (by omega) (by omega)), if_neg (show ¬ nI b = 64 from fun h => c2 ((nI_eq (a := b) (b := 64) (by omega) (by omega)).mp h))]
      by_cases c3 : (100000 : Int32) < v3
      · rw [if_pos c3, if_pos c3]
      · rw [if_neg c3, if_neg c3]
        by_cases c4 : v4 ≤ 1000
        · rw [if_pos c4, if_neg (fun h => by rw [ia_lt] at h; rw [ia_le] at c4; omega)]
        · rw [if_neg c4, if_pos (by rw [ia_lt]; rw [ia_le] at c4; omega)]
  rw [hcan]
  by_cases c2 : μ 1 22 = 64
  · rw [if_pos c2, if_pos rfl, if_pos c2]
    exact ⟨⟨isis _ _ _, fun h => absurd h c0, fun _ => ⟨isis _ _ _, fun h => absurd h c1, fun _ => ⟨cs_lasts _, cs_nexts _, cs_cans _ _ _, fun _ => trivial, fun h => absurd rfl h⟩⟩⟩, ⟨ins _ _ _, fun h => absurd h c0, fun _ => ⟨ins _ _ _, fun h => absurd h c1, fun _ => ⟨l3, l4, fun _ => trivial, fun h => absurd c2 h⟩⟩⟩, rfl, Rel_mono _ _ _ hR⟩
  rw [if_neg c2, if_neg c2]
  by_cases c3 : (100000 : Int32) < v3
  · rw [if_pos c3, if_pos rfl, if_pos c3]
    exact ⟨⟨isis _ _ _, fun h => absurd h c0, fun _ => ⟨isis _ _ _, fun h => absurd h c1, fun _ => ⟨cs_lasts _, cs_nexts _, cs_cans _ _ _, fun _ => trivial, fun h => absurd rfl h⟩⟩⟩, ⟨ins _ _ _, fun h => absurd h c0, fun _ => ⟨ins _ _ _, fun h => absurd h c1, fun _ => ⟨l3, l4, fun h => absurd h c2, fun _ => ⟨fun _ => trivial, fun h => absurd c3 h⟩⟩⟩⟩, rfl, Rel_mono _ _ _ hR⟩
  rw [if_neg c3, if_neg c3]
  by_cases c4 : v4 ≤ 1000
  · rw [if_pos c4, if_neg (by decide), if_pos c4, e8]
    by_cases c5 : ξ 1 6 < v3
    · rw [if_pos c5, if_pos c5]
      have hb64 : b < 64 := by
        have : b ≠ 64 := fun h => c2 (by rw [e22, h]; rfl)
        omega
      have er2 : sb2 ξ 35 104 1 17 (P_X3_record (sel ξ 35 104 1)) 3 2 = nI b := by rw [r3 3 (by omega), e2]
      have ek : P_X10_keep μ 1 22 = nI b := by rw [r5 1 (by decide) (by decide), e22]
      obtain ⟨a1, a2⟩ := ms_add (v3 := v3) (v4 := v4) ek hb64
      unfold P_X9_beat_b95c S_X9_beat_b95c P_X9_beat_b108c S_X9_beat_b108c P_X10_beat_b86c S_X10_beat_b86c P_X10_beat_b93c S_X10_beat_b93c
      rw [cs_app5 (o := 3) (k1 := 4) (k2 := 5) rfl rfl er2 hb64, a1]
      refine ⟨⟨isis _ _ _, fun h => absurd h c0, fun _ => ⟨isis _ _ _, fun h => absurd h c1, fun _ => ⟨cs_lasts _, cs_nexts _, cs_cans _ _ _, fun h => absurd h (by decide), fun _ => ⟨fun _ => ⟨r1, cs_apps _ _ _, trivial⟩, fun h => absurd c5 h⟩⟩⟩⟩, ⟨ins _ _ _, fun h => absurd h c0, fun _ => ⟨ins _ _ _, fun h => absurd h c1, fun _ => ⟨l3, l4, fun h => absurd h c2, fun _ => ⟨fun h => absurd h c3, fun _ => ⟨fun _ => ⟨fun _ => ⟨r2, a2, trivial⟩, fun h => absurd c5 h⟩, fun h => absurd c4 h⟩⟩⟩⟩⟩, ?_, ?_⟩
      · dsimp only
        rw [u2_at, u2_at, pk_us]
        unfold adb
        rw [pk_us]
      · have hle : v3.toInt ≤ 100000 := by
          rw [ia_lt, show (100000 : Int32).toInt = 100000 from by decide] at c3
          omega
        have hq := RS_add (v3 := v3) (v4 := v4) (RS_rec hk hR hRS) hb64 (by omega) hle (fun hb0 => by rw [r5 1 (by decide) (by decide), ← l6 hb0, et]; omega)
        refine Rel_new hR hk ?_ (fun i hi => ?_) (fun i hi => ?_) ?_ ?_ ?_ (PadR_new hR hk ?_ ?_ ?_ ?_)
        · have eS : (fun i => u2 (u2 (u2 (sb2 ξ 35 104 1 17 (P_X3_record (sel ξ 35 104 1))) 4 (upd (sb2 ξ 35 104 1 17 (P_X3_record (sel ξ 35 104 1)) 4) b v3)) 5 (upd (sb2 ξ 35 104 1 17 (P_X3_record (sel ξ 35 104 1)) 5) b v4)) 3 (upd (sb2 ξ 35 104 1 17 (P_X3_record (sel ξ 35 104 1)) 3) 2 (nI (b + 1))) (1 + i)) = u2 (u2 (u2 (fun i => sb2 ξ 35 104 1 17 (P_X3_record (sel ξ 35 104 1)) (1 + i)) 3 (upd (sb2 ξ 35 104 1 17 (P_X3_record (sel ξ 35 104 1)) 4) b v3)) 4 (upd (sb2 ξ 35 104 1 17 (P_X3_record (sel ξ 35 104 1)) 5) b v4)) 2 (upd (sb2 ξ 35 104 1 17 (P_X3_record (sel ξ 35 104 1)) 3) 2 (nI (b + 1))) :=
            (sh_u2 _ 1 2 _).trans (congrArg (fun z => u2 z 2 _) ((sh_u2 _ 1 4 _).trans (congrArg (fun z => u2 z 4 _) (sh_u2 _ 1 3 _))))
          show SC _ (fun i => u2 (u2 (u2 (sb2 ξ 35 104 1 17 (P_X3_record (sel ξ 35 104 1))) 4 (upd (sb2 ξ 35 104 1 17 (P_X3_record (sel ξ 35 104 1)) 4) b v3)) 5 (upd (sb2 ξ 35 104 1 17 (P_X3_record (sel ξ 35 104 1)) 5) b v4)) 3 (upd (sb2 ξ 35 104 1 17 (P_X3_record (sel ξ 35 104 1)) 3) 2 (nI (b + 1))) (1 + i)) (u2 (P_X10_keep μ) 1 (adb (P_X10_keep μ 1) b v3 v4) 1)
          rw [eS, u2_at]
          refine ⟨h, n, b + 1, by omega, hq, ?_⟩
          have e8' : adb (P_X10_keep μ 1) b v3 v4 8 = μ 1 8 := by
            unfold adb
            rw [pk_un (by decide), bec_o (by omega), pk_un (by omega), pk_un (by omega), r5 1 (by decide) (by decide)]
          rw [e8', u2_ne (by decide), u2_ne (by decide), u2_ne (by decide)]
          refine ⟨?_, ht0, ht1⟩
          show μ 1 8 = sb2 ξ 35 104 1 17 (P_X3_record (sel ξ 35 104 1)) 1 6
          rw [r3 1 (by omega), e8]
        · dsimp only
          rw [u2_ne (by omega), u2_ne (by omega), u2_ne (by omega)]
        · dsimp only
          rw [u2_ne (by decide)]
        · dsimp only
          rw [u2_ne (by decide)]
        · dsimp only
          rw [u2_ne (by decide)]
        · dsimp only
          rw [u2_ne (by decide)]
        · dsimp only
          rw [u2_ne (by decide), u2_ne (by decide), u2_ne (by decide)]
        · dsimp only
          rw [u2_ne (by decide), u2_ne (by decide), u2_ne (by decide)]
        · dsimp only
          rw [u2_ne (by decide)]
        · dsimp only
          rw [u2_ne (by decide)]
    · rw [if_neg c5, if_neg c5]
      exact ⟨⟨isis _ _ _, fun h => absurd h c0, fun _ => ⟨isis _ _ _, fun h => absurd h c1, fun _ => ⟨cs_lasts _, cs_nexts _, cs_cans _ _ _, fun h => absurd h (by decide), fun _ => ⟨fun h => absurd h c5, fun _ => trivial⟩⟩⟩⟩, ⟨ins _ _ _, fun h => absurd h c0, fun _ => ⟨ins _ _ _, fun h => absurd h c1, fun _ => ⟨l3, l4, fun h => absurd h c2, fun _ => ⟨fun h => absurd h c3, fun _ => ⟨fun _ => ⟨fun h => absurd h c5, fun _ => trivial⟩, fun h => absurd c4 h⟩⟩⟩⟩⟩, rfl, Rel_mono _ _ _ hR⟩
  · rw [if_neg c4, if_pos rfl, if_neg c4]
    exact ⟨⟨isis _ _ _, fun h => absurd h c0, fun _ => ⟨isis _ _ _, fun h => absurd h c1, fun _ => ⟨cs_lasts _, cs_nexts _, cs_cans _ _ _, fun _ => trivial, fun h => absurd rfl h⟩⟩⟩, ⟨ins _ _ _, fun h => absurd h c0, fun _ => ⟨ins _ _ _, fun h => absurd h c1, fun _ => ⟨l3, l4, fun h => absurd h c2, fun _ => ⟨fun h => absurd h c3, fun _ => ⟨fun h => absurd h c4, fun _ => trivial⟩⟩⟩⟩⟩, rfl, Rel_mono _ _ _ hR⟩
end OB1
