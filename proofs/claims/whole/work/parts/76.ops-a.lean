/-! set, beat, cut, pass -/
section OA1
theorem ins (a b c : Int32) : S_X10_in a b c := by
  unfold S_X10_in S_X10_in_b0
  exact ⟨fun _ => trivial, fun _ => ⟨fun _ => trivial, fun _ => trivial⟩⟩
theorem isis (a b c : Int32) : S_X9_isIn a b c := by
  unfold S_X9_isIn S_X9_isIn_b0
  exact ⟨fun _ => trivial, fun _ => ⟨fun _ => trivial, fun _ => trivial⟩⟩
theorem in9 (a b c : Int32) : P_X9_isIn a b c = P_X10_in a b c := rfl
theorem in01 (a b c : Int32) : P_X10_in a b c = 0 ∨ P_X10_in a b c = 1 := by
  unfold P_X10_in P_X10_in_b0
  split
  · exact Or.inl rfl
  · split
    · exact Or.inl rfl
    · exact Or.inr rfl
theorem in_ok {a b c : Int32} (h : ¬ P_X10_in a b c = 0) : b.toInt ≤ a.toInt ∧ a.toInt ≤ c.toInt := by
  unfold P_X10_in P_X10_in_b0 at h
  by_cases c1 : a < b
  · rw [if_pos c1] at h; exact absurd rfl h
  · rw [if_neg c1] at h
    by_cases c2 : c < a
    · rw [if_pos c2] at h; exact absurd rfl h
    · rw [ia_lt] at c1 c2; omega
theorem in_no {a b c : Int32} (h : P_X10_in a b c = 0) : a.toInt < b.toInt ∨ c.toInt < a.toInt := by
  unfold P_X10_in P_X10_in_b0 at h
  by_cases c1 : a < b
  · exact Or.inl (ia_lt.mp c1)
  · rw [if_neg c1] at h
    by_cases c2 : c < a
    · exact Or.inr (ia_lt.mp c2)
    · rw [if_neg c2] at h; exact absurd h (by decide)
theorem nI_ex {x : Int32} (h : 0 ≤ x.toInt) : ∃ j : Nat, j < 2147483648 ∧ x = nI j ∧ x.toInt = (j : Int) := by
  obtain ⟨j, hj, e⟩ := nI_of (x := x) (by rw [ia_lt, ia_0]; omega)
  exact ⟨j, hj, e, by rw [e, nI_toInt hj]⟩
theorem sh_u2 (ξ : T2) (o c : Nat) (X : T1) : (fun j => u2 ξ (o + c) X (o + j)) = u2 (fun j => ξ (o + j)) c X := by
  funext j
  unfold u2
  by_cases h : j = c
  · rw [if_pos h, if_pos (by omega)]
  · rw [if_neg h, if_neg (by omega)]
/-- behind a change: what is new in the scene, all else as it was recorded -/
theorem Rel_new {k : Nat} {ξ μ ξ' μ' : T2} (h : Rel k ξ μ) (hk : k < 512) (hs : SC (1400 * (k + 1)) (fun j => ξ' (1 + j)) (μ' 1)) (e : ∀ j, j = 35 ∨ (37 ≤ j ∧ j < 139) ∨ (140 ≤ j ∧ j < 175) → ξ' j = sb2 ξ 35 104 1 17 (P_X3_record (sel ξ 35 104 1)) j) (m0 : ∀ i, i = 2 ∨ i = 3 ∨ i = 7 → μ' 0 i = P_X10_keep μ 0 i) (m2 : μ' 2 = P_X10_keep μ 2) (m3 : μ' 3 = P_X10_keep μ 3) (m4 : μ' 4 = P_X10_keep μ 4) (hp : PadR ξ' μ') : Rel (k + 1) ξ' μ' := by
  obtain ⟨-, -, ⟨nx, pf, pm, r1, r2⟩, r3, r4, r5⟩ := Rel_rec h hk
  obtain ⟨-, -, h4, h5, h6⟩ := h
  refine ⟨hs, ⟨nx, pf, pm, r1, Hist_c r2 (e 35 (by omega)) (fun j a b => e j (by omega)) (m0 2 (by omega)) (m0 3 (by omega)) (fun i _ => by rw [m2])⟩, Slots_c (Slots_mono h4 (by omega)) ?_ (fun j a b => ?_) ?_ (fun i _ => ?_), hp, ?_⟩
  · rw [e 174 (by omega), r3 174 (by omega)]
  · rw [e j (by omega), r3 j (by omega)]
  · rw [m4, r5 4 (by decide) (by decide)]
  · rw [m3, r5 3 (by decide) (by decide)]
  · rw [m0 7 (by omega), r4 7 (by decide) (by decide), h6]
theorem PadR_new {k : Nat} {ξ μ ξ' μ' : T2} (h : Rel k ξ μ) (hk : k < 512) (e175 : ξ' 175 = sb2 ξ 35 104 1 17 (P_X3_record (sel ξ 35 104 1)) 175) (e176 : ξ' 176 = sb2 ξ 35 104 1 17 (P_X3_record (sel ξ 35 104 1)) 176) (m9 : μ' 0 9 = P_X10_keep μ 0 9) (m6 : μ' 6 = P_X10_keep μ 6) : PadR ξ' μ' := by
  obtain ⟨-, -, -, r3, r4, r5⟩ := Rel_rec h hk
  refine PadR_c h.2.2.2.1 ?_ ?_ ?_ ?_
  · rw [e175, r3 175 (by omega)]
  · rw [e176, r3 176 (by omega)]
  · rw [m9, r4 9 (by decide) (by decide)]
  · rw [m6, r5 6 (by decide) (by decide)]
/-- the scene itself behind the record -/
theorem SC_rec {k : Nat} {ξ μ : T2} (h : Rel k ξ μ) (hk : k < 512) : SC (1400 * k) (fun j => sb2 ξ 35 104 1 17 (P_X3_record (sel ξ 35 104 1)) (1 + j)) (P_X10_keep μ 1) := by
  obtain ⟨-, -, -, r3, r4, r5⟩ := Rel_rec h hk
  rw [r5 1 (by decide) (by decide)]
  exact SC_cells h.1 (fun j hj => r3 _ (by omega))
-- set
theorem lo_eq {j : Nat} (h : j < 8) : P_X10_lowest (nI j) = q_lo j ∧ P_X10_highest (nI j) = q_hi j := by
  rcases (show j = 0 ∨ j = 1 ∨ j = 2 ∨ j = 3 ∨ j = 4 ∨ j = 5 ∨ j = 6 ∨ j = 7 by omega) with h | h | h | h | h | h | h | h <;> subst h <;> exact ⟨rfl, rfl⟩
theorem RS_set {h n b j : Nat} {sc : T2} {f : T1} {v : Int32} (hR : RS 64 h n b sc f) (hj : j < 8) (h0 : j = 0 → f 11 = -6) (h1 : (q_lo j).toInt ≤ v.toInt) (h2 : v.toInt ≤ (q_hi j).toInt) : RS 64 h n b (u2 (u2 sc 1 (upd (sc 1) j v)) 15 (upd (sc 15) 1 (if j = 0 then (4 : Int32) * v else sc 15 1))) (upd (upd f j v) 10 (if j = 0 then (4 : Int32) * v else f 10)) := by
  obtain ⟨hS, hN, ⟨e12, e10⟩, ⟨e22, hb, e14, hhb, e2, e16⟩, hs, hP, hF⟩ := hR
  have g : ∀ i, 11 ≤ i → upd (upd f j v) 10 (if j = 0 then (4 : Int32) * v else f 10) i = f i := fun i hi => by
    rw [pk_un (by omega), pk_un (by omega)]
  have c : ∀ i, i ≠ 1 → i ≠ 15 → u2 (u2 sc 1 (upd (sc 1) j v)) 15 (upd (sc 15) 1 (if j = 0 then (4 : Int32) * v else sc 15 1)) i = sc i := fun i a b => by
    rw [u2_ne b, u2_ne a]
  refine ⟨?_, ?_, ⟨by rw [g 12 (by decide), e12], by rw [c 10 (by decide) (by decide), e10]⟩, ⟨by rw [g 22 (by decide), e22], hb, by rw [g 14 (by decide), e14], hhb, by rw [c 2 (by decide) (by decide), e2], by rw [c 16 (by decide) (by decide), e16]⟩, by rw [g 18 (by decide)]; exact hs, Pl_c hb hP (c 3 (by decide) (by decide)) (c 4 (by decide) (by decide)) (fun i hi => ⟨g _ (by omega), g _ (by omega)⟩), fun h64 => ⟨⟨fun i hi => ?_, fun i hi hi2 => ?_⟩, Bl_c (hF h64).2 (fun i _ _ => c i (by omega) (by omega)) (fun i hi => g i (by omega))⟩⟩
  · obtain ⟨⟨a0, a1, a2, a3, a4, a5, a6, a7⟩, ⟨d0, d1, d2, d3, d4, d5, d6⟩, ⟨t1, t2, t3, t4, t5, t6, t7, t8, t9⟩⟩ := hS
    rcases (show j = 0 ∨ j = 1 ∨ j = 2 ∨ j = 3 ∨ j = 4 ∨ j = 5 ∨ j = 6 ∨ j = 7 by omega) with h | h | h | h | h | h | h | h <;> subst h <;> simp [Sc, u2, upd, *]
  · have k11 := g 11 (by decide)
    have k21 := g 21 (by decide)
    have q0 : ∀ x : Int32, upd (upd f j v) 10 x 10 = x := fun x => pk_us
    obtain ⟨⟨a0, a1, a2, a3, a4, a5, a6, a7⟩, hp, hx, hh⟩ := hN
    refine ⟨?_, ?_, by rw [k11]; exact hx, by rw [k21]; exact hh⟩
    · have gi : ∀ i, i < 8 → i ≠ j → upd (upd f j v) 10 (if j = 0 then (4 : Int32) * v else f 10) i = f i := fun i hi h9 => by
        rw [pk_un (by omega), pk_un h9]
      have gj : upd (upd f j v) 10 (if j = 0 then (4 : Int32) * v else f 10) j = v := by
        rw [pk_un (by omega), pk_us]
      generalize upd (upd f j v) 10 (if j = 0 then (4 : Int32) * v else f 10) = g9 at gi gj
      rcases (show j = 0 ∨ j = 1 ∨ j = 2 ∨ j = 3 ∨ j = 4 ∨ j = 5 ∨ j = 6 ∨ j = 7 by omega) with h | h | h | h | h | h | h | h <;> subst h
      · rw [gj, gi 1 (by decide) (by decide), gi 2 (by decide) (by decide), gi 3 (by decide) (by decide), gi 4 (by decide) (by decide), gi 5 (by decide) (by decide), gi 6 (by decide) (by decide), gi 7 (by decide) (by decide)]
        exact ⟨⟨h1, h2⟩, a1, a2, a3, a4, a5, a6, a7⟩
      · rw [gi 0 (by decide) (by decide), gj, gi 2 (by decide) (by decide), gi 3 (by decide) (by decide), gi 4 (by decide) (by decide), gi 5 (by decide) (by decide), gi 6 (by decide) (by decide), gi 7 (by decide) (by decide)]
        exact ⟨a0, ⟨h1, h2⟩, a2, a3, a4, a5, a6, a7⟩
      · rw [gi 0 (by decide) (by decide), gi 1 (by decide) (by decide), gj, gi 3 (by decide) (by decide), gi 4 (by decide) (by decide), gi 5 (by decide) (by decide), gi 6 (by decide) (by decide), gi 7 (by decide) (by decide)]
        exact ⟨a0, a1, ⟨h1, h2⟩, a3, a4, a5, a6, a7⟩
      · rw [gi 0 (by decide) (by decide), gi 1 (by decide) (by decide), gi 2 (by decide) (by decide), gj, gi 4 (by decide) (by decide), gi 5 (by decide) (by decide), gi 6 (by decide) (by decide), gi 7 (by decide) (by decide)]
        exact ⟨a0, a1, a2, ⟨h1, h2⟩, a4, a5, a6, a7⟩
      · rw [gi 0 (by decide) (by decide), gi 1 (by decide) (by decide), gi 2 (by decide) (by decide), gi 3 (by decide) (by decide), gj, gi 5 (by decide) (by decide), gi 6 (by decide) (by decide), gi 7 (by decide) (by decide)]
        exact ⟨a0, a1, a2, a3, ⟨h1, h2⟩, a5, a6, a7⟩
      · rw [gi 0 (by decide) (by decide), gi 1 (by decide) (by decide), gi 2 (by decide) (by decide), gi 3 (by decide) (by decide), gi 4 (by decide) (by decide), gj, gi 6 (by decide) (by decide), gi 7 (by decide) (by decide)]
        exact ⟨a0, a1, a2, a3, a4, ⟨h1, h2⟩, a6, a7⟩
      · rw [gi 0 (by decide) (by decide), gi 1 (by decide) (by decide), gi 2 (by decide) (by decide), gi 3 (by decide) (by decide), gi 4 (by decide) (by decide), gi 5 (by decide) (by decide), gj, gi 7 (by decide) (by decide)]
        exact ⟨a0, a1, a2, a3, a4, a5, ⟨h1, h2⟩, a7⟩
      · rw [gi 0 (by decide) (by decide), gi 1 (by decide) (by decide), gi 2 (by decide) (by decide), gi 3 (by decide) (by decide), gi 4 (by decide) (by decide), gi 5 (by decide) (by decide), gi 6 (by decide) (by decide), gj]
        exact ⟨a0, a1, a2, a3, a4, a5, a6, ⟨h1, h2⟩⟩
    · rw [q0]
      by_cases c0 : j = 0
      · subst c0
        have h1' : 20 ≤ v.toInt := h1
        have h2' : v.toInt ≤ 400 := h2
        rw [if_pos rfl, pk_un (by decide), pk_us, ia_mul4 (by omega) (by omega)]
        omega
      · rw [if_neg c0, pk_un (by decide), pk_un (by omega)]
        exact hp
  · rw [c 6 (by decide) (by decide), c 7 (by decide) (by decide), c 8 (by decide) (by decide), c 9 (by decide) (by decide), g _ (by omega), g _ (by omega), g _ (by omega), g _ (by omega)]
    exact (hF h64).1.1 i hi
  · rw [g _ (by omega), g _ (by omega)]
    exact (hF h64).1.2 i hi hi2
theorem set_both {k : Nat} {ξ μ : T2} {j : Nat} {x1 : Int32} (hk : k < 512) (hR : Rel k ξ μ) (hj : j < 8) (h0 : j = 0 → μ 1 11 = -6) (h1 : (q_lo j).toInt ≤ x1.toInt) (h2 : x1.toInt ≤ (q_hi j).toInt) : S_X9_set_b50 ξ (nI j) x1 ∧ S_X10_set_b45 μ (nI j) x1 ∧ (P_X9_set_b50 ξ (nI j) x1).1 = (P_X10_set_b45 μ (nI j) x1).1 ∧ Rel (k + 1) (P_X9_set_b50 ξ (nI j) x1).2 (P_X10_set_b45 μ (nI j) x1).2 := by
  obtain ⟨r1, r2, -, r3, r4, r5⟩ := Rel_rec hR hk
  have hN := Rel_new (ξ' := u2 (u2 (sb2 ξ 35 104 1 17 (P_X3_record (sel ξ 35 104 1))) 2 (upd (sb2 ξ 35 104 1 17 (P_X3_record (sel ξ 35 104 1)) 2) j x1)) 16 (upd (sb2 ξ 35 104 1 17 (P_X3_record (sel ξ 35 104 1)) 16) 1 (if j = 0 then (4 : Int32) * x1 else sb2 ξ 35 104 1 17 (P_X3_record (sel ξ 35 104 1)) 16 1))) (μ' := u2 (P_X10_keep μ) 1 (upd (upd (P_X10_keep μ 1) j x1) 10 (if j = 0 then (4 : Int32) * x1 else P_X10_keep μ 1 10))) hR hk ?_ (fun i hi => by rw [u2_ne (by omega), u2_ne (by omega)]) (fun i hi => by rw [u2_ne (by decide)]) (u2_ne (by decide)) (u2_ne (by decide)) (u2_ne (by decide)) (PadR_new hR hk (by rw [u2_ne (by decide), u2_ne (by decide)]) (by rw [u2_ne (by decide), u2_ne (by decide)]) (by rw [u2_ne (by decide)]) (u2_ne (by decide)))
  · have hv : vp_in (nI j) 8 := vp_in_nI hj (by omega)
    have hv2 : vp_in (nI j) 672 := vp_in_nI (by omega) (by omega)
    have hz : nI j = 0 ↔ j = 0 := by rw [← nI_0]; exact nI_eq (by omega) (by omega)
    unfold S_X9_set_b50 S_X10_set_b45 P_X9_set_b50 P_X10_set_b45 S_X9_set_b61c S_X10_set_b49c P_X9_set_b61c P_X10_set_b49c P_X10_set_b86
    refine ⟨⟨r1, hv, hv, fun _ => ⟨trivial, trivial⟩, fun _ => trivial⟩, ⟨r2, hv2, hv2, fun _ => trivial, fun _ => trivial⟩, ?_, ?_⟩
    · have h2c : sb2 ξ 35 104 1 17 (P_X3_record (sel ξ 35 104 1)) 2 j = P_X10_keep μ 1 j := by
        obtain ⟨h, n, b, -, hRS, -⟩ := SC_rec hR hk
        have hA := hRS.1.1
        rcases (show j = 0 ∨ j = 1 ∨ j = 2 ∨ j = 3 ∨ j = 4 ∨ j = 5 ∨ j = 6 ∨ j = 7 by omega) with h | h | h | h | h | h | h | h <;> subst h
        · exact hA.1.symm
        · exact hA.2.1.symm
        · exact hA.2.2.1.symm
        · exact hA.2.2.2.1.symm
        · exact hA.2.2.2.2.1.symm
        · exact hA.2.2.2.2.2.1.symm
        · exact hA.2.2.2.2.2.2.1.symm
        · exact hA.2.2.2.2.2.2.2.symm
      rw [nI_clamp (n := j) (by omega)]
      by_cases c : nI j = 0
      · rw [if_pos c, if_pos c]; exact h2c
      · rw [if_neg c, if_neg c]; exact h2c
    · rw [nI_clamp (n := j) (by omega)]
      by_cases c : nI j = 0
      · rw [if_pos c, if_pos c]
        rw [if_pos (hz.mp c), if_pos (hz.mp c)] at hN
        have cj := hz.mp c
        subst cj
        have e1 : P_X7_firstPeriod (fun j => u2 (sb2 ξ 35 104 1 17 (P_X3_record (sel ξ 35 104 1))) 2 (upd (sb2 ξ 35 104 1 17 (P_X3_record (sel ξ 35 104 1)) 2) 0 x1) (1 + j)) = (4 : Int32) * x1 := rfl
        rw [e1]
        simp only [u2_at, u2_same]
        exact hN
      · rw [if_neg c, if_neg c]
        rw [if_neg (fun h => c (hz.mpr h)), if_neg (fun h => c (hz.mpr h))] at hN
        have e1 : u2 (u2 (sb2 ξ 35 104 1 17 (P_X3_record (sel ξ 35 104 1))) 2 (upd (sb2 ξ 35 104 1 17 (P_X3_record (sel ξ 35 104 1)) 2) j x1)) 16 (upd (sb2 ξ 35 104 1 17 (P_X3_record (sel ξ 35 104 1)) 16) 1 (sb2 ξ 35 104 1 17 (P_X3_record (sel ξ 35 104 1)) 16 1)) = u2 (sb2 ξ 35 104 1 17 (P_X3_record (sel ξ 35 104 1))) 2 (upd (sb2 ξ 35 104 1 17 (P_X3_record (sel ξ 35 104 1)) 2) j x1) := by
          have e2 : upd (sb2 ξ 35 104 1 17 (P_X3_record (sel ξ 35 104 1)) 16) 1 (sb2 ξ 35 104 1 17 (P_X3_record (sel ξ 35 104 1)) 16 1) = u2 (sb2 ξ 35 104 1 17 (P_X3_record (sel ξ 35 104 1))) 2 (upd (sb2 ξ 35 104 1 17 (P_X3_record (sel ξ 35 104 1)) 2) j x1) 16 := by
            rw [u2_ne (by decide)]
            funext i
            unfold upd
            split
            · rename_i h; rw [h]
            · rfl
          rw [e2, u2_self]
        rw [e1] at hN
        simp only [u2_at, u2_same]
        have e3 : upd (P_X10_keep μ 1) j x1 10 = P_X10_keep μ 1 10 := pk_un (by omega)
        rw [e3]
        exact hN
  · obtain ⟨h, n, b, hn, hRS, ht⟩ := SC_rec hR hk
    have hq := RS_set (v := x1) hRS hj (fun h9 => by rw [r5 1 (by decide) (by decide)]; exact h0 h9) h1 h2
    have eS : (fun i => u2 (u2 (sb2 ξ 35 104 1 17 (P_X3_record (sel ξ 35 104 1))) 2 (upd (sb2 ξ 35 104 1 17 (P_X3_record (sel ξ 35 104 1)) 2) j x1)) 16 (upd (sb2 ξ 35 104 1 17 (P_X3_record (sel ξ 35 104 1)) 16) 1 (if j = 0 then (4 : Int32) * x1 else sb2 ξ 35 104 1 17 (P_X3_record (sel ξ 35 104 1)) 16 1)) (1 + i)) = u2 (u2 (fun i => sb2 ξ 35 104 1 17 (P_X3_record (sel ξ 35 104 1)) (1 + i)) 1 (upd (sb2 ξ 35 104 1 17 (P_X3_record (sel ξ 35 104 1)) 2) j x1)) 15 (upd (sb2 ξ 35 104 1 17 (P_X3_record (sel ξ 35 104 1)) 16) 1 (if j = 0 then (4 : Int32) * x1 else sb2 ξ 35 104 1 17 (P_X3_record (sel ξ 35 104 1)) 16 1)) :=
      (sh_u2 (u2 (sb2 ξ 35 104 1 17 (P_X3_record (sel ξ 35 104 1))) 2 (upd (sb2 ξ 35 104 1 17 (P_X3_record (sel ξ 35 104 1)) 2) j x1)) 1 15 _).trans (congrArg (fun z => u2 z 15 _) (sh_u2 (sb2 ξ 35 104 1 17 (P_X3_record (sel ξ 35 104 1))) 1 1 _))
    rw [eS, u2_at]
    refine ⟨h, n, b, by omega, hq, ?_⟩
    rw [pk_un (by decide), pk_un (by omega), u2_ne (by decide), u2_ne (by decide)]
    exact ht
theorem ok_set : Ok_set Rel := by
  intro k ξ μ x0 x1 hk hR
  unfold S_X9_set S_X9_set_b0 P_X9_set P_X9_set_b0 S_X10_set S_X10_set_b0 P_X10_set P_X10_set_b0
  have hset : S_X9_isSetting x0 := by
    unfold S_X9_isSetting S_X9_isSetting_b0
    exact ⟨isis _ _ _, by rw [in9]; exact in01 _ _ _, trivial⟩
  have hp : P_X9_isSetting x0 = P_X10_in x0 0 7 := rfl
  have hlos : S_X10_lowest x0 := by simp [S_X10_lowest, S_X10_lowest_b0]
  have hhis : S_X10_highest x0 := by simp [S_X10_highest, S_X10_highest_b0]
  rw [hp]
  by_cases c0 : P_X10_in x0 0 7 = 0
  · rw [if_pos c0, if_pos c0]
    exact ⟨⟨hset, fun _ => trivial, fun h => absurd c0 h⟩, ⟨ins _ _ _, fun _ => trivial, fun h => absurd c0 h⟩, rfl, Rel_mono _ _ _ hR⟩
  · rw [if_neg c0, if_neg c0]
    have h07 := in_ok c0
    rw [ia_0, show (7 : Int32).toInt = 7 from by decide] at h07
    obtain ⟨j, -, rfl, ej⟩ := nI_ex h07.1
    have hj : j < 8 := by omega
    have hv : vp_in (nI j) 8 := vp_in_nI hj (by omega)
    obtain ⟨elo, ehi⟩ := lo_eq hj
    rw [nI_clamp (n := j) (by omega), elo, ehi]
    have hz : nI j = 0 ↔ j = 0 := by rw [← nI_0]; exact nI_eq (by omega) (by omega)
    by_cases c1 : x1 < q_lo j
    · have c2 : P_X10_in x1 (q_lo j) (q_hi j) = 0 := by unfold P_X10_in P_X10_in_b0; rw [if_pos c1]
      rw [if_pos c1, if_pos c2]
      exact ⟨⟨hset, fun h => absurd h c0, fun _ => ⟨hv, fun _ => trivial, fun h => absurd c1 h⟩⟩, ⟨ins _ _ _, fun h => absurd h c0, fun _ => ⟨hlos, hhis, ins _ _ _, fun _ => trivial, fun h => absurd c2 h⟩⟩, rfl, Rel_mono _ _ _ hR⟩
    · rw [if_neg c1]
      by_cases c3 : x1 ≤ q_hi j
      · have c2 : ¬ P_X10_in x1 (q_lo j) (q_hi j) = 0 := by
          unfold P_X10_in P_X10_in_b0
          rw [if_neg c1, if_neg (fun h => by rw [ia_lt] at h; rw [ia_le] at c3; omega)]
          decide
        rw [if_pos c3, if_neg c2]
        have b1 : (q_lo j).toInt ≤ x1.toInt := by rw [ia_lt] at c1; omega
        have b2 : x1.toInt ≤ (q_hi j).toInt := ia_le.mp c3
        by_cases c4 : nI j = 0
        · rw [if_pos c4, if_pos c4]
          obtain ⟨h, n, b, -, hRS, -⟩ := hR.1
          have d2 : μ 1 11 = ξ 16 2 := hRS.1.2.1.2.2.1
          have hneg := (nm_neg hRS.2.1).1
          by_cases c5 : ξ 16 2 = -6
          · have c6 : μ 1 11 < 0 := hneg.mpr (by rw [d2, c5])
            rw [if_pos c5, if_pos c6]
            obtain ⟨s1, s2, s3, s4⟩ := set_both hk hR hj (fun _ => by rw [d2, c5]) b1 b2
            exact ⟨⟨hset, fun h => absurd h c0, fun _ => ⟨hv, fun h => absurd h c1, fun _ => ⟨hv, fun _ => ⟨fun _ => ⟨fun _ => s1, fun h => absurd c5 h⟩, fun h => absurd c4 h⟩, fun h => absurd c3 h⟩⟩⟩, ⟨ins _ _ _, fun h => absurd h c0, fun _ => ⟨hlos, hhis, ins _ _ _, fun h => absurd h c2, fun _ => ⟨fun _ => ⟨fun _ => s2, fun h => absurd c6 h⟩, fun h => absurd c4 h⟩⟩⟩, s3, s4⟩
          · have c6 : ¬ μ 1 11 < 0 := fun h => c5 (by rw [← d2]; exact hneg.mp h)
            rw [if_neg c5, if_neg c6]
            exact ⟨⟨hset, fun h => absurd h c0, fun _ => ⟨hv, fun h => absurd h c1, fun _ => ⟨hv, fun _ => ⟨fun _ => ⟨fun h => absurd h c5, fun _ => trivial⟩, fun h => absurd c4 h⟩, fun h => absurd c3 h⟩⟩⟩, ⟨ins _ _ _, fun h => absurd h c0, fun _ => ⟨hlos, hhis, ins _ _ _, fun h => absurd h c2, fun _ => ⟨fun _ => ⟨fun h => absurd h c6, fun _ => trivial⟩, fun h => absurd c4 h⟩⟩⟩, rfl, Rel_mono _ _ _ hR⟩
        · rw [if_neg c4, if_neg c4]
          obtain ⟨s1, s2, s3, s4⟩ := set_both hk hR hj (fun h => absurd (hz.mpr h) c4) b1 b2
          exact ⟨⟨hset, fun h => absurd h c0, fun _ => ⟨hv, fun h => absurd h c1, fun _ => ⟨hv, fun _ => ⟨fun h => absurd h c4, fun _ => s1⟩, fun h => absurd c3 h⟩⟩⟩, ⟨ins _ _ _, fun h => absurd h c0, fun _ => ⟨hlos, hhis, ins _ _ _, fun h => absurd h c2, fun _ => ⟨fun h => absurd h c4, fun _ => s2⟩⟩⟩, s3, s4⟩
      · have c2 : P_X10_in x1 (q_lo j) (q_hi j) = 0 := by
          unfold P_X10_in P_X10_in_b0
          rw [if_neg c1, if_pos (by rw [ia_lt]; rw [ia_le] at c3; omega)]
        rw [if_neg c3, if_pos c2]
        exact ⟨⟨hset, fun h => absurd h c0, fun _ => ⟨hv, fun h => absurd h c1, fun _ => ⟨hv, fun h => absurd h c3, fun _ => trivial⟩⟩⟩, ⟨ins _ _ _, fun h => absurd h c0, fun _ => ⟨hlos, hhis, ins _ _ _, fun _ => trivial, fun h => absurd c2 h⟩⟩, rfl, Rel_mono _ _ _ hR⟩
end OA1
