/-! scenes copied on the class's side -/
section SC1
def Ag (sc sc' : T2) : Prop := (∀ i, i < 8 → sc' 1 i = sc 1 i) ∧ sc' 2 2 = sc 2 2 ∧ (∀ j, j = 3 ∨ j = 4 ∨ (6 ≤ j ∧ j ≤ 9) ∨ (11 ≤ j ∧ j ≤ 14) → ∀ i, i < 64 → sc' j i = sc j i) ∧ sc' 10 4 = sc 10 4 ∧ (∀ i, i < 7 → sc' 15 i = sc 15 i) ∧ (∀ i, i < 10 → sc' 16 i = sc 16 i) ∧ sc' 0 6 = sc 0 6
theorem RS_Ag {wb h n b : Nat} {sc sc' : T2} {f : T1} (hR : RS wb h n b sc f) (hA : Ag sc sc') : RS wb h n b sc' f := by
  obtain ⟨a1, a2, a3, a10, a15, a16, a0⟩ := hA
  obtain ⟨hS, hN, ⟨e12, e10⟩, ⟨e22, hb, e14, hhb, e2, e16⟩, hs, ⟨hP1, hP2, hP3⟩, hF⟩ := hR
  refine ⟨?_, hN, ⟨e12, by rw [a10, e10]⟩, ⟨e22, hb, e14, hhb, by rw [a2, e2], by rw [a16 0 (by decide), e16]⟩, hs, ⟨fun c hc => ?_, hP2, hP3⟩, fun h64 => ⟨⟨fun i hi => ?_, (hF h64).1.2⟩, fun r hr hn => ?_⟩⟩
  · unfold Sc at hS ⊢
    rw [a1 0 (by decide), a1 1 (by decide), a1 2 (by decide), a1 3 (by decide), a1 4 (by decide), a1 5 (by decide), a1 6 (by decide), a1 7 (by decide), a15 0 (by decide), a15 1 (by decide), a15 2 (by decide), a15 3 (by decide), a15 4 (by decide), a15 5 (by decide), a15 6 (by decide), a16 1 (by decide), a16 2 (by decide), a16 3 (by decide), a16 4 (by decide), a16 5 (by decide), a16 6 (by decide), a16 7 (by decide), a16 8 (by decide), a16 9 (by decide)]
    exact hS
  · have hc64 : c < 64 := by
      split at hc <;> omega
    rw [a3 3 (by omega) c hc64, a3 4 (by omega) c hc64]
    exact hP1 c hc
  · rw [a3 6 (by omega) i (by omega), a3 7 (by omega) i (by omega), a3 8 (by omega) i (by omega), a3 9 (by omega) i (by omega)]
    exact (hF h64).1.1 i hi
  · rw [a3 11 (by omega) r hr, a3 12 (by omega) r hr, a3 13 (by omega) r hr, a3 14 (by omega) r hr]
    exact (hF h64).2 r hr hn
theorem Sc_f {sc : T2} {f g : T1} (h : Sc sc f) (hg : ∀ i, i < 28 → g i = f i) : Sc sc g := Sc_lo h hg
theorem RS_f {wb h n b : Nat} {sc : T2} {f g : T1} (hR : RS wb h n b sc f) (hg : ∀ i, i < 672 → g i = f i) : RS wb h n b sc g := by
  obtain ⟨hS, hN, ⟨e12, e10⟩, ⟨e22, hb, e14, hhb, e2, e16⟩, hs, hP, hF⟩ := hR
  refine ⟨Sc_lo hS (fun i hi => hg i (by omega)), Num_e hN (fun i hi => hg i (by omega)) (hg _ (by decide)) (hg _ (by decide)) (hg _ (by decide)), ⟨by rw [hg _ (by decide), e12], e10⟩, ⟨by rw [hg _ (by decide), e22], hb, by rw [hg _ (by decide), e14], hhb, e2, e16⟩, by rw [hg _ (by decide)]; exact hs, Pl_c hb hP rfl rfl (fun i hi => ⟨hg _ (by omega), hg _ (by omega)⟩), fun h64 => ⟨⟨fun i hi => ?_, fun i hi hi2 => ?_⟩, fun r hr hn => ?_⟩⟩
  · rw [hg _ (by omega), hg _ (by omega), hg _ (by omega), hg _ (by omega)]
    exact (hF h64).1.1 i hi
  · rw [hg _ (by omega), hg _ (by omega)]
    exact (hF h64).1.2 i hi hi2
  · rw [hg _ (by omega), hg _ (by omega), hg _ (by omega), hg _ (by omega)]
    exact (hF h64).2 r hr hn
/-- a whole scene beside a whole row, with at most N blows -/
def SC (N : Nat) (sc : T2) (f : T1) : Prop := ∃ h n b, n ≤ N ∧ RS 64 h n b sc f ∧ f 8 = sc 0 6 ∧ 0 ≤ (f 8).toInt ∧ (f 8).toInt ≤ 120000
theorem SC_Ag {N : Nat} {sc sc' : T2} {f : T1} (h : SC N sc f) (hA : Ag sc sc') : SC N sc' f := by
  obtain ⟨h, n, b, h1, h2, h3, h4⟩ := h
  exact ⟨h, n, b, h1, RS_Ag h2 hA, by rw [hA.2.2.2.2.2.2, h3], h4⟩
theorem SC_f {N : Nat} {sc : T2} {f g : T1} (h : SC N sc f) (hg : ∀ i, i < 672 → g i = f i) : SC N sc g := by
  obtain ⟨h, n, b, h1, h2, h3, h4⟩ := h
  exact ⟨h, n, b, h1, RS_f h2 hg, by rw [hg 8 (by decide), h3], by rw [hg 8 (by decide)]; exact h4⟩
theorem SC_mono {N N' : Nat} {sc : T2} {f : T1} (h : SC N sc f) (hN : N ≤ N') : SC N' sc f := by
  obtain ⟨h, n, b, h1, h2⟩ := h
  exact ⟨h, n, b, by omega, h2⟩
theorem SC_cells {N : Nat} {sc sc' : T2} {f : T1} (h : SC N sc f) (e : ∀ j, j < 17 → sc' j = sc j) : SC N sc' f := by
  refine SC_Ag h ⟨fun i _ => by rw [e 1 (by decide)], by rw [e 2 (by decide)], fun j hj i _ => by rw [e j (by omega)], by rw [e 10 (by decide)], fun i _ => by rw [e 15 (by decide)], fun i _ => by rw [e 16 (by decide)], by rw [e 0 (by decide)]⟩
theorem sb2_u2 {σ τ : T2} {o1 n1 o2 n2 c k : Nat} {f : T1} (h : c < n1) (hk : o1 + c = k) : sb2 σ o1 n1 o2 n2 (u2 τ c f) = u2 (sb2 σ o1 n1 o2 n2 τ) k f := by
  funext j
  unfold sb2
  by_cases h1 : o1 ≤ j ∧ j < o1 + n1
  · rw [if_pos h1]
    by_cases h2 : j = k
    · rw [h2, u2_at, show k - o1 = c by omega, u2_at]
    · rw [u2_ne h2, u2_ne (show j - o1 ≠ c by omega), if_pos h1]
  · rw [if_neg h1, u2_ne (show j ≠ k by omega), if_neg h1]
    by_cases h2 : o2 ≤ j ∧ j < o2 + n2
    · rw [if_pos h2, if_pos h2, u2_ne (by omega)]
    · rw [if_neg h2, if_neg h2]
theorem sb2_sel (σ : T2) (o1 n1 o2 n2 : Nat) : sb2 σ o1 n1 o2 n2 (sel σ o1 n1 o2) = σ := by
  funext j
  unfold sb2 sel
  by_cases h1 : o1 ≤ j ∧ j < o1 + n1
  · rw [if_pos h1, if_pos (by omega), show o1 + (j - o1) = j by omega]
  · rw [if_neg h1]
    by_cases h2 : o2 ≤ j ∧ j < o2 + n2
    · rw [if_pos h2, if_neg (by omega), show o2 + (n1 + (j - o2) - n1) = j by omega]
    · rw [if_neg h2]
theorem stA (σ : T2) : sb2 σ 2 3 19 3 (P_X5_copyFrom (sel σ 2 3 19)) = u2 (u2 (u2 σ 3 (va_cpy (σ 20) (σ 3) 0 0 64)) 4 (va_cpy (σ 21) (σ 4) 0 0 64)) 2 (upd (σ 2) 2 (σ 19 2)) := by
  unfold P_X5_copyFrom P_X5_copyFrom_b0
  rw [sb2_u2 (k := 2) (by decide) rfl, sb2_u2 (k := 4) (by decide) rfl, sb2_u2 (k := 3) (by decide) rfl, sb2_sel]
  rfl
theorem stB (σ : T2) : sb2 σ 5 5 22 5 (P_X2_copyFrom (sel σ 5 5 22)) = u2 (u2 (u2 (u2 σ 6 (va_cpy (σ 23) (σ 6) 0 0 64)) 7 (va_cpy (σ 24) (σ 7) 0 0 64)) 8 (va_cpy (σ 25) (σ 8) 0 0 64)) 9 (va_cpy (σ 26) (σ 9) 0 0 64) := by
  unfold P_X2_copyFrom P_X2_copyFrom_b0
  rw [sb2_u2 (k := 9) (by decide) rfl, sb2_u2 (k := 8) (by decide) rfl, sb2_u2 (k := 7) (by decide) rfl, sb2_u2 (k := 6) (by decide) rfl, sb2_sel]
  rfl
theorem stC (σ : T2) : sb2 σ 10 5 27 5 (P_X0_copyFrom (sel σ 10 5 27)) = u2 (u2 (u2 (u2 (u2 σ 11 (va_cpy (σ 28) (σ 11) 0 0 64)) 12 (va_cpy (σ 29) (σ 12) 0 0 64)) 13 (va_cpy (σ 30) (σ 13) 0 0 64)) 14 (va_cpy (σ 31) (σ 14) 0 0 64)) 10 (upd (σ 10) 4 (σ 27 4)) := by
  unfold P_X0_copyFrom P_X0_copyFrom_b0
  rw [sb2_u2 (k := 10) (by decide) rfl, sb2_u2 (k := 14) (by decide) rfl, sb2_u2 (k := 13) (by decide) rfl, sb2_u2 (k := 12) (by decide) rfl, sb2_u2 (k := 11) (by decide) rfl, sb2_sel]
  rfl
theorem stD (σ : T2) : sb2 σ 15 1 32 1 (P_X1_copyFrom (sel σ 15 1 32)) = u2 σ 15 (upd (upd (upd (upd (upd (upd (upd (σ 15) 0 (σ 32 0)) 1 (σ 32 1)) 2 (σ 32 2)) 3 (σ 32 3)) 4 (σ 32 4)) 5 (σ 32 5)) 6 (σ 32 6)) := by
  unfold P_X1_copyFrom P_X1_copyFrom_b0
  rw [sb2_u2 (k := 15) (by decide) rfl, sb2_sel]
  rfl
theorem stE (σ : T2) : sb2 σ 16 1 33 1 (P_X8_copyFrom (sel σ 16 1 33)) = u2 σ 16 (upd (upd (upd (upd (upd (upd (upd (upd (upd (upd (σ 16) 0 (σ 33 0)) 1 (σ 33 1)) 2 (σ 33 2)) 3 (σ 33 3)) 4 (σ 33 4)) 5 (σ 33 5)) 6 (σ 33 6)) 7 (σ 33 7)) 8 (σ 33 8)) 9 (σ 33 9)) := by
  unfold P_X8_copyFrom P_X8_copyFrom_b0
  rw [sb2_u2 (k := 16) (by decide) rfl, sb2_sel]
  rfl
theorem cs_copy (σ : T2) : Ag (fun j => σ (17 + j)) (P_X7_copyFrom σ) ∧ ∀ j, 17 ≤ j → P_X7_copyFrom σ j = σ j := by
  unfold P_X7_copyFrom P_X7_copyFrom_b0 P_X7_copyFrom_b26c P_X7_copyFrom_b37c P_X7_copyFrom_b48c P_X7_copyFrom_b59c P_X7_copyFrom_b70c
  rw [stA, stB, stC, stD, stE]
  refine ⟨⟨fun i hi => ?_, ?_, fun j hj i hi => ?_, ?_, fun i hi => ?_, fun i hi => ?_, ?_⟩, fun j hj => ?_⟩
  · simp [u2, va_cpy, hi]
  · simp [u2, upd]
  · have hc : ∀ f g : T1, va_cpy f g 0 0 64 i = f i := fun f g => by
      rw [pk_cpy_in (Nat.zero_le _) (by omega)]
      simp
    rcases (show j = 3 ∨ j = 4 ∨ j = 6 ∨ j = 7 ∨ j = 8 ∨ j = 9 ∨ j = 11 ∨ j = 12 ∨ j = 13 ∨ j = 14 by omega) with h | h | h | h | h | h | h | h | h | h <;> subst h <;> simp [u2, hc]
  · simp [u2, upd]
  · rcases (show i = 0 ∨ i = 1 ∨ i = 2 ∨ i = 3 ∨ i = 4 ∨ i = 5 ∨ i = 6 by omega) with h | h | h | h | h | h | h <;> subst h <;> simp [u2, upd]
  · rcases (show i = 0 ∨ i = 1 ∨ i = 2 ∨ i = 3 ∨ i = 4 ∨ i = 5 ∨ i = 6 ∨ i = 7 ∨ i = 8 ∨ i = 9 by omega) with h | h | h | h | h | h | h | h | h | h <;> subst h <;> simp [u2, upd]
  · simp [u2, upd]
  · rw [u2_ne (by omega), u2_ne (by omega), u2_ne (by omega), u2_ne (by omega), u2_ne (by omega), u2_ne (by omega), u2_ne (by omega), u2_ne (by omega), u2_ne (by omega), u2_ne (by omega), u2_ne (by omega), u2_ne (by omega), u2_ne (by omega), u2_ne (by omega), u2_ne (by omega), u2_ne (by omega)]
theorem cs_copies (σ : T2) : S_X7_copyFrom σ := by
  unfold S_X7_copyFrom S_X7_copyFrom_b0 S_X7_copyFrom_b26c S_X7_copyFrom_b37c S_X7_copyFrom_b48c S_X7_copyFrom_b59c S_X7_copyFrom_b70c
  exact ⟨trivial, trivial, trivial, trivial, trivial, trivial⟩
/-- a scene copied over another one, inside a larger world -/
theorem scp (ξ : T2) (o1 o2 : Nat) (hd : o1 + 17 ≤ o2 ∨ o2 + 17 ≤ o1) : Ag (fun j => ξ (o2 + j)) (fun j => sb2 ξ o1 17 o2 17 (P_X7_copyFrom (sel ξ o1 17 o2)) (o1 + j)) ∧ ∀ j, ¬ (o1 ≤ j ∧ j < o1 + 17) → sb2 ξ o1 17 o2 17 (P_X7_copyFrom (sel ξ o1 17 o2)) j = ξ j := by
  obtain ⟨hA, hO⟩ := cs_copy (sel ξ o1 17 o2)
  have e1 : ∀ j, j < 17 → sb2 ξ o1 17 o2 17 (P_X7_copyFrom (sel ξ o1 17 o2)) (o1 + j) = P_X7_copyFrom (sel ξ o1 17 o2) j := fun j hj => by
    unfold sb2
    rw [if_pos (by omega), show o1 + j - o1 = j by omega]
  have e2 : ∀ j, sel ξ o1 17 o2 (17 + j) = ξ (o2 + j) := fun j => by
    unfold sel
    rw [if_neg (by omega), show 17 + j - 17 = j by omega]
  obtain ⟨a1, a2, a3, a10, a15, a16, a0⟩ := hA
  refine ⟨⟨fun i hi => ?_, ?_, fun j hj i hi => ?_, ?_, fun i hi => ?_, fun i hi => ?_, ?_⟩, fun j hj => ?_⟩
  · show sb2 ξ o1 17 o2 17 (P_X7_copyFrom (sel ξ o1 17 o2)) (o1 + 1) i = ξ (o2 + 1) i
    rw [e1 1 (by decide), a1 i hi]
    exact congrFun (e2 _) _
  · show sb2 ξ o1 17 o2 17 (P_X7_copyFrom (sel ξ o1 17 o2)) (o1 + 2) 2 = ξ (o2 + 2) 2
    rw [e1 2 (by decide), a2]
    exact congrFun (e2 _) _
  · show sb2 ξ o1 17 o2 17 (P_X7_copyFrom (sel ξ o1 17 o2)) (o1 + j) i = ξ (o2 + j) i
    rw [e1 j (by omega), a3 j hj i hi]
    exact congrFun (e2 _) _
  · show sb2 ξ o1 17 o2 17 (P_X7_copyFrom (sel ξ o1 17 o2)) (o1 + 10) 4 = ξ (o2 + 10) 4
    rw [e1 10 (by decide), a10]
    exact congrFun (e2 _) _
  · show sb2 ξ o1 17 o2 17 (P_X7_copyFrom (sel ξ o1 17 o2)) (o1 + 15) i = ξ (o2 + 15) i
    rw [e1 15 (by decide), a15 i hi]
    exact congrFun (e2 _) _
  · show sb2 ξ o1 17 o2 17 (P_X7_copyFrom (sel ξ o1 17 o2)) (o1 + 16) i = ξ (o2 + 16) i
    rw [e1 16 (by decide), a16 i hi]
    exact congrFun (e2 _) _
  · show sb2 ξ o1 17 o2 17 (P_X7_copyFrom (sel ξ o1 17 o2)) (o1 + 0) 6 = ξ (o2 + 0) 6
    rw [e1 0 (by decide), a0]
    exact congrFun (e2 _) _
  · unfold sb2
    rw [if_neg hj]
    by_cases h2 : o2 ≤ j ∧ j < o2 + 17
    · rw [if_pos h2, hO _ (by omega), e2, show o2 + (j - o2) = j by omega]
    · rw [if_neg h2]
end SC1
