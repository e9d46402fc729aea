/-! the relation of a class's scene and a model's row, kept by what happens -/
section RS1
def kd (w o1 s1 o2 s2 : Int32) : Prop := (w = 1 ∧ o1 = (100000 : Int32) + o2 ∧ s1 = -6) ∨ (w = 2 ∧ o1 = (100000 : Int32) + o2 ∧ s1 = (1000 : Int32) + s2) ∨ (w = 3 ∧ o1 = -6 ∧ s1 = (1000 : Int32) + s2)
def Fa (h b : Nat) (sc : T2) (f : T1) : Prop := (∀ i, i < h → sc 6 i = f (34 + 6 * i) ∧ sc 7 i = f (35 + 6 * i) ∧ kd (sc 6 i) (sc 8 i) (sc 9 i) (f (36 + 6 * i)) (f (37 + 6 * i))) ∧ (∀ i, h ≤ i → i < b → f (34 + 6 * i) = 0 ∧ f (35 + 6 * i) = -6)
def Bl (n : Nat) (sc : T2) (f : T1) : Prop := ∀ r, r < 64 → r < n → sc 11 r = f (416 + 4 * r) ∧ sc 12 r = f (417 + 4 * r) ∧ sc 13 r = f (418 + 4 * r) ∧ sc 14 r = f (419 + 4 * r)
def skp (wb c : Nat) : Nat := if c < wb then c else c + 1
def Pl (wb b : Nat) (sc : T2) (f : T1) : Prop := (∀ c, c < (if wb < b then b - 1 else b) → sc 3 c = f (32 + 6 * skp wb c) ∧ sc 4 c = f (33 + 6 * skp wb c)) ∧ (∀ i, i < b → 0 ≤ (f (32 + 6 * i)).toInt ∧ (f (32 + 6 * i)).toInt ≤ 100000) ∧ (∀ i j, i < j → j < b → (f (32 + 6 * i)).toInt < (f (32 + 6 * j)).toInt)
def RS (wb h n b : Nat) (sc : T2) (f : T1) : Prop := Sc sc f ∧ Num f ∧ (f 12 = nI n ∧ sc 10 4 = nI n) ∧ (f 22 = nI b ∧ b ≤ 64 ∧ f 14 = nI h ∧ h ≤ b ∧ sc 2 2 = nI (if wb < b then b - 1 else b) ∧ sc 16 0 = nI (if wb < h then h - 1 else h)) ∧ (0 ≤ (f 18).toInt ∧ (f 18).toInt ≤ h) ∧ Pl wb b sc f ∧ (64 ≤ wb → Fa h b sc f ∧ Bl n sc f)
theorem bl_step {n : Nat} {σ τ : T2} {g f1 : T1} {x y : Int32} (h : Bl n σ g) (hτ : ∀ j, 11 ≤ j → j ≤ 14 → τ j = σ j) (hf : ∀ i, 416 ≤ i → f1 i = stk g n x y i) (e10 : f1 10 = τ 15 1) (e9 : f1 9 = τ 15 0) : Bl (n + 1) (app τ n x y) (enb f1 n) := by
  intro r hr hn1
  have c11 : app τ n x y 11 = upd (σ 11) (n % 64) x := by
    unfold app
    rw [u2_ne (by decide), u2_ne (by decide), u2_ne (by decide), u2_ne (by decide), u2_at, hτ 11 (by decide) (by decide)]
  have c12 : app τ n x y 12 = upd (σ 12) (n % 64) y := by
    unfold app
    rw [u2_ne (by decide), u2_ne (by decide), u2_ne (by decide), u2_at, hτ 12 (by decide) (by decide)]
  have c13 : app τ n x y 13 = upd (σ 13) (n % 64) (τ 15 1) := by
    unfold app
    rw [u2_ne (by decide), u2_ne (by decide), u2_at, hτ 13 (by decide) (by decide)]
  have c14 : app τ n x y 14 = upd (σ 14) (n % 64) (τ 15 0) := by
    unfold app
    rw [u2_ne (by decide), u2_at, hτ 14 (by decide) (by decide)]
  rw [c11, c12, c13, c14]
  by_cases c : r = n % 64
  · subst c
    rw [pk_us, pk_us, pk_us, pk_us, enb_2, enb_3, enb_o (by omega) (by omega), enb_o (by omega) (by omega), hf _ (by omega), hf _ (by omega), stk_0, stk_1]
    exact ⟨rfl, rfl, e10.symm, e9.symm⟩
  · have hrn : r < n := by omega
    rw [pk_un c, pk_un c, pk_un c, pk_un c, enb_o (by omega) (by omega), enb_o (by omega) (by omega), enb_o (by omega) (by omega), enb_o (by omega) (by omega), hf _ (by omega), hf _ (by omega), hf _ (by omega), hf _ (by omega), stk_n (by omega) (by omega) (by omega), stk_n (by omega) (by omega) (by omega), stk_n (by omega) (by omega) (by omega), stk_n (by omega) (by omega) (by omega)]
    exact h r hr hrn
theorem fa_step {h b : Nat} {sc sc' : T2} {f f' : T1} {w bl o1 s1 o2 s2 : Int32} (hF : Fa h b sc f) (hh : h < b) (hb : b ≤ 64) (k : kd w o1 s1 o2 s2) (e6 : sc' 6 = upd (sc 6) h w) (e7 : sc' 7 = upd (sc 7) h bl) (e8 : sc' 8 = upd (sc 8) h o1) (e9 : sc' 9 = upd (sc 9) h s1) (hf : ∀ i, 28 ≤ i → i < 416 → f' i = bec f h w bl o2 s2 i) : Fa (h + 1) b sc' f' := by
  obtain ⟨h1, h2⟩ := hF
  refine ⟨fun i hi => ?_, fun i hi hi2 => ?_⟩
  · rw [e6, e7, e8, e9, hf _ (by omega) (by omega), hf _ (by omega) (by omega), hf _ (by omega) (by omega), hf _ (by omega) (by omega)]
    by_cases c : i = h
    · subst c
      rw [pk_us, pk_us, pk_us, pk_us, bec_0, bec_1, bec_2, bec_3]
      exact ⟨rfl, rfl, k⟩
    · rw [pk_un c, pk_un c, pk_un c, pk_un c, bec_o (by omega), bec_o (by omega), bec_o (by omega), bec_o (by omega)]
      exact h1 i (by omega)
  · rw [hf _ (by omega) (by omega), hf _ (by omega) (by omega), bec_o (by omega), bec_o (by omega)]
    exact h2 i (by omega) hi2
theorem Pl_c {wb b : Nat} {sc sc' : T2} {f f' : T1} (hb : b ≤ 64) (h : Pl wb b sc f) (e3 : sc' 3 = sc 3) (e4 : sc' 4 = sc 4) (ef : ∀ i, i < 64 → f' (32 + 6 * i) = f (32 + 6 * i) ∧ f' (33 + 6 * i) = f (33 + 6 * i)) : Pl wb b sc' f' := by
  obtain ⟨h1, h2, h3⟩ := h
  refine ⟨fun c hc => ?_, fun i hi => ?_, fun i j hij hj => ?_⟩
  · have hs : skp wb c < 64 := by
      unfold skp
      by_cases c1 : wb < b
      · rw [if_pos c1] at hc
        split <;> omega
      · rw [if_neg c1] at hc
        rw [if_pos (by omega)]; omega
    rw [e3, e4, (ef _ hs).1, (ef _ hs).2]
    exact h1 c hc
  · rw [(ef i (by omega)).1]; exact h2 i hi
  · rw [(ef i (by omega)).1, (ef j (by omega)).1]; exact h3 i j hij hj
theorem Bl_c {n : Nat} {sc sc' : T2} {f f' : T1} (h : Bl n sc f) (e : ∀ j, 11 ≤ j → j ≤ 14 → sc' j = sc j) (ef : ∀ i, 416 ≤ i → f' i = f i) : Bl n sc' f' := by
  intro r hr hn
  rw [e 11 (by decide) (by decide), e 12 (by decide) (by decide), e 13 (by decide) (by decide), e 14 (by decide) (by decide), ef _ (by omega), ef _ (by omega), ef _ (by omega), ef _ (by omega)]
  exact h r hr hn
-- what one heard beat does, in one word
def Hq (σ : T2) (g : T1) (bc bm n : Nat) (sc' : T2) (f' : T1) : Prop := ∃ n', n ≤ n' ∧ n' ≤ n + 1 ∧ Sc sc' f' ∧ Num f' ∧ (f' 12 = nI n' ∧ sc' 10 4 = nI n') ∧ Nov f' ((4 : Int32) * g (32 + 6 * bm)) ∧ (∀ i, i = 8 ∨ i = 14 ∨ i = 22 → f' i = g i) ∧ sc' 16 0 = σ 16 0 ∧ (f' 18 = g 18 ∨ f' 18 = g 18 + 1) ∧ (∀ j, j < 5 → sc' j = σ j) ∧ (∃ w bl o1 s1 o2 s2, kd w o1 s1 o2 s2 ∧ sc' 6 = upd (σ 6) bc w ∧ sc' 7 = upd (σ 7) bc bl ∧ sc' 8 = upd (σ 8) bc o1 ∧ sc' 9 = upd (σ 9) bc s1 ∧ ∀ i, 28 ≤ i → i < 416 → f' i = bec g bm w bl o2 s2 i) ∧ (bc = bm → Bl n σ g → Bl n' sc' f')
theorem h_begin {σ : T2} {g : T1} {bc bm n : Nat} {q : Int32} (hS : Sc σ g) (hN : Num g) (h11 : g 11 = -6) (e10 : σ 10 4 = nI n) (hbm : bm < 64) (hq : q = (4 : Int32) * g (32 + 6 * bm)) (hu : σ 4 bc = g (33 + 6 * bm)) (ht0 : 0 ≤ (g (32 + 6 * bm)).toInt) (ht : (g (32 + 6 * bm)).toInt ≤ 100000) : Hq σ g bc bm n (app (bgc σ bc n q) n q (nI bc)) (enb (bgn g bm n) n) := by
  have hR := r_begin (n := n) (x := q) (y := nI bc) hS hq hu
  have hE : ∀ i, i < 416 → enb (bgn g bm n) n i = bgn g bm n i := fun i hi => enb_o (by omega) (by omega)
  have hp := nm_per hN
  have e4 := ia_mul4 ht0 (by omega)
  have e11 : (enb (bgn g bm n) n 11).toInt = 4 * (g (32 + 6 * bm)).toInt + (g 10).toInt := by
    rw [hE 11 (by decide), bgn_11, ia_add (by omega) (by omega), e4]
  have hN' : Num (enb (bgn g bm n) n) := by
    refine Num_c hN (fun i hi => ?_) ?_ (Or.inr ?_) ?_
    · rw [hE i (by omega), bgn_lo (by omega) (by omega) (by omega) (by omega)]
    · rw [hE 10 (by decide), bgn_lo (by decide) (by decide) (by decide) (by decide)]; exact hN.2.1
    · rw [e11]; omega
    · rw [hE 21 (by decide), bgn_lo (by decide) (by decide) (by decide) (by decide)]; exact hN.2.2.2
  refine ⟨n + 1, by omega, by omega, hR, hN', ⟨?_, app_4⟩, Or.inr ?_, fun i hi => ?_, ?_, Or.inl ?_, fun j hj => ?_, ⟨3, nI n, -6, 1000, -6, 0, Or.inr (Or.inr ⟨rfl, rfl, rfl⟩), ?_, ?_, ?_, ?_, fun i hi hi2 => ?_⟩, fun hbb hB => ?_⟩
  · rw [hE 12 (by decide), bgn_12]
  · rw [e11, e4]
    have := (nm_half hN').1
    omega
  · rw [hE i (by omega), bgn_lo (by omega) (by omega) (by omega) (by omega)]
  · rw [app_o (by decide)]; unfold bgc; rw [noteU_o (by decide), u2_ne (by decide)]
  · rw [hE 18 (by decide), bgn_lo (by decide) (by decide) (by decide) (by decide)]
  · rw [app_o (by omega)]; unfold bgc; rw [noteU_o (by omega), u2_ne (by omega)]
  · rw [app_o (by decide)]; unfold bgc; rw [noteU_6, u2_ne (by decide)]
  · rw [app_o (by decide)]; unfold bgc; rw [noteU_7, u2_ne (by decide)]
  · rw [app_o (by decide)]; unfold bgc; rw [noteU_8, u2_ne (by decide)]
  · rw [app_o (by decide)]; unfold bgc; rw [noteU_9, u2_ne (by decide)]
  · rw [hE i hi2, bgn_mid hi hi2]
  · refine bl_step hB (fun j h1 h2 => ?_) (fun i hi => ?_) ?_ ?_
    · unfold bgc; rw [noteU_o (by omega), u2_ne (by omega)]
    · rw [bgn_hi hbm hi, hbb, hq]
    · have := hR.2.1.2.1
      rw [hE 10 (by decide), app_o (by decide)] at this
      exact this
    · have := hR.2.1.1
      rw [hE 9 (by decide), app_o (by decide)] at this
      exact this
theorem h_take {σ ν : T2} {bc bm n : Nat} (hS : Sc σ (ν 1)) (hN : Num (ν 1)) (h11 : ¬ ν 1 11 = -6) (e10 : σ 10 4 = nI n) (hbm : bm < 64) (hu : σ 4 bc = ν 1 (33 + 6 * bm)) (ht0 : 0 ≤ (ν 1 (32 + 6 * bm)).toInt) (ht : (ν 1 (32 + 6 * bm)).toInt ≤ 100000) (h1 : -(hlf (ν 1)) ≤ (4 : Int32) * ν 1 (32 + 6 * bm) - ν 1 11) (h2 : Nov (ν 1) ((4 : Int32) * ν 1 (32 + 6 * bm))) : Hq σ (ν 1) bc bm n (app (P_X7_judge (tkcn σ bc n ((4 : Int32) * ν 1 (32 + 6 * bm) - ν 1 11)) (tkcg σ ((4 : Int32) * ν 1 (32 + 6 * bm) - ν 1 11))) n (σ 15 2) (nI bc)) (enb (P_X10_judge (u2 ν 1 (tkn (ν 1) bm n ((4 : Int32) * ν 1 (32 + 6 * bm) - ν 1 11))) (tkg (ν 1) ((4 : Int32) * ν 1 (32 + 6 * bm) - ν 1 11)) 1 1) n) := by
  obtain ⟨⟨ho1, ho2⟩, hpp, hx1, hx2⟩ := nm_tk hN h11 ht0 ht h1 h2
  have e4 := ia_mul4 ht0 (by omega)
  generalize hoff : (4 : Int32) * ν 1 (32 + 6 * bm) - ν 1 11 = off at *
  have hSn := r_tkn (bc := bc) (n := n) hS hN ho1 ho2 hu
  have hJ : Sc (P_X7_judge (tkcn σ bc n off) (tkcg σ off)) (P_X10_judge (u2 ν 1 (tkn (ν 1) bm n off)) (tkg (ν 1) off) 1 1) := by
    rw [r_tkg hS hN]
    refine r_judge (by rw [u2_at]; exact hSn) (fun _ => by decide) (fun _ _ => ?_)
    have e5 : tkcn σ bc n off 1 5 = ν 1 5 := by
      unfold tkcn
      rw [noteU_o (by decide), u2_ne (by decide), u2_ne (by decide)]
      exact hS.1.2.2.2.2.2.1.symm
    have := hN.1.2.2.2.2.2.1
    rw [e5, ia_lt, ia_0]; omega
  have hg : ∀ i, i ≠ 9 → i ≠ 16 → i ≠ 17 → i ≠ 19 → i ≠ 20 → P_X10_judge (u2 ν 1 (tkn (ν 1) bm n off)) (tkg (ν 1) off) 1 1 i = tkn (ν 1) bm n off i := fun i a b c d e => by
    rw [f_judge10i a b c d e, u2_at]
  generalize P_X10_judge (u2 ν 1 (tkn (ν 1) bm n off)) (tkg (ν 1) off) 1 1 = f1 at hJ hg ⊢
  have hE : ∀ i, i < 416 → enb f1 n i = f1 i := fun i hi => enb_o (by omega) (by omega)
  have hc : ∀ j, j ≠ 15 → j ≠ 16 → P_X7_judge (tkcn σ bc n off) (tkcg σ off) j = tkcn σ bc n off j := fun j a b => f_judge7 a b
  have hc0 : P_X7_judge (tkcn σ bc n off) (tkcg σ off) 16 0 = tkcn σ bc n off 16 0 := f_judge7h
  generalize P_X7_judge (tkcn σ bc n off) (tkcg σ off) = τ at hJ hc hc0 ⊢
  have hR : Sc (app τ n (σ 15 2) (nI bc)) (enb f1 n) := by
    refine Sc_lo12 (Sc_cells hJ (app_o (by decide)) (app_o (by decide)) (app_o (by decide))) (fun i hi _ => hE i (by omega))
  have e11 : enb f1 n 11 = ν 1 11 + (P_X10_part (off * ν 1 2) 16 + tkp (ν 1) off) := by
    rw [hE 11 (by decide), hg 11 (by decide) (by decide) (by decide) (by decide) (by decide), tkn_11]
  have hN' : Num (enb f1 n) := by
    refine Num_c hN (fun i hi => ?_) ?_ (Or.inr ?_) ?_
    · rw [hE i (by omega), hg i (by omega) (by omega) (by omega) (by omega) (by omega), tkn_lo (by omega) (by omega) (by omega) (by omega) (by omega) (by omega) (by omega)]
    · rw [hE 10 (by decide), hg 10 (by decide) (by decide) (by decide) (by decide) (by decide), tkn_10]; exact hpp
    · rw [e11]; omega
    · rw [hE 21 (by decide), hg 21 (by decide) (by decide) (by decide) (by decide) (by decide), tkn_21, ia_0]; decide
  refine ⟨n + 1, by omega, by omega, hR, hN', ⟨?_, app_4⟩, Or.inr ?_, fun i hi => ?_, ?_, ?_, fun j hj => ?_, ⟨2, nI n, (100000 : Int32) + off, (1000 : Int32) + tkcs σ bc n, off, tks (ν 1) bm n, Or.inr (Or.inl ⟨rfl, rfl, ?_⟩), ?_, ?_, ?_, ?_, fun i hi hi2 => ?_⟩, fun hbb hB => ?_⟩
  · rw [hE 12 (by decide), hg 12 (by decide) (by decide) (by decide) (by decide) (by decide), tkn_12]
  · rw [e11, e4]
    have := (nm_half hN').1
    omega
  · rw [hE i (by omega), hg i (by omega) (by omega) (by omega) (by omega) (by omega), tkn_lo (by omega) (by omega) (by omega) (by omega) (by omega) (by omega) (by omega)]
  · rw [app_o (by decide), hc0]; unfold tkcn; rw [noteU_o (by decide), u2_at, pk_un (by decide), pk_un (by decide), pk_un (by decide)]
  · rw [hE 18 (by decide), hg 18 (by decide) (by decide) (by decide) (by decide) (by decide), tkn_18]
    by_cases c : tks (ν 1) bm n = 0
    · rw [if_pos c, Int32.add_zero]; exact Or.inl rfl
    · rw [if_neg c]; exact Or.inr rfl
  · rw [app_o (by omega), hc j (by omega) (by omega)]; unfold tkcn; rw [noteU_o (by omega), u2_ne (by omega), u2_ne (by omega)]
  · have d6 : ν 1 25 = σ 15 6 := hS.2.1.2.2.2.2.2.2
    unfold tkcs tks
    rw [hu, d6]
  · rw [app_o (by decide), hc 6 (by decide) (by decide)]; unfold tkcn; rw [noteU_6, u2_ne (by decide), u2_ne (by decide)]
  · rw [app_o (by decide), hc 7 (by decide) (by decide)]; unfold tkcn; rw [noteU_7, u2_ne (by decide), u2_ne (by decide)]
  · rw [app_o (by decide), hc 8 (by decide) (by decide)]; unfold tkcn; rw [noteU_8, u2_ne (by decide), u2_ne (by decide)]
  · rw [app_o (by decide), hc 9 (by decide) (by decide)]; unfold tkcn; rw [noteU_9, u2_ne (by decide), u2_ne (by decide)]
  · rw [hE i hi2, hg i (by omega) (by omega) (by omega) (by omega) (by omega), tkn_mid hi hi2]
  · refine bl_step hB (fun j h1 h2 => ?_) (fun i hi => ?_) ?_ ?_
    · rw [hc j (by omega) (by omega)]; unfold tkcn; rw [noteU_o (by omega), u2_ne (by omega), u2_ne (by omega)]
    · rw [hg i (by omega) (by omega) (by omega) (by omega) (by omega), tkn_hi hbm hi, hbb, show ν 1 11 = σ 15 2 from hS.2.1.2.2.1]
    · exact hJ.2.1.2.1
    · exact hJ.2.1.1
theorem h_pass {σ ν : T2} {bc bm n : Nat} (hS : Sc σ (ν 1)) (hN : Num (ν 1)) (h11 : ¬ ν 1 11 = -6) (e12 : ν 1 12 = nI n) (e10 : σ 10 4 = nI n) (hbm : bm < 64) (ht0 : 0 ≤ (ν 1 (32 + 6 * bm)).toInt) (ht : (ν 1 (32 + 6 * bm)).toInt ≤ 100000) (h1 : ¬ -(hlf (ν 1)) ≤ (4 : Int32) * ν 1 (32 + 6 * bm) - ν 1 11) : Hq σ (ν 1) bc bm n (P_X7_judge (psc σ bc ((4 : Int32) * ν 1 (32 + 6 * bm) - ν 1 11)) 0) (P_X10_judge (u2 ν 1 (psn (ν 1) bm ((4 : Int32) * ν 1 (32 + 6 * bm) - ν 1 11))) 0 0 1) := by
  have e4 := ia_mul4 ht0 (by omega)
  have hh := nm_half hN
  have hp := nm_per hN
  have h3 : 0 ≤ (ν 1 11).toInt ∧ (ν 1 11).toInt ≤ 530000 := by
    rcases hN.2.2.1 with c | c
    · exact absurd c h11
    · exact c
  have eo : ((4 : Int32) * ν 1 (32 + 6 * bm) - ν 1 11).toInt = 4 * (ν 1 (32 + 6 * bm)).toInt - (ν 1 11).toInt := by
    rw [ia_sub (by omega) (by omega), e4]
  rw [ia_le, eo, ia_neg (by omega)] at h1
  generalize hoff : (4 : Int32) * ν 1 (32 + 6 * bm) - ν 1 11 = off at *
  have hJ : Sc (P_X7_judge (psc σ bc off) 0) (P_X10_judge (u2 ν 1 (psn (ν 1) bm off)) 0 0 1) := by
    refine r_judge (by rw [u2_at]; exact r_psn hS) (fun hh => absurd rfl hh) (fun _ hh => absurd rfl hh)
  have hg : ∀ i, i ≠ 9 → i ≠ 16 → i ≠ 17 → i ≠ 19 → i ≠ 20 → P_X10_judge (u2 ν 1 (psn (ν 1) bm off)) 0 0 1 i = psn (ν 1) bm off i := fun i a b c d e => by
    rw [f_judge10i a b c d e, u2_at]
  generalize P_X10_judge (u2 ν 1 (psn (ν 1) bm off)) 0 0 1 = f1 at hJ hg ⊢
  have hc : ∀ j, j ≠ 15 → j ≠ 16 → P_X7_judge (psc σ bc off) 0 j = psc σ bc off j := fun j a b => f_judge7 a b
  have hc0 : P_X7_judge (psc σ bc off) 0 16 0 = psc σ bc off 16 0 := f_judge7h
  generalize P_X7_judge (psc σ bc off) 0 = τ at hJ hc hc0 ⊢
  have hl : ∀ i, i < 34 → i ≠ 9 → i ≠ 16 → i ≠ 17 → i ≠ 19 → i ≠ 20 → i ≠ 15 → f1 i = ν 1 i := fun i h a b c d e f => by
    rw [hg i a b c d e, psn_lo h f]
  have hN' : Num f1 := Num_e hN (fun i hi => hl i (by omega) (by omega) (by omega) (by omega) (by omega) (by omega) (by omega)) (hl 10 (by decide) (by decide) (by decide) (by decide) (by decide) (by decide) (by decide)) (hl 11 (by decide) (by decide) (by decide) (by decide) (by decide) (by decide) (by decide)) (hl 21 (by decide) (by decide) (by decide) (by decide) (by decide) (by decide) (by decide))
  refine ⟨n, by omega, by omega, hJ, hN', ⟨?_, ?_⟩, Or.inr ?_, fun i hi => ?_, ?_, Or.inl ?_, fun j hj => ?_, ⟨1, -6, (100000 : Int32) + off, -6, off, -6, Or.inl ⟨rfl, rfl, rfl⟩, ?_, ?_, ?_, ?_, fun i hi hi2 => ?_⟩, fun _ hB => ?_⟩
  · rw [hl 12 (by decide) (by decide) (by decide) (by decide) (by decide) (by decide) (by decide), e12]
  · rw [hc 10 (by decide) (by decide)]; unfold psc; rw [noteU_o (by decide), u2_ne (by decide), e10]
  · have := (nm_half hN').1
    rw [hl 11 (by decide) (by decide) (by decide) (by decide) (by decide) (by decide) (by decide), e4]
    omega
  · exact hl i (by omega) (by omega) (by omega) (by omega) (by omega) (by omega) (by omega)
  · rw [hc0]; unfold psc; rw [noteU_o (by decide), u2_at, pk_un (by decide)]
  · exact hl 18 (by decide) (by decide) (by decide) (by decide) (by decide) (by decide) (by decide)
  · rw [hc j (by omega) (by omega)]; unfold psc; rw [noteU_o (by omega), u2_ne (by omega)]
  · rw [hc 6 (by decide) (by decide)]; unfold psc; rw [noteU_6, u2_ne (by decide)]
  · rw [hc 7 (by decide) (by decide)]; unfold psc; rw [noteU_7, u2_ne (by decide)]
  · rw [hc 8 (by decide) (by decide)]; unfold psc; rw [noteU_8, u2_ne (by decide)]
  · rw [hc 9 (by decide) (by decide)]; unfold psc; rw [noteU_9, u2_ne (by decide)]
  · rw [hg i (by omega) (by omega) (by omega) (by omega) (by omega), psn_mid hi]
  · refine Bl_c hB (fun j h1 h2 => ?_) (fun i hi => ?_)
    · rw [hc j (by omega) (by omega)]; unfold psc; rw [noteU_o (by omega), u2_ne (by omega)]
    · rw [hg i (by omega) (by omega) (by omega) (by omega) (by omega), psn_mid (by omega), bec_o (by omega)]
end RS1
