/-! a beat heard on both sides -/
section HR1
theorem upd_c {f g : T1} {k i : Nat} {v : Int32} (h : g i = f i) : upd g k v i = upd f k v i := by
  unfold upd
  split
  · rfl
  · exact h
theorem bec_c {f g : T1} {b i : Nat} {w bl off sl : Int32} (h : g i = f i) : bec g b w bl off sl i = bec f b w bl off sl i := upd_c (upd_c (upd_c (upd_c h)))
theorem Sc_cells {sc τ : T2} {f : T1} (h : Sc sc f) (h1 : τ 1 = sc 1) (h15 : τ 15 = sc 15) (h16 : τ 16 = sc 16) : Sc τ f := by
  unfold Sc at h ⊢
  rw [h1, h15, h16]
  exact h
theorem app_o {τ : T2} {n j : Nat} {x y : Int32} (h : j < 10 ∨ 14 < j) : app τ n x y j = τ j := by
  unfold app
  rw [u2_ne (by omega), u2_ne (by omega), u2_ne (by omega), u2_ne (by omega), u2_ne (by omega)]
theorem noteU_o {σ : T2} {b j : Nat} {w bl off sl : Int32} (h : j < 6 ∨ 9 < j) : noteU σ b w bl off sl j = σ j := by
  unfold noteU
  rw [u2_ne (by omega), u2_ne (by omega), u2_ne (by omega), u2_ne (by omega)]
theorem noteU_6 {σ : T2} {b : Nat} {w bl off sl : Int32} : noteU σ b w bl off sl 6 = upd (σ 6) b w := by
  unfold noteU
  rw [u2_ne (by decide), u2_ne (by decide), u2_ne (by decide), u2_at]
theorem noteU_7 {σ : T2} {b : Nat} {w bl off sl : Int32} : noteU σ b w bl off sl 7 = upd (σ 7) b bl := by
  unfold noteU
  rw [u2_ne (by decide), u2_ne (by decide), u2_at]
theorem noteU_8 {σ : T2} {b : Nat} {w bl off sl : Int32} : noteU σ b w bl off sl 8 = upd (σ 8) b off := by
  unfold noteU
  rw [u2_ne (by decide), u2_at]
theorem noteU_9 {σ : T2} {b : Nat} {w bl off sl : Int32} : noteU σ b w bl off sl 9 = upd (σ 9) b sl := by
  unfold noteU
  rw [u2_at]
theorem app_4 {τ : T2} {n : Nat} {x y : Int32} : app τ n x y 10 4 = nI (n + 1) := by
  unfold app
  rw [u2_at, pk_us]
theorem f_judge7h {sc : T2} {g : Int32} : P_X7_judge sc g 16 0 = sc 16 0 := by
  simp only [P_X7_judge, P_X7_judge_b0, P_X7_judge_b21, P_X7_judge_b45, P_X7_judge_b100, P_X7_loseLock, P_X7_loseLock_b0]
  repeat' split
  all_goals simp [u2, upd]
theorem tkn_lo {f : T1} {b n i : Nat} {off : Int32} (h : i < 28) (h1 : i ≠ 10) (h2 : i ≠ 11) (h3 : i ≠ 12) (h4 : i ≠ 18) (h5 : i ≠ 21) (h6 : i < 24) : tkn f b n off i = f i := by
  unfold tkn
  rw [bec_o (by omega), pk_un (by omega), pk_un (by omega), pk_un (by omega), pk_un (by omega), pk_un (by omega), pk_un (by omega), pk_un (by omega), stk_o (by omega) (by omega)]
theorem tkn_10 {f : T1} {b n : Nat} {off : Int32} : tkn f b n off 10 = tkp f off := by
  unfold tkn
  rw [bec_o (by omega), pk_un (by omega), pk_un (by omega), pk_un (by omega), pk_un (by omega), pk_un (by omega), pk_un (by omega), pk_us]
theorem tkn_11 {f : T1} {b n : Nat} {off : Int32} : tkn f b n off 11 = f 11 + (P_X10_part (off * f 2) 16 + tkp f off) := by
  unfold tkn
  rw [bec_o (by omega), pk_un (by omega), pk_un (by omega), pk_un (by omega), pk_un (by omega), pk_un (by omega), pk_us]
theorem tkn_12 {f : T1} {b n : Nat} {off : Int32} : tkn f b n off 12 = nI (n + 1) := by
  unfold tkn
  rw [bec_o (by omega), pk_un (by omega), pk_un (by omega), pk_un (by omega), pk_un (by omega), pk_un (by omega), pk_un (by omega), pk_un (by omega), stk_12]
theorem tkn_18 {f : T1} {b n : Nat} {off : Int32} : tkn f b n off 18 = f 18 + (if tks f b n = 0 then 0 else 1) := by
  unfold tkn
  rw [bec_o (by omega), pk_un (by omega), pk_un (by omega), pk_us]
theorem tkn_21 {f : T1} {b n : Nat} {off : Int32} : tkn f b n off 21 = 0 := by
  unfold tkn
  rw [bec_o (by omega), pk_un (by omega), pk_un (by omega), pk_un (by omega), pk_un (by omega), pk_us]
theorem tkn_mid {f : T1} {b n i : Nat} {off : Int32} (h : 28 ≤ i) (h2 : i < 416) : tkn f b n off i = bec f b 2 (nI n) off (tks f b n) i := by
  unfold tkn
  refine bec_c ?_
  rw [pk_un (by omega), pk_un (by omega), pk_un (by omega), pk_un (by omega), pk_un (by omega), pk_un (by omega), pk_un (by omega), stk_o (by omega) (by omega)]
theorem tkn_hi {f : T1} {b n i : Nat} {off : Int32} (hb : b < 64) (h : 416 ≤ i) : tkn f b n off i = stk f n (f 11) (nI b) i := by
  unfold tkn
  rw [bec_o (by omega), pk_un (by omega), pk_un (by omega), pk_un (by omega), pk_un (by omega), pk_un (by omega), pk_un (by omega), pk_un (by omega)]
theorem bgn_lo {f : T1} {b n i : Nat} (h : i < 28) (h2 : i ≠ 11) (h3 : i ≠ 12) (h5 : i ≠ 25) : bgn f b n i = f i := by
  unfold bgn
  rw [bec_o (by omega), pk_un (by omega), pk_un (by omega), stk_o (by omega) (by omega)]
theorem bgn_11 {f : T1} {b n : Nat} : bgn f b n 11 = (4 : Int32) * f (32 + 6 * b) + f 10 := by
  unfold bgn
  rw [bec_o (by omega), pk_un (by omega), pk_us]
theorem bgn_12 {f : T1} {b n : Nat} : bgn f b n 12 = nI (n + 1) := by
  unfold bgn
  rw [bec_o (by omega), pk_un (by omega), pk_un (by omega), stk_12]
theorem bgn_mid {f : T1} {b n i : Nat} (h : 28 ≤ i) (h2 : i < 416) : bgn f b n i = bec f b 3 (nI n) (-6) 0 i := by
  unfold bgn
  refine bec_c ?_
  rw [pk_un (by omega), pk_un (by omega), stk_o (by omega) (by omega)]
theorem bgn_hi {f : T1} {b n i : Nat} (hb : b < 64) (h : 416 ≤ i) : bgn f b n i = stk f n ((4 : Int32) * f (32 + 6 * b)) (nI b) i := by
  unfold bgn
  rw [bec_o (by omega), pk_un (by omega), pk_un (by omega)]
theorem psn_lo {f : T1} {b i : Nat} {off : Int32} (h : i < 34) (h2 : i ≠ 15) : psn f b off i = f i := by
  unfold psn
  rw [pk_un h2, bec_o (by omega)]
theorem psn_mid {f : T1} {b i : Nat} {off : Int32} (h : 28 ≤ i) : psn f b off i = bec f b 1 (-6) off (-6) i := by
  unfold psn
  rw [pk_un (by omega)]
-- the numbers alike
theorem Sc_hr {sc : T2} {f : T1} (h : Sc sc f) : Sc (hc0 sc) (hr0 f) := by
  obtain ⟨⟨a0, a1, a2, a3, a4, a5, a6, a7⟩, ⟨d0, d1, d2, d3, d4, d5, d6⟩, ⟨t1, t2, t3, t4, t5, t6, t7, t8, t9⟩⟩ := h
  simp [Sc, hc0, hr0, u2, upd, *]
theorem Sc_bgn {sc : T2} {f : T1} {v1 v2 : Int32} (h : Sc sc f) : Sc (u2 sc 15 (upd (upd (sc 15) 2 v1) 6 v2)) (upd (upd f 11 v1) 25 v2) := by
  obtain ⟨⟨a0, a1, a2, a3, a4, a5, a6, a7⟩, ⟨d0, d1, d2, d3, d4, d5, d6⟩, ⟨t1, t2, t3, t4, t5, t6, t7, t8, t9⟩⟩ := h
  simp [Sc, u2, upd, *]
theorem Sc_tkn {sc : T2} {f : T1} {p x ld so s z : Int32} (h : Sc sc f) : Sc (u2 (u2 sc 15 (upd (upd (upd (upd (sc 15) 1 p) 2 x) 5 0) 6 ld)) 16 (upd (upd (upd (sc 16) 8 (sc 16 8 + so)) 7 (sc 16 7 + s)) 6 (sc 16 6 + z))) (upd (upd (upd (upd (upd (upd (upd f 10 p) 11 x) 21 0) 25 ld) 18 (f 18 + z)) 24 (f 24 + s)) 26 (f 26 + so)) := by
  obtain ⟨⟨a0, a1, a2, a3, a4, a5, a6, a7⟩, ⟨d0, d1, d2, d3, d4, d5, d6⟩, ⟨t1, t2, t3, t4, t5, t6, t7, t8, t9⟩⟩ := h
  simp [Sc, u2, upd, *]
theorem Sc_psn {sc : T2} {f : T1} (h : Sc sc f) : Sc (u2 sc 16 (upd (sc 16) 1 (sc 16 1 + 1))) (upd f 15 (f 15 + 1)) := by
  obtain ⟨⟨a0, a1, a2, a3, a4, a5, a6, a7⟩, ⟨d0, d1, d2, d3, d4, d5, d6⟩, ⟨t1, t2, t3, t4, t5, t6, t7, t8, t9⟩⟩ := h
  simp [Sc, u2, upd, *]
theorem r_begin {sc : T2} {f : T1} {bc bm n : Nat} {q x y : Int32} (h : Sc sc f) (hq : q = (4 : Int32) * f (32 + 6 * bm)) (hu : sc 4 bc = f (33 + 6 * bm)) : Sc (app (bgc sc bc n q) n x y) (enb (bgn f bm n) n) := by
  have hp := Sc_bgn (v1 := q + sc 15 1) (v2 := sc 4 bc - nI n) h
  have d1 : f 10 = sc 15 1 := h.2.1.2.1
  refine Sc_lo12 (Sc_cells hp ?_ ?_ ?_) (fun i hi h12 => ?_)
  · rw [app_o (by decide)]; unfold bgc; rw [noteU_o (by decide)]
  · rw [app_o (by decide)]; unfold bgc; rw [noteU_o (by decide)]
  · rw [app_o (by decide)]; unfold bgc; rw [noteU_o (by decide)]
  · rw [enb_o (by omega) (by omega)]
    unfold bgn
    rw [bec_o (by omega), ← hq, d1, ← hu]
    exact upd_c (upd_c (stk_o (by omega) h12))
theorem r_tkp {sc : T2} {f : T1} {off : Int32} (h : Sc sc f) (hN : Num f) (h1 : -500000 ≤ off.toInt) (h2 : off.toInt ≤ 500000) : tkcp sc off = tkp f off := by
  have a0 : f 0 = sc 1 0 := h.1.1
  have a3 : f 3 = sc 1 3 := h.1.2.2.2.1
  have d1 : f 10 = sc 15 1 := h.2.1.2.1
  have hB := hN.1.1
  unfold tkcp tkp
  rw [← a0, ← a3, ← d1, (ia_off h1 h2 hN.1.2.2.2.1.1 hN.1.2.2.2.1.2).1]
  refine ia_clamp (ia_le.mpr ?_)
  rw [ia_mul (by rw [ia_2]; omega) (by rw [ia_2]; omega), ia_mul (by rw [ia_8]; omega) (by rw [ia_8]; omega), ia_2, ia_8]
  omega
theorem r_tkg {sc : T2} {f : T1} {off : Int32} (h : Sc sc f) (hN : Num f) : tkcg sc off = tkg f off := by
  have a4 : f 4 = sc 1 4 := h.1.2.2.2.2.1
  have d1 : f 10 = sc 15 1 := h.2.1.2.1
  have hp := nm_per hN
  have h4 := hN.1.2.2.2.2.1
  unfold tkcg tkg
  rw [← a4, ← d1, (ia_half (p := f 10) (w := f 4) (by omega) (by omega) h4.1 (by omega)).1, ia_size off]
  rfl
theorem r_tkn {sc : T2} {f : T1} {bc bm n : Nat} {off : Int32} (h : Sc sc f) (hN : Num f) (h1 : -500000 ≤ off.toInt) (h2 : off.toInt ≤ 500000) (hu : sc 4 bc = f (33 + 6 * bm)) : Sc (tkcn sc bc n off) (tkn f bm n off) := by
  have a2 : f 2 = sc 1 2 := h.1.2.2.1
  have d2 : f 11 = sc 15 2 := h.2.1.2.2.1
  have d6 : f 25 = sc 15 6 := h.2.1.2.2.2.2.2.2
  have es : tkcs sc bc n = tks f bm n := by
    unfold tkcs tks
    rw [hu, d6]
  have hp := Sc_tkn (p := tkp f off) (x := f 11 + (P_X10_part (off * f 2) 16 + tkp f off)) (ld := f (33 + 6 * bm) - nI n) (so := P_X10_size off) (s := tks f bm n) (z := if tks f bm n = 0 then 0 else 1) h
  refine Sc_lo12 (Sc_cells hp ?_ ?_ ?_) (fun i hi h12 => ?_)
  · unfold tkcn; rw [noteU_o (by decide), u2_ne (by decide), u2_ne (by decide), u2_ne (by decide), u2_ne (by decide)]
  · unfold tkcn; rw [noteU_o (by decide), u2_ne (by decide), u2_at, u2_ne (by decide), u2_at, r_tkp h hN h1 h2, ← a2, ← d2, (ia_off h1 h2 hN.1.2.2.1.1 hN.1.2.2.1.2).1, hu]
  · unfold tkcn; rw [noteU_o (by decide), u2_at, u2_at, es, ia_size off]; rfl
  · unfold tkn
    rw [bec_o (by omega)]
    exact upd_c (upd_c (upd_c (upd_c (upd_c (upd_c (upd_c (stk_o (by omega) h12)))))))
theorem r_psn {sc : T2} {f : T1} {bc bm : Nat} {off : Int32} (h : Sc sc f) : Sc (psc sc bc off) (psn f bm off) := by
  have hp := Sc_psn h
  refine Sc_lo12 (Sc_cells hp ?_ ?_ ?_) (fun i hi h12 => ?_)
  · unfold psc; rw [noteU_o (by decide)]
  · unfold psc; rw [noteU_o (by decide)]
  · unfold psc; rw [noteU_o (by decide)]
  · unfold psn
    exact upd_c (bec_o (by omega))
end HR1
