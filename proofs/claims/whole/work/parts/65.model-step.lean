/-! what one thing that happens does to the model's row -/
section MS1
theorem u2_at (σ : T2) (c : Nat) (f : T1) : u2 σ c f c = f := by simp [u2]
theorem u2_ne {σ : T2} {c j : Nat} {f : T1} (h : j ≠ c) : u2 σ c f j = σ j := by simp [u2, h]
theorem u2_self (σ : T2) (c : Nat) : u2 σ c (σ c) = σ := by
  funext j
  unfold u2
  split
  · rename_i h; rw [h]
  · rfl
/-- the row of a beat that has become something -/
def bec (f : T1) (b : Nat) (w bl off sl : Int32) : T1 := upd (upd (upd (upd f (34 + 6 * b) w) (35 + 6 * b) bl) (36 + 6 * b) off) (37 + 6 * b) sl
def stk (f : T1) (n : Nat) (x y : Int32) : T1 := upd (upd (upd f (416 + 4 * (n % 64)) x) (417 + 4 * (n % 64)) y) 12 (nI (n + 1))
def enb (f : T1) (n : Nat) : T1 := upd (upd f (418 + 4 * (n % 64)) (f 10)) (419 + 4 * (n % 64)) (f 9)
theorem bec_o {f : T1} {b i : Nat} {w bl off sl : Int32} (h : i < 34 + 6 * b ∨ 37 + 6 * b < i) : bec f b w bl off sl i = f i := by
  unfold bec
  rw [pk_un (by omega), pk_un (by omega), pk_un (by omega), pk_un (by omega)]
theorem bec_0 {f : T1} {b : Nat} {w bl off sl : Int32} : bec f b w bl off sl (34 + 6 * b) = w := by
  unfold bec
  rw [pk_un (by omega), pk_un (by omega), pk_un (by omega), pk_us]
theorem bec_1 {f : T1} {b : Nat} {w bl off sl : Int32} : bec f b w bl off sl (35 + 6 * b) = bl := by
  unfold bec
  rw [pk_un (by omega), pk_un (by omega), pk_us]
theorem bec_2 {f : T1} {b : Nat} {w bl off sl : Int32} : bec f b w bl off sl (36 + 6 * b) = off := by
  unfold bec
  rw [pk_un (by omega), pk_us]
theorem bec_3 {f : T1} {b : Nat} {w bl off sl : Int32} : bec f b w bl off sl (37 + 6 * b) = sl := by
  unfold bec
  rw [pk_us]
theorem stk_o {f : T1} {n i : Nat} {x y : Int32} (h : i < 416) (h2 : i ≠ 12) : stk f n x y i = f i := by
  unfold stk
  rw [pk_un h2, pk_un (by omega), pk_un (by omega)]
theorem stk_12 {f : T1} {n : Nat} {x y : Int32} : stk f n x y 12 = nI (n + 1) := by
  unfold stk
  rw [pk_us]
theorem stk_0 {f : T1} {n : Nat} {x y : Int32} : stk f n x y (416 + 4 * (n % 64)) = x := by
  unfold stk
  rw [pk_un (by omega), pk_un (by omega), pk_us]
theorem stk_1 {f : T1} {n : Nat} {x y : Int32} : stk f n x y (417 + 4 * (n % 64)) = y := by
  unfold stk
  rw [pk_un (by omega), pk_us]
theorem stk_n {f : T1} {n i : Nat} {x y : Int32} (h : i ≠ 12) (h0 : i ≠ 416 + 4 * (n % 64)) (h1 : i ≠ 417 + 4 * (n % 64)) : stk f n x y i = f i := by
  unfold stk
  rw [pk_un h, pk_un h1, pk_un h0]
theorem enb_o {f : T1} {n i : Nat} (h0 : i ≠ 418 + 4 * (n % 64)) (h1 : i ≠ 419 + 4 * (n % 64)) : enb f n i = f i := by
  unfold enb
  rw [pk_un h1, pk_un h0]
theorem enb_2 {f : T1} {n : Nat} : enb f n (418 + 4 * (n % 64)) = f 10 := by
  unfold enb
  rw [pk_un (by omega), pk_us]
theorem enb_3 {f : T1} {n : Nat} : enb f n (419 + 4 * (n % 64)) = f 9 := by
  unfold enb
  rw [pk_us]
theorem ms_ix {b k : Nat} (h : b < 100) (hk : k < 100) : (32 : Int32) + (6 : Int32) * nI b + nI k = nI (32 + 6 * b + k) := by
  rw [show (32 : Int32) = nI 32 from rfl, show (6 : Int32) = nI 6 from rfl, pk_mul, nI_add, nI_add]
theorem ms_ofB {μ : T2} {b k : Nat} {ki : Int32} (hk : ki = nI k) (h : b < 64) (h6 : k < 6) : P_X10_ofB μ (nI b) ki = μ 1 (32 + 6 * b + k) := by
  unfold P_X10_ofB P_X10_ofB_b0
  rw [hk, ms_ix (by omega) (by omega), nI_clamp (by omega)]
theorem ms_ofBs {μ : T2} {b k : Nat} {ki : Int32} (hk : ki = nI k) (h : b < 64) (h6 : k < 6) : S_X10_ofB μ (nI b) ki := by
  unfold S_X10_ofB S_X10_ofB_b0
  rw [hk, ms_ix (by omega) (by omega)]
  exact ⟨vp_in_nI (by omega) (by omega), trivial⟩
theorem ms_lay {μ : T2} {b k : Nat} {ki v : Int32} (hk : ki = nI k) (h : b < 64) (h6 : k < 6) : P_X10_layB μ (nI b) ki v = u2 μ 1 (upd (μ 1) (32 + 6 * b + k) v) := by
  unfold P_X10_layB P_X10_layB_b0
  rw [hk, ms_ix (by omega) (by omega), nI_clamp (by omega)]
theorem ms_lays {μ : T2} {b k : Nat} {ki v : Int32} (hk : ki = nI k) (h : b < 64) (h6 : k < 6) : S_X10_layB μ (nI b) ki v := by
  unfold S_X10_layB S_X10_layB_b0
  rw [hk, ms_ix (by omega) (by omega)]
  exact ⟨vp_in_nI (by omega) (by omega), trivial⟩
theorem ms_become {μ : T2} {b : Nat} {w bl off sl : Int32} (h : b < 64) : P_X10_become μ (nI b) w bl off sl = u2 μ 1 (bec (μ 1) b w bl off sl) := by
  unfold P_X10_become P_X10_become_b0 P_X10_become_b7c P_X10_become_b14c P_X10_become_b22c
  rw [ms_lay (ki := 2) (k := 2) rfl h (by decide), ms_lay (ki := 3) (k := 3) rfl h (by decide), ms_lay (ki := 4) (k := 4) rfl h (by decide), ms_lay (ki := 5) (k := 5) rfl h (by decide)]
  simp only [u2_at, u2_same]
  unfold bec
  rw [show 32 + 6 * b + 2 = 34 + 6 * b by omega, show 32 + 6 * b + 3 = 35 + 6 * b by omega, show 32 + 6 * b + 4 = 36 + 6 * b by omega, show 32 + 6 * b + 5 = 37 + 6 * b by omega]
theorem ms_becomes {μ : T2} {b : Nat} {w bl off sl : Int32} (h : b < 64) : S_X10_become μ (nI b) w bl off sl := by
  unfold S_X10_become S_X10_become_b0 S_X10_become_b7c S_X10_become_b14c S_X10_become_b22c
  exact ⟨ms_lays (ki := 2) (k := 2) rfl h (by decide), ms_lays (ki := 3) (k := 3) rfl h (by decide), ms_lays (ki := 4) (k := 4) rfl h (by decide), ms_lays (ki := 5) (k := 5) rfl h (by decide), trivial⟩
theorem ms_strike {μ : T2} {x y : Int32} {n : Nat} (hn : n < 1048576) (e : μ 1 12 = nI n) : P_X10_strike μ x y = (nI n, u2 μ 1 (stk (μ 1) n x y)) := x_strike hn e
theorem ms_endBlow {μ : T2} {n : Nat} (hn : n < 1048576) (e : μ 1 12 = nI (n + 1)) : P_X10_endBlow μ = u2 μ 1 (enb (μ 1) n) := x_endBlow hn e
/-- behind A -/
def bgn (f : T1) (b n : Nat) : T1 := bec (upd (upd (stk f n ((4 : Int32) * f (32 + 6 * b)) (nI b)) 11 ((4 : Int32) * f (32 + 6 * b) + f 10)) 25 (f (33 + 6 * b) - nI n)) b 3 (nI n) (-6) 0
theorem ms_begin {μ : T2} {b n : Nat} (hb : b < 64) (hn : n < 1048576) (e : μ 1 12 = nI n) : P_X10_begin μ (nI b) = u2 μ 1 (enb (bgn (μ 1) b n) n) := by
  unfold P_X10_begin P_X10_begin_b0
  rw [ms_ofB (ki := 0) (k := 0) rfl hb (by decide), ms_strike hn e]
  dsimp only
  unfold P_X10_begin_b13c P_X10_begin_b62c
  rw [ms_ofB (ki := 0) (k := 0) rfl hb (by decide), ms_ofB (ki := 1) (k := 1) rfl hb (by decide)]
  simp only [u2_at, u2_same]
  rw [ms_become hb]
  simp only [u2_at, u2_same]
  have e0 : stk (μ 1) n ((4 : Int32) * μ 1 (32 + 6 * b + 0)) (nI b) (32 + 6 * b + 0) = μ 1 (32 + 6 * b) := stk_o (by omega) (by omega)
  have e1 : upd (stk (μ 1) n ((4 : Int32) * μ 1 (32 + 6 * b + 0)) (nI b)) 11 ((4 : Int32) * μ 1 (32 + 6 * b) + stk (μ 1) n ((4 : Int32) * μ 1 (32 + 6 * b + 0)) (nI b) 10) (32 + 6 * b + 1) = μ 1 (33 + 6 * b) := by
    rw [pk_un (by omega), stk_o (by omega) (by omega), show 32 + 6 * b + 1 = 33 + 6 * b by omega]
  have e2 : stk (μ 1) n ((4 : Int32) * μ 1 (32 + 6 * b + 0)) (nI b) 10 = μ 1 10 := stk_o (by decide) (by decide)
  rw [e0, e1, e2]
  rw [show bec (upd (upd (stk (μ 1) n ((4 : Int32) * μ 1 (32 + 6 * b + 0)) (nI b)) 11 ((4 : Int32) * μ 1 (32 + 6 * b) + μ 1 10)) 25 (μ 1 (33 + 6 * b) - nI n)) b 3 (nI n) (-6) 0 = bgn (μ 1) b n from rfl]
  rw [ms_endBlow hn (n := n)]
  · simp only [u2_at, u2_same]
  · rw [u2_at]
    unfold bgn
    rw [bec_o (by omega), pk_un (by decide), pk_un (by decide), stk_12]
theorem ms_begins {μ : T2} {b n : Nat} (hb : b < 64) (hn : n < 1048576) (e : μ 1 12 = nI n) : S_X10_begin μ (nI b) := by
  unfold S_X10_begin S_X10_begin_b0
  refine ⟨ms_ofBs (ki := 0) (k := 0) rfl hb (by decide), s_strike hn e, ?_⟩
  rw [ms_strike hn e]
  dsimp only
  unfold S_X10_begin_b13c S_X10_begin_b62c
  refine ⟨ms_ofBs (ki := 0) (k := 0) rfl hb (by decide), ms_ofBs (ki := 1) (k := 1) rfl hb (by decide), ms_becomes hb, s_endBlow (n := n) hn ?_, trivial⟩
  rw [ms_become hb, u2_at, bec_o (by omega), u2_at, pk_un (by decide), pk_un (by decide), u2_at, stk_12]
/-- behind B.2, but for what is judged -/
noncomputable def tkp (f : T1) (off : Int32) : Int32 := if (2 : Int32) * f 0 ≤ f 10 + P_X10_part (off * f 3) 16 then (if f 10 + P_X10_part (off * f 3) 16 ≤ (8 : Int32) * f 0 then f 10 + P_X10_part (off * f 3) 16 else (8 : Int32) * f 0) else (2 : Int32) * f 0
noncomputable def tks (f : T1) (b n : Nat) : Int32 := f (33 + 6 * b) - nI n - f 25
noncomputable def tkn (f : T1) (b n : Nat) (off : Int32) : T1 := bec (upd (upd (upd (upd (upd (upd (upd (stk f n (f 11) (nI b)) 10 (tkp f off)) 11 (f 11 + (P_X10_part (off * f 2) 16 + tkp f off))) 21 0) 25 (f (33 + 6 * b) - nI n)) 18 (f 18 + (if tks f b n = 0 then 0 else 1))) 24 (f 24 + tks f b n)) 26 (f 26 + P_X10_size off)) b 2 (nI n) off (tks f b n)
noncomputable def tkg (f : T1) (off : Int32) : Int32 := if (f 10 * f 4) / 100 < P_X10_size off then 0 else 1
theorem ms_take186 {μ : T2} {b n : Nat} {off p t0 sl : Int32} (hb : b < 64) : P_X10_takeBeat_b186 μ (nI b) off (nI n) p sl t0 (μ 1 18) = P_X10_endBlow (P_X10_judge (u2 μ 1 (bec (upd (upd (upd (μ 1) 18 (μ 1 18 + t0)) 24 (μ 1 24 + sl)) 26 (μ 1 26 + P_X10_size off)) b 2 (nI n) off sl)) (if (p * μ 1 4) / 100 < P_X10_size off then 0 else 1) 1) := by
  unfold P_X10_takeBeat_b186
  rw [ms_become hb]
  simp only [u2_at, u2_same]
  unfold P_X10_takeBeat_b224c P_X10_takeBeat_b249 P_X10_takeBeat_b253c
  have e4 : u2 μ 1 (bec (upd (upd (upd (μ 1) 18 (μ 1 18 + t0)) 24 (μ 1 24 + sl)) 26 (μ 1 26 + P_X10_size off)) b 2 (nI n) off sl) 1 4 = μ 1 4 := by
    rw [u2_at, bec_o (by omega), pk_un (by decide), pk_un (by decide), pk_un (by decide)]
  rw [e4]
  by_cases c : (p * μ 1 4) / 100 < P_X10_size off
  · rw [if_pos c, if_pos c]
  · rw [if_neg c, if_neg c]
theorem ms_take40 {μ : T2} {v1 v2 v3 v4 v5 : Int32} : P_X10_takeBeat_b40n μ v1 v2 v3 v4 v5 = P_X10_takeBeat_b92 μ v1 v2 v3 v4 (if (2 : Int32) * μ 1 0 ≤ v5 then (if v5 ≤ (8 : Int32) * μ 1 0 then v5 else (8 : Int32) * μ 1 0) else (2 : Int32) * μ 1 0) := by
  unfold P_X10_takeBeat_b40n
  by_cases c : (2 : Int32) * μ 1 0 ≤ v5
  · rw [if_pos c, if_pos c]
    by_cases c2 : v5 ≤ (8 : Int32) * μ 1 0
    · rw [if_pos c2, if_pos c2]
    · rw [if_neg c2, if_neg c2]
  · rw [if_neg c, if_neg c]
theorem ms_take {μ : T2} {b n : Nat} {off : Int32} (hb : b < 64) (hn : n < 1048576) (e : μ 1 12 = nI n) : P_X10_takeBeat μ (nI b) off = P_X10_endBlow (P_X10_judge (u2 μ 1 (tkn (μ 1) b n off)) (tkg (μ 1) off) 1) := by
  unfold P_X10_takeBeat P_X10_takeBeat_b0
  rw [ms_strike hn e]
  dsimp only
  unfold P_X10_takeBeat_b12c
  rw [ms_take40]
  have s0 : ∀ i, i < 12 → stk (μ 1) n (μ 1 11) (nI b) i = μ 1 i := fun i hi => stk_o (by omega) (by omega)
  have ep : (if (2 : Int32) * u2 μ 1 (stk (μ 1) n (μ 1 11) (nI b)) 1 0 ≤ u2 μ 1 (stk (μ 1) n (μ 1 11) (nI b)) 1 10 + P_X10_part (off * u2 μ 1 (stk (μ 1) n (μ 1 11) (nI b)) 1 3) 16 then (if u2 μ 1 (stk (μ 1) n (μ 1 11) (nI b)) 1 10 + P_X10_part (off * u2 μ 1 (stk (μ 1) n (μ 1 11) (nI b)) 1 3) 16 ≤ (8 : Int32) * u2 μ 1 (stk (μ 1) n (μ 1 11) (nI b)) 1 0 then u2 μ 1 (stk (μ 1) n (μ 1 11) (nI b)) 1 10 + P_X10_part (off * u2 μ 1 (stk (μ 1) n (μ 1 11) (nI b)) 1 3) 16 else (8 : Int32) * u2 μ 1 (stk (μ 1) n (μ 1 11) (nI b)) 1 0) else (2 : Int32) * u2 μ 1 (stk (μ 1) n (μ 1 11) (nI b)) 1 0) = tkp (μ 1) off := by
    simp only [u2_at]
    rw [s0 0 (by decide), s0 10 (by decide), s0 3 (by decide)]
    rfl
  rw [ep]
  unfold P_X10_takeBeat_b92
  simp only [u2_at, u2_same]
  rw [ms_ofB (ki := 1) (k := 1) rfl hb (by decide), u2_at]
  rw [s0 11 (by decide), s0 2 (by decide), s0 10 (by decide)]
  have e1 : upd (upd (upd (stk (μ 1) n (μ 1 11) (nI b)) 10 (tkp (μ 1) off)) 11 (μ 1 11 + (P_X10_part (off * μ 1 2) 16 + tkp (μ 1) off))) 21 0 (32 + 6 * b + 1) = μ 1 (33 + 6 * b) := by
    rw [pk_un (by omega), pk_un (by omega), pk_un (by omega), stk_o (by omega) (by omega), show 32 + 6 * b + 1 = 33 + 6 * b by omega]
  rw [e1]
  unfold P_X10_takeBeat_b147n
  simp only [u2_at, u2_same]
  have e25 : upd (upd (upd (stk (μ 1) n (μ 1 11) (nI b)) 10 (tkp (μ 1) off)) 11 (μ 1 11 + (P_X10_part (off * μ 1 2) 16 + tkp (μ 1) off))) 21 0 25 = μ 1 25 := by
    rw [pk_un (by omega), pk_un (by omega), pk_un (by omega), stk_o (by omega) (by omega)]
  rw [e25]
  generalize hg : upd (upd (upd (upd (stk (μ 1) n (μ 1 11) (nI b)) 10 (tkp (μ 1) off)) 11 (μ 1 11 + (P_X10_part (off * μ 1 2) 16 + tkp (μ 1) off))) 21 0) 25 (μ 1 (33 + 6 * b) - nI n) = g
  have e18 : upd (upd (upd (stk (μ 1) n (μ 1 11) (nI b)) 10 (tkp (μ 1) off)) 11 (μ 1 11 + (P_X10_part (off * μ 1 2) 16 + tkp (μ 1) off))) 21 0 18 = u2 μ 1 g 1 18 := by
    rw [u2_at, ← hg, pk_un (j := 18) (k := 25) (by decide)]
  have g18 : g 18 = μ 1 18 := by
    rw [← hg, pk_un (by decide), pk_un (by omega), pk_un (by omega), pk_un (by omega), stk_o (by omega) (by omega)]
  have g24 : g 24 = μ 1 24 := by
    rw [← hg, pk_un (by decide), pk_un (by omega), pk_un (by omega), pk_un (by omega), stk_o (by omega) (by omega)]
  have g26 : g 26 = μ 1 26 := by
    rw [← hg, pk_un (by decide), pk_un (by omega), pk_un (by omega), pk_un (by omega), stk_o (by omega) (by omega)]
  have g4 : g 4 = μ 1 4 := by
    rw [← hg, pk_un (by decide), pk_un (by omega), pk_un (by omega), pk_un (by omega), stk_o (by omega) (by omega)]
  rw [e18, ms_take186 hb, ms_take186 hb]
  simp only [u2_at, u2_same]
  rw [g18, g24, g26, g4]
  unfold tkn tkg
  rw [hg]
  have es : μ 1 (33 + 6 * b) - nI n - μ 1 25 = tks (μ 1) b n := rfl
  rw [es]
  by_cases c : tks (μ 1) b n = 0
  · rw [if_pos c, if_pos c]
  · rw [if_neg c, if_neg c]
end MS1
