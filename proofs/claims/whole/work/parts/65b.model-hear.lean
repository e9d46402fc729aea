/-! a beat that the model hears -/
section MS2
theorem ms_parts (x : Int32) : S_X10_part x 16 := ⟨fun _ => ⟨by decide, trivial⟩, fun _ => ⟨by decide, trivial⟩⟩
theorem ms_sizes (x : Int32) : S_X10_size x := ⟨fun _ => trivial, fun _ => trivial⟩
theorem ms_take186s {μ : T2} {b n : Nat} {off p t0 t1 sl bl : Int32} (hb : b < 64) (hn : n < 1048576) (e : μ 1 12 = nI (n + 1)) : S_X10_takeBeat_b186 μ (nI b) off bl p sl t0 t1 := by
  unfold S_X10_takeBeat_b186
  rw [ms_become hb]
  refine ⟨ms_sizes _, ms_becomes hb, ?_⟩
  unfold S_X10_takeBeat_b224c S_X10_takeBeat_b249 S_X10_takeBeat_b253c
  have e12 : ∀ g t : Int32, P_X10_judge (u2 (u2 μ 1 (upd (upd (upd (μ 1) 18 (t1 + t0)) 24 (μ 1 24 + sl)) 26 (μ 1 26 + P_X10_size off))) 1 (bec (u2 μ 1 (upd (upd (upd (μ 1) 18 (t1 + t0)) 24 (μ 1 24 + sl)) 26 (μ 1 26 + P_X10_size off)) 1) b 2 bl off sl)) g t 1 12 = nI (n + 1) := fun g t => by
    rw [f_judge10i (by decide) (by decide) (by decide) (by decide) (by decide), u2_at, bec_o (by omega), u2_at, pk_un (by decide), pk_un (by decide), pk_un (by decide), e]
  exact ⟨ms_sizes _, fun _ => ⟨s_judge10 _ _ _, s_endBlow hn (e12 _ _), trivial⟩, fun _ => ⟨s_judge10 _ _ _, s_endBlow hn (e12 _ _), trivial⟩⟩
theorem ms_takes {μ : T2} {b n : Nat} {off : Int32} (hb : b < 64) (hn : n < 1048576) (e : μ 1 12 = nI n) : S_X10_takeBeat μ (nI b) off := by
  unfold S_X10_takeBeat S_X10_takeBeat_b0
  refine ⟨s_strike hn e, ?_⟩
  rw [ms_strike hn e]
  dsimp only
  unfold S_X10_takeBeat_b12c
  refine ⟨ms_parts _, ?_⟩
  have h92 : ∀ p t : Int32, S_X10_takeBeat_b92 (u2 μ 1 (stk (μ 1) n (μ 1 11) (nI b))) (nI b) off (nI n) p t := fun p t => by
    unfold S_X10_takeBeat_b92
    refine ⟨ms_parts _, ms_ofBs (ki := 1) (k := 1) rfl hb (by decide), ?_⟩
    unfold S_X10_takeBeat_b147n
    refine ⟨fun _ => ms_take186s hb hn ?_, fun _ => ms_take186s hb hn ?_⟩ <;>
    · rw [u2_at, pk_un (by decide), u2_at, pk_un (by decide), pk_un (by decide), pk_un (by decide), u2_at, stk_12]
  unfold S_X10_takeBeat_b40n
  exact ⟨fun _ => ⟨fun _ => h92 _ _, fun _ => h92 _ _⟩, fun _ => h92 _ _⟩
def hr0 (f : T1) : T1 := upd (upd f 14 (f 14 + 1)) 27 (f 27 + (if f 9 = 1 then 1 else 0))
def psn (f : T1) (b : Nat) (off : Int32) : T1 := upd (bec f b 1 (-6) off (-6)) 15 (f 15 + 1)
def hlf (f : T1) : Int32 := (f 10 * f 1) / 100
theorem hr0_o {f : T1} {i : Nat} (h : i ≠ 14) (h2 : i ≠ 27) : hr0 f i = f i := by
  unfold hr0
  rw [pk_un h2, pk_un h]
theorem ms_hear52 {μ : T2} {b : Nat} {t0 t1 : Int32} (hb : b < 64) : P_X10_hear_b52 μ (nI b) t0 t1 = (if 0 ≤ μ 1 11 then (if -(hlf (μ 1)) ≤ (4 : Int32) * μ 1 (32 + 6 * b) - μ 1 11 then P_X10_takeBeat (u2 μ 1 (upd (μ 1) 27 (t1 + t0))) (nI b) ((4 : Int32) * μ 1 (32 + 6 * b) - μ 1 11) else P_X10_judge (u2 μ 1 (psn (upd (μ 1) 27 (t1 + t0)) b ((4 : Int32) * μ 1 (32 + 6 * b) - μ 1 11))) 0 0) else P_X10_begin (u2 μ 1 (upd (μ 1) 27 (t1 + t0))) (nI b)) := by
  unfold P_X10_hear_b52
  rw [ms_ofB (ki := 0) (k := 0) rfl hb (by decide), u2_at, pk_un (j := 32 + 6 * b + 0) (by omega), show 32 + 6 * b + 0 = 32 + 6 * b by omega]
  by_cases c : 0 ≤ μ 1 11
  · rw [if_pos c, if_pos c]
    unfold P_X10_hear_b87n P_X10_halfWindow P_X10_halfWindow_b0 P_X10_hear_b107c P_X10_hear_b124c
    rw [ms_become hb]
    simp only [u2_at, u2_same]
    rw [pk_un (j := 10) (k := 27) (by decide), pk_un (j := 1) (k := 27) (by decide)]
    have e15 : bec (upd (μ 1) 27 (t1 + t0)) b 1 (-6) ((4 : Int32) * μ 1 (32 + 6 * b) - μ 1 11) (-6) 15 = upd (μ 1) 27 (t1 + t0) 15 := bec_o (by omega)
    rw [e15]
    rfl
  · rw [if_neg c, if_neg c]
theorem ms_hear {μ : T2} {b : Nat} (hb : b < 64) (e : μ 1 14 = nI b) (hl : ¬ μ 1 14 = μ 0 7) : P_X10_hear μ = (if 0 ≤ μ 1 11 then (if -(hlf (μ 1)) ≤ (4 : Int32) * μ 1 (32 + 6 * b) - μ 1 11 then P_X10_takeBeat (u2 μ 1 (hr0 (μ 1))) (nI b) ((4 : Int32) * μ 1 (32 + 6 * b) - μ 1 11) else P_X10_judge (u2 μ 1 (psn (hr0 (μ 1)) b ((4 : Int32) * μ 1 (32 + 6 * b) - μ 1 11))) 0 0) else P_X10_begin (u2 μ 1 (hr0 (μ 1))) (nI b)) := by
  unfold P_X10_hear P_X10_hear_b0
  rw [if_neg hl]
  have u : ∀ i, i ≠ 14 → upd (μ 1) 14 (nI b + 1) i = μ 1 i := fun i h => pk_un h
  have e2 : hlf (upd (μ 1) 14 (nI b + 1)) = hlf (μ 1) := by
    unfold hlf
    rw [u 10 (by decide), u 1 (by decide)]
  by_cases c : μ 1 9 = 1
  · rw [if_pos c, e, ms_hear52 hb]
    simp only [u2_at, u2_same]
    rw [e2, u 11 (by decide), u (32 + 6 * b) (by omega)]
    have e3 : upd (upd (μ 1) 14 (nI b + 1)) 27 (μ 1 27 + 1) = hr0 (μ 1) := by
      unfold hr0
      rw [if_pos c, e]
    rw [e3]
  · rw [if_neg c, e, ms_hear52 hb]
    simp only [u2_at, u2_same]
    rw [e2, u 11 (by decide), u (32 + 6 * b) (by omega)]
    have e3 : upd (upd (μ 1) 14 (nI b + 1)) 27 (μ 1 27 + 0) = hr0 (μ 1) := by
      unfold hr0
      rw [if_neg c, e]
    rw [e3]
theorem ms_hears {μ : T2} {b n : Nat} (hb : b < 64) (hn : n < 1048576) (e : μ 1 14 = nI b) (e12 : μ 1 12 = nI n) : S_X10_hear μ := by
  unfold S_X10_hear S_X10_hear_b0
  refine ⟨fun _ => trivial, fun _ => ?_⟩
  have h52 : ∀ t0 t1 : Int32, S_X10_hear_b52 (u2 μ 1 (upd (μ 1) 14 (μ 1 14 + 1))) (μ 1 14) t0 t1 := fun t0 t1 => by
    rw [e]
    unfold S_X10_hear_b52
    have e12' : u2 (u2 μ 1 (upd (μ 1) 14 (nI b + 1))) 1 (upd (u2 μ 1 (upd (μ 1) 14 (nI b + 1)) 1) 27 (t1 + t0)) 1 12 = nI n := by
      rw [u2_at, pk_un (by decide), u2_at, pk_un (by decide), e12]
    refine ⟨fun _ => ⟨ms_ofBs (ki := 0) (k := 0) rfl hb (by decide), ?_⟩, fun _ => ⟨ms_begins hb hn e12', trivial⟩⟩
    unfold S_X10_hear_b87n
    refine ⟨trivial, fun _ => ⟨ms_takes hb hn e12', trivial⟩, fun _ => ⟨ms_becomes hb, ?_⟩⟩
    unfold S_X10_hear_b107c S_X10_hear_b124c
    exact ⟨s_judge10 _ _ _, trivial⟩
  exact ⟨fun _ => h52 _ _, fun _ => h52 _ _⟩
theorem f_hear10 {μ : T2} {b n j : Nat} (hb : b < 64) (hn : n < 1048576) (e : μ 1 14 = nI b) (e12 : μ 1 12 = nI n) (hj : j ≠ 1) : P_X10_hear μ j = μ j := by
  by_cases hl : μ 1 14 = μ 0 7
  · unfold P_X10_hear P_X10_hear_b0
    rw [if_pos hl, u2_ne hj]
  · have e12' : hr0 (μ 1) 12 = nI n := by rw [hr0_o (by decide) (by decide), e12]
    rw [ms_hear hb e hl]
    split
    · split
      · rw [ms_take hb hn (by rw [u2_at]; exact e12')]
        rw [x_endBlow hn]
        · rw [u2_ne hj, f_judge10 hj, u2_ne hj, u2_ne hj]
        · rw [f_judge10i (by decide) (by decide) (by decide) (by decide) (by decide), u2_at]
          unfold tkn
          rw [bec_o (by omega), pk_un (by decide), pk_un (by decide), pk_un (by decide), pk_un (by decide), pk_un (by decide), pk_un (by decide), pk_un (by decide), stk_12]
      · rw [f_judge10 hj, u2_ne hj]
    · rw [ms_begin hb hn (by rw [u2_at]; exact e12'), u2_ne hj, u2_ne hj]
end MS2
