/-! what one thing that happens does to the class's scene -/
section CS1
theorem sb_self (σ : T2) (o n : Nat) : sb σ o n (fun j => σ (o + j)) = σ := by
  funext j
  unfold sb
  split
  · rename_i h
    show σ (o + (j - o)) = σ j
    rw [show o + (j - o) = j by omega]
  · rfl
theorem sb_u2 {σ τ : T2} {o n c k : Nat} {f : T1} (h : c < n) (hk : o + c = k) : sb σ o n (u2 τ c f) = u2 (sb σ o n τ) k f := by
  funext j
  unfold sb u2
  by_cases h1 : o ≤ j ∧ j < o + n
  · rw [if_pos h1]
    by_cases h2 : j = k
    · rw [if_pos h2, if_pos (by omega)]
    · rw [if_neg h2, if_neg (by omega)]
      exact (if_pos h1).symm
  · rw [if_neg h1, if_neg (by omega)]
    exact (if_neg h1).symm
def noteU (σ : T2) (b : Nat) (w bl off sl : Int32) : T2 := u2 (u2 (u2 (u2 σ 6 (upd (σ 6) b w)) 7 (upd (σ 7) b bl)) 8 (upd (σ 8) b off)) 9 (upd (σ 9) b sl)
def app (τ : T2) (n : Nat) (x y : Int32) : T2 := u2 (u2 (u2 (u2 (u2 τ 11 (upd (τ 11) (n % 64) x)) 12 (upd (τ 12) (n % 64) y)) 13 (upd (τ 13) (n % 64) (τ 15 1))) 14 (upd (τ 14) (n % 64) (τ 15 0))) 10 (upd (τ 10) 4 (nI (n + 1)))
theorem cs_hasRow {b : Nat} (h : b < 64) : P_X2_hasRow (nI b) = 1 := by
  unfold P_X2_hasRow P_X2_hasRow_b0
  rw [if_neg (nI_pos (by omega)), if_neg (show ¬ (64 : Int32) ≤ nI b from nI_ge (a := b) (b := 64) (by omega) (by omega))]
theorem cs_note {σ : T2} {b : Nat} {w bl off sl : Int32} (h : b < 64) : sb σ 5 5 (P_X2_note (fun j => σ (5 + j)) (nI b) w bl off sl) = noteU σ b w bl off sl := by
  unfold P_X2_note P_X2_note_b0
  rw [cs_hasRow h, if_neg (by decide), nI_clamp (by omega)]
  rw [sb_u2 (k := 9) (by decide) rfl, sb_u2 (k := 8) (by decide) rfl, sb_u2 (k := 7) (by decide) rfl, sb_u2 (k := 6) (by decide) rfl, sb_self]
  rfl
theorem cs_append {τ : T2} {n : Nat} {x y : Int32} (hn : n < 1048576) (e : τ 10 4 = nI n) : sb τ 10 5 (P_X0_append (fun j => τ (10 + j)) x y (τ 15 1) (τ 15 0)) = app τ n x y := by
  unfold P_X0_append P_X0_append_b0
  have e' : (fun j => τ (10 + j)) 0 4 = nI n := e
  have er : (P_X0_rowOf (fun j => τ (10 + j)) (nI n)).toNatClampNeg = n % 64 := by
    unfold P_X0_rowOf P_X0_rowOf_b0
    exact x_row hn
  rw [e', er]
  rw [sb_u2 (k := 10) (by decide) rfl, sb_u2 (k := 14) (by decide) rfl, sb_u2 (k := 13) (by decide) rfl, sb_u2 (k := 12) (by decide) rfl, sb_u2 (k := 11) (by decide) rfl, sb_self, nI_1]
  rfl
theorem cs_has {σ : T2} {b m : Nat} (e : σ 0 2 = nI m) (h : b < m) (hm : m ≤ 64) : P_X5_has σ (nI b) = 1 := by
  unfold P_X5_has P_X5_has_b0
  rw [if_neg (nI_pos (by omega)), e, if_neg (nI_ge h (by omega)), if_neg (show ¬ (64 : Int32) ≤ nI b from nI_ge (a := b) (b := 64) (by omega) (by omega))]
theorem cs_timeOf {σ : T2} {b m : Nat} (e : σ 0 2 = nI m) (h : b < m) (hm : m ≤ 64) : P_X5_timeOf σ (nI b) = σ 1 b := by
  unfold P_X5_timeOf P_X5_timeOf_b0
  rw [cs_has e h hm, if_neg (by decide), nI_clamp (by omega)]
theorem cs_numberOf {σ : T2} {b m : Nat} (e : σ 0 2 = nI m) (h : b < m) (hm : m ≤ 64) : P_X5_numberOf σ (nI b) = σ 2 b := by
  unfold P_X5_numberOf P_X5_numberOf_b0
  rw [cs_has e h hm, if_neg (by decide), nI_clamp (by omega)]
/-- behind A -/
noncomputable def bgc (sc : T2) (b n : Nat) (q : Int32) : T2 := noteU (u2 sc 15 (upd (upd (sc 15) 2 (q + sc 15 1)) 6 (sc 4 b - nI n))) b 3 (nI n) (-6) 1000
theorem cs_strike {sc : T2} {b m n : Nat} {q : Int32} (e : sc 2 2 = nI m) (h : b < m) (hm : m ≤ 64) (hn : n < 1048576) (e10 : sc 10 4 = nI n) : P_X7_strikeWithBeat sc (nI b) q = app (bgc sc b n q) n q (nI b) := by
  unfold P_X7_strikeWithBeat P_X7_strikeWithBeat_b0
  rw [cs_numberOf (σ := fun j => u2 sc 15 (upd (sc 15) 2 (q + sc 15 1)) (2 + j)) (b := b) (m := m) e h hm]
  rw [cs_note (σ := u2 sc 15 (upd (upd (sc 15) 2 (q + sc 15 1)) 6 ((fun j => u2 sc 15 (upd (sc 15) 2 (q + sc 15 1)) (2 + j)) 2 b - sc 10 4))) (by omega : b < 64)]
  unfold P_X7_strikeWithBeat_b60c
  rw [e10]
  rw [show noteU (u2 sc 15 (upd (upd (sc 15) 2 (q + sc 15 1)) 6 ((fun j => u2 sc 15 (upd (sc 15) 2 (q + sc 15 1)) (2 + j)) 2 b - nI n))) b 3 (nI n) (-6) 1000 = bgc sc b n q from rfl]
  exact cs_append hn e10
/-- behind B.1, but for what is judged -/
noncomputable def psc (sc : T2) (b : Nat) (off : Int32) : T2 := noteU (u2 sc 16 (upd (sc 16) 1 (sc 16 1 + 1))) b 1 (-6) ((100000 : Int32) + off) (-6)
theorem cs_pass {sc : T2} {b : Nat} {off : Int32} (h : b < 64) : P_X7_passOver sc (nI b) off = P_X7_judge (psc sc b off) 0 := by
  unfold P_X7_passOver P_X7_passOver_b0 P_X7_passOver_b30c
  rw [cs_note (σ := u2 sc 16 (upd (sc 16) 1 (sc 16 1 + 1))) h]
  rfl
/-- behind B.2, but for what is judged -/
noncomputable def tkcp (sc : T2) (off : Int32) : Int32 := (if ((2 : Int32) * (sc 1 0)) < ((if (sc 15 1 + P_J9_floorDiv_7cf53 (off * sc 1 3) 16) < ((8 : Int32) * (sc 1 0)) then (sc 15 1 + P_J9_floorDiv_7cf53 (off * sc 1 3) 16) else ((8 : Int32) * (sc 1 0)))) then ((if (sc 15 1 + P_J9_floorDiv_7cf53 (off * sc 1 3) 16) < ((8 : Int32) * (sc 1 0)) then (sc 15 1 + P_J9_floorDiv_7cf53 (off * sc 1 3) 16) else ((8 : Int32) * (sc 1 0)))) else ((2 : Int32) * (sc 1 0)))
noncomputable def tkcs (sc : T2) (b n : Nat) : Int32 := sc 4 b - nI n - sc 15 6
def abz (v : Int32) : Int32 := if 0 ≤ v then v else 0 - v
noncomputable def tkcn (sc : T2) (b n : Nat) (off : Int32) : T2 := noteU (u2 (u2 sc 15 (upd (upd (upd (upd (sc 15) 1 (tkcp sc off)) 2 (sc 15 2 + (P_J9_floorDiv_7cf53 (off * sc 1 2) 16 + tkcp sc off))) 5 0) 6 (sc 4 b - nI n))) 16 (upd (upd (upd (sc 16) 8 (sc 16 8 + abz off)) 7 (sc 16 7 + tkcs sc b n)) 6 (sc 16 6 + (if tkcs sc b n = 0 then 0 else 1)))) b 2 (nI n) ((100000 : Int32) + off) ((1000 : Int32) + tkcs sc b n)
noncomputable def tkcg (sc : T2) (off : Int32) : Int32 := if P_J9_floorDiv_7cf53 (sc 15 1 * sc 1 4) 100 < abz off then 0 else 1
theorem cs_slip {σ : T2} {s : Int32} : sb σ 16 1 (P_X8_addSlip (fun j => σ (16 + j)) s) = u2 σ 16 (upd (upd (σ 16) 7 (σ 16 7 + s)) 6 (σ 16 6 + (if s = 0 then 0 else 1))) := by
  unfold P_X8_addSlip P_X8_addSlip_b0
  by_cases c : s = 0
  · rw [if_pos c, if_pos c, sb_u2 (k := 16) (by decide) rfl, sb_self]
    have e : upd (upd (σ 16) 7 (σ 16 7 + s)) 6 (σ 16 6 + 0) = upd (σ 16) 7 (σ 16 7 + s) := by
      funext i
      by_cases h : i = 6
      · rw [h, pk_us, pk_un (by decide), Int32.add_zero]
      · rw [pk_un h]
    rw [e]
  · rw [if_neg c, if_neg c, sb_u2 (k := 16) (by decide) rfl, sb_self]
theorem cs_take118 {σ : T2} {b n : Nat} {off aw g sl : Int32} (h : b < 64) (hn : n < 1048576) (e10 : σ 10 4 = nI n) : P_X7_takeBeat_b118c σ (nI b) off aw g sl = app (P_X7_judge (noteU σ b 2 (nI n) ((100000 : Int32) + off) ((1000 : Int32) + sl)) g) n aw (nI b) := by
  unfold P_X7_takeBeat_b118c
  rw [cs_note h, e10]
  unfold P_X7_takeBeat_b144c P_X7_takeBeat_b150c
  refine cs_append hn ?_
  rw [f_judge7 (by decide) (by decide)]
  exact e10
theorem cs_take88 {σ : T2} {b n : Nat} {off aw g ld : Int32} (h : b < 64) (hn : n < 1048576) (e10 : σ 10 4 = nI n) : P_X7_takeBeat_b88n σ (nI b) off aw g ld = app (P_X7_judge (noteU (u2 (u2 σ 15 (upd (σ 15) 6 ld)) 16 (upd (upd (σ 16) 7 (σ 16 7 + (ld - σ 15 6))) 6 (σ 16 6 + (if ld - σ 15 6 = 0 then 0 else 1)))) b 2 (nI n) ((100000 : Int32) + off) ((1000 : Int32) + (ld - σ 15 6))) g) n aw (nI b) := by
  unfold P_X7_takeBeat_b88n
  rw [cs_slip, u2_ne (σ := σ) (c := 15) (j := 16) (by decide)]
  refine cs_take118 h hn ?_
  rw [u2_ne (by decide), u2_ne (by decide), e10]
theorem u2_1516 {σ : T2} {A B C D : T1} : u2 (u2 (u2 (u2 σ 15 A) 16 B) 15 C) 16 D = u2 (u2 σ 15 C) 16 D := by
  funext j
  by_cases h16 : j = 16
  · subst h16; rw [u2_at, u2_at]
  · rw [u2_ne h16, u2_ne h16]
    by_cases h15 : j = 15
    · subst h15; rw [u2_at, u2_at]
    · rw [u2_ne h15, u2_ne h15, u2_ne h16, u2_ne h15]
theorem cs_take46 {σ : T2} {b m n : Nat} {off aw g : Int32} (e : σ 2 2 = nI m) (h : b < m) (hm : m ≤ 64) (hn : n < 1048576) (e10 : σ 10 4 = nI n) : P_X7_takeBeat_b46c σ (nI b) off aw g = app (P_X7_judge (noteU (u2 (u2 σ 15 (upd (upd (σ 15) 5 0) 6 (σ 4 b - nI n))) 16 (upd (upd (upd (σ 16) 8 (σ 16 8 + abz off)) 7 (σ 16 7 + (σ 4 b - nI n - σ 15 6))) 6 (σ 16 6 + (if σ 4 b - nI n - σ 15 6 = 0 then 0 else 1)))) b 2 (nI n) ((100000 : Int32) + off) ((1000 : Int32) + (σ 4 b - nI n - σ 15 6))) g) n aw (nI b) := by
  unfold P_X7_takeBeat_b46c
  rw [show (if 0 ≤ off then off else 0 - off) = abz off from rfl]
  rw [cs_numberOf (b := b) (m := m) e h hm]
  rw [cs_take88 (n := n) (by omega) hn (by rw [u2_ne (by decide), u2_ne (by decide), e10])]
  rw [u2_at, u2_ne (σ := u2 σ 15 (upd (σ 15) 5 0)) (c := 16) (j := 15) (by decide), u2_at, u2_1516, e10]
  rw [pk_un (f := σ 15) (k := 5) (j := 6) (by decide), pk_un (f := σ 16) (k := 8) (j := 7) (by decide), pk_un (f := σ 16) (k := 8) (j := 6) (by decide)]
  rfl
theorem cs_take39 {sc : T2} {b m n : Nat} {off aw g : Int32} (e : sc 2 2 = nI m) (h : b < m) (hm : m ≤ 64) (hn : n < 1048576) (e10 : sc 10 4 = nI n) : P_X7_takeBeat_b39 sc (nI b) off aw g = app (P_X7_judge (tkcn sc b n off) g) n aw (nI b) := by
  unfold P_X7_takeBeat_b39 P_X7_nudge P_X7_nudge_b0 P_X7_nudge_b22n
  rw [show (if ((2 : Int32) * (sc 1 0)) < ((if (sc 15 1 + P_J9_floorDiv_7cf53 (off * sc 1 3) 16) < ((8 : Int32) * (sc 1 0)) then (sc 15 1 + P_J9_floorDiv_7cf53 (off * sc 1 3) 16) else ((8 : Int32) * (sc 1 0)))) then ((if (sc 15 1 + P_J9_floorDiv_7cf53 (off * sc 1 3) 16) < ((8 : Int32) * (sc 1 0)) then (sc 15 1 + P_J9_floorDiv_7cf53 (off * sc 1 3) 16) else ((8 : Int32) * (sc 1 0)))) else ((2 : Int32) * (sc 1 0))) = tkcp sc off from rfl]
  rw [cs_take46 (m := m) (n := n) (by rw [u2_ne (by decide), e]) h hm hn (by rw [u2_ne (by decide), e10])]
  rw [u2_at, u2_same, u2_ne (σ := sc) (c := 15) (j := 4) (by decide), u2_ne (σ := sc) (c := 15) (j := 16) (by decide)]
  rw [pk_un (k := 2) (j := 6) (by decide), pk_un (f := sc 15) (k := 1) (j := 6) (by decide)]
  rfl
theorem cs_take {sc : T2} {b m n : Nat} {off : Int32} (e : sc 2 2 = nI m) (h : b < m) (hm : m ≤ 64) (hn : n < 1048576) (e10 : sc 10 4 = nI n) : P_X7_takeBeat sc (nI b) off = app (P_X7_judge (tkcn sc b n off) (tkcg sc off)) n (sc 15 2) (nI b) := by
  unfold P_X7_takeBeat P_X7_takeBeat_b0
  rw [cs_take39 e h hm hn e10, cs_take39 e h hm hn e10]
  unfold tkcg
  rw [show (if 0 ≤ off then off else 0 - off) = abz off from rfl]
  by_cases c : P_J9_floorDiv_7cf53 (sc 15 1 * sc 1 4) 100 < abz off
  · rw [if_pos c, if_pos c]
  · rw [if_neg c, if_neg c]
noncomputable def hc0 (sc : T2) : T2 := u2 sc 16 (upd (upd (sc 16) 9 (sc 16 9 + (if sc 15 0 = 1 then 1 else 0))) 0 (sc 16 0 + 1))
noncomputable def hlc (sc : T2) : Int32 := P_J9_floorDiv_7cf53 (sc 15 1 * sc 1 1) 100
theorem cs_fate {sc : T2} {g : T1} {q : Int32} : P_X7_fateAt (u2 sc 16 g) q = (if sc 15 2 = -6 then 3 else if -(hlc sc) ≤ q - sc 15 2 then 2 else 1) := rfl
theorem cs_hear35 {sc : T2} {v1 q : Int32} : P_X7_hearBeat_b35 sc v1 q = (if sc 15 2 = -6 then P_X7_strikeWithBeat (u2 sc 16 (upd (sc 16) 0 (sc 16 0 + 1))) v1 q else if -(hlc sc) ≤ q - sc 15 2 then P_X7_takeBeat (u2 sc 16 (upd (sc 16) 0 (sc 16 0 + 1))) v1 (q - sc 15 2) else P_X7_passOver (u2 sc 16 (upd (sc 16) 0 (sc 16 0 + 1))) v1 (q - sc 15 2)) := by
  unfold P_X7_hearBeat_b35 P_X7_hearBeat_b103c P_X7_hearBeat_b86c
  rw [cs_fate]
  by_cases c : sc 15 2 = -6
  · rw [if_pos c, if_pos c, if_neg (by decide), if_pos rfl]
  · rw [if_neg c, if_neg c]
    by_cases c2 : -(hlc sc) ≤ q - sc 15 2
    · rw [if_pos c2, if_pos c2, if_neg (by decide), if_neg (by decide)]
    · rw [if_neg c2, if_neg c2, if_pos rfl]
theorem cs_hear {sc : T2} {v1 : Int32} : P_X7_hearBeat sc v1 = (if sc 15 2 = -6 then P_X7_strikeWithBeat (hc0 sc) v1 ((4 : Int32) * P_X5_timeOf (fun j => sc (2 + j)) v1) else if -(hlc sc) ≤ (4 : Int32) * P_X5_timeOf (fun j => sc (2 + j)) v1 - sc 15 2 then P_X7_takeBeat (hc0 sc) v1 ((4 : Int32) * P_X5_timeOf (fun j => sc (2 + j)) v1 - sc 15 2) else P_X7_passOver (hc0 sc) v1 ((4 : Int32) * P_X5_timeOf (fun j => sc (2 + j)) v1 - sc 15 2)) := by
  unfold P_X7_hearBeat P_X7_hearBeat_b0 P_X7_hearBeat_b11n
  by_cases c : sc 15 0 = 1
  · rw [if_pos c, cs_hear35]
    have e : u2 (u2 sc 16 (upd (sc 16) 9 (sc 16 9 + 1))) 16 (upd (u2 sc 16 (upd (sc 16) 9 (sc 16 9 + 1)) 16) 0 (u2 sc 16 (upd (sc 16) 9 (sc 16 9 + 1)) 16 0 + 1)) = hc0 sc := by
      rw [u2_same, u2_at, pk_un (j := 0) (k := 9) (by decide)]
      unfold hc0
      rw [if_pos c]
    rw [e]
    rfl
  · rw [if_neg c, cs_hear35]
    have e : u2 sc 16 (upd (sc 16) 0 (sc 16 0 + 1)) = hc0 sc := by
      unfold hc0
      rw [if_neg c, Int32.add_zero]
      congr 2
      funext i
      unfold upd
      split
      · rename_i h; rw [h]
      · rfl
    rw [e]
theorem cs_notes (σ : T2) (v w bl off sl : Int32) : S_X2_note σ v w bl off sl := by
  unfold S_X2_note S_X2_note_b0
  refine ⟨by unfold S_X2_hasRow S_X2_hasRow_b0; exact ⟨fun _ => trivial, fun _ => ⟨fun _ => trivial, fun _ => trivial⟩⟩, fun _ => trivial, fun c => ?_⟩
  have h : vp_in v 64 := by
    by_cases h0 : v < 0
    · exact absurd (by unfold P_X2_hasRow P_X2_hasRow_b0; rw [if_pos h0]) c
    · by_cases h1 : (64 : Int32) ≤ v
      · exact absurd (by unfold P_X2_hasRow P_X2_hasRow_b0; rw [if_neg h0, if_pos h1]) c
      · obtain ⟨j, hj, e⟩ := nI_of h0
        rw [e] at h1 ⊢
        refine vp_in_nI ?_ (by omega)
        exact Nat.not_le.mp (fun hle => h1 (nI_le (a := 64) hle hj))
  exact ⟨h, h, h, h, trivial⟩
theorem cs_hass (σ : T2) (v : Int32) : S_X5_has σ v := by
  unfold S_X5_has S_X5_has_b0
  exact ⟨fun _ => trivial, fun _ => ⟨fun _ => trivial, fun _ => ⟨fun _ => trivial, fun _ => trivial⟩⟩⟩
theorem cs_hasin {σ : T2} {v : Int32} (c : ¬ P_X5_has σ v = 0) : vp_in v 64 := by
  by_cases h0 : v < 0
  · exact absurd (by unfold P_X5_has P_X5_has_b0; rw [if_pos h0]) c
  · by_cases h2 : σ 0 2 ≤ v
    · exact absurd (by unfold P_X5_has P_X5_has_b0; rw [if_neg h0, if_pos h2]) c
    · by_cases h1 : (64 : Int32) ≤ v
      · exact absurd (by unfold P_X5_has P_X5_has_b0; rw [if_neg h0, if_neg h2, if_pos h1]) c
      · obtain ⟨j, hj, e⟩ := nI_of h0
        rw [e] at h1 ⊢
        refine vp_in_nI ?_ (by omega)
        exact Nat.not_le.mp (fun hle => h1 (nI_le (a := 64) hle hj))
theorem cs_times (σ : T2) (v : Int32) : S_X5_timeOf σ v := by
  unfold S_X5_timeOf S_X5_timeOf_b0
  exact ⟨cs_hass _ _, fun _ => trivial, fun c => ⟨cs_hasin c, trivial⟩⟩
theorem cs_numbers (σ : T2) (v : Int32) : S_X5_numberOf σ v := by
  unfold S_X5_numberOf S_X5_numberOf_b0
  exact ⟨cs_hass _ _, fun _ => trivial, fun c => ⟨cs_hasin c, trivial⟩⟩
theorem cs_strikes (σ : T2) (v q : Int32) : S_X7_strikeWithBeat σ v q := by
  unfold S_X7_strikeWithBeat S_X7_strikeWithBeat_b0 S_X7_strikeWithBeat_b60c
  exact ⟨cs_numbers _ _, cs_notes _ _ _ _ _ _, s_append _ _ _ _ _, trivial⟩
theorem cs_passes (σ : T2) (v q : Int32) : S_X7_passOver σ v q := by
  unfold S_X7_passOver S_X7_passOver_b0 S_X7_passOver_b30c
  exact ⟨cs_notes _ _ _ _ _ _, s_judge7 _ _, trivial⟩
theorem cs_fls (x c : Int32) (h : ¬ c = 0) : S_J9_floorDiv_7cf53 x c := by
  simp [S_J9_floorDiv_7cf53, S_J9_floorDiv_7cf53_b0, h]
theorem cs_takes (σ : T2) (v q : Int32) : S_X7_takeBeat σ v q := by
  have h39 : ∀ a g, S_X7_takeBeat_b39 σ v q a g := fun a g => by
    unfold S_X7_takeBeat_b39 S_X7_nudge S_X7_nudge_b0 S_X7_nudge_b22n
    refine ⟨⟨cs_fls _ _ (by decide), cs_fls _ _ (by decide), trivial⟩, ?_⟩
    unfold S_X7_takeBeat_b46c
    refine ⟨cs_numbers _ _, ?_⟩
    unfold S_X7_takeBeat_b88n
    refine ⟨⟨fun _ => trivial, fun _ => trivial⟩, ?_⟩
    unfold S_X7_takeBeat_b118c
    refine ⟨cs_notes _ _ _ _ _ _, ?_⟩
    unfold S_X7_takeBeat_b144c S_X7_takeBeat_b150c
    exact ⟨s_judge7 _ _, s_append _ _ _ _ _, trivial⟩
  unfold S_X7_takeBeat S_X7_takeBeat_b0
  exact ⟨cs_fls _ _ (by decide), fun _ => h39 _ _, fun _ => h39 _ _⟩
theorem cs_halfs (σ : T2) : S_X7_halfWindow σ := ⟨cs_fls _ _ (by decide), trivial⟩
theorem cs_fates (σ : T2) (q : Int32) : S_X7_fateAt σ q := by
  unfold S_X7_fateAt S_X7_fateAt_b0
  exact ⟨fun _ => trivial, fun _ => ⟨cs_halfs _, fun _ => trivial, fun _ => trivial⟩⟩
theorem cs_overs (σ : T2) (q : Int32) : S_X7_isWindowOver σ q := by
  unfold S_X7_isWindowOver S_X7_isWindowOver_b0
  exact ⟨fun _ => trivial, fun _ => ⟨cs_halfs _, fun _ => trivial, fun _ => trivial⟩⟩
theorem cs_hears (σ : T2) (v : Int32) : S_X7_hearBeat σ v := by
  have h35 : ∀ τ q, S_X7_hearBeat_b35 τ v q := fun τ q => by
    unfold S_X7_hearBeat_b35 S_X7_hearBeat_b103c S_X7_hearBeat_b86c
    exact ⟨cs_fates _ _, fun _ => ⟨cs_passes _ _ _, trivial⟩, fun _ => ⟨fun _ => ⟨cs_strikes _ _ _, trivial⟩, fun _ => ⟨cs_takes _ _ _, trivial⟩⟩⟩
  unfold S_X7_hearBeat S_X7_hearBeat_b0 S_X7_hearBeat_b11n
  exact ⟨cs_times _ _, fun _ => h35 _ _, fun _ => h35 _ _⟩
end CS1
