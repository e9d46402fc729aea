/-! whole numbers behind 32 bits -/
section IA1
theorem ia_bm {z : Int} (h1 : -2147483648 ≤ z) (h2 : z < 2147483648) : z.bmod (2 ^ 32) = z := Int.bmod_eq_of_le (by omega) (by omega)
theorem ia_add {a b : Int32} (h1 : -2147483648 ≤ a.toInt + b.toInt) (h2 : a.toInt + b.toInt < 2147483648) : (a + b).toInt = a.toInt + b.toInt := by
  rw [Int32.toInt_add]; exact ia_bm h1 h2
theorem ia_sub {a b : Int32} (h1 : -2147483648 ≤ a.toInt - b.toInt) (h2 : a.toInt - b.toInt < 2147483648) : (a - b).toInt = a.toInt - b.toInt := by
  rw [Int32.toInt_sub]; exact ia_bm h1 h2
theorem ia_mul {a b : Int32} (h1 : -2147483648 ≤ a.toInt * b.toInt) (h2 : a.toInt * b.toInt < 2147483648) : (a * b).toInt = a.toInt * b.toInt := by
  rw [Int32.toInt_mul]; exact ia_bm h1 h2
theorem ia_neg {a : Int32} (h1 : -2147483647 ≤ a.toInt) : (-a).toInt = -a.toInt := by
  have h2 := Int32.toInt_lt a
  rw [Int32.toInt_neg]; exact ia_bm (by omega) (by omega)
theorem ia_le {a b : Int32} : a ≤ b ↔ a.toInt ≤ b.toInt := Int32.le_iff_toInt_le
theorem ia_lt {a b : Int32} : a < b ↔ a.toInt < b.toInt := Int32.lt_iff_toInt_lt
theorem ia_eq {a b : Int32} : a = b ↔ a.toInt = b.toInt := Int32.toInt_inj.symm
theorem ia_0 : (0 : Int32).toInt = 0 := by decide
theorem ia_1 : (1 : Int32).toInt = 1 := by decide
theorem ia_2 : (2 : Int32).toInt = 2 := by decide
theorem ia_4 : (4 : Int32).toInt = 4 := by decide
theorem ia_8 : (8 : Int32).toInt = 8 := by decide
theorem ia_16 : (16 : Int32).toInt = 16 := by decide
theorem ia_100 : (100 : Int32).toInt = 100 := by decide
theorem ia_m6 : (-6 : Int32).toInt = -6 := by decide
theorem ia_NV : (1000000 : Int32).toInt = 1000000 := by decide
theorem ia_td (z c : Int) : z.tdiv c = if 0 ≤ z then z / c else -((-z) / c) := by
  split
  · rename_i h; exact Int.tdiv_eq_ediv_of_nonneg h
  · rename_i h
    have e : z.tdiv c = (-(-z)).tdiv c := by rw [Int.neg_neg]
    rw [e, Int.neg_tdiv, Int.tdiv_eq_ediv_of_nonneg (by omega)]
theorem ia_div16 {x : Int32} : (x / (16 : Int32)).toInt = if 0 ≤ x.toInt then x.toInt / 16 else -((-x.toInt) / 16) := by
  have h1 := Int32.toInt_lt x
  have h2 := Int32.le_toInt x
  rw [Int32.toInt_div, ia_16, ia_td]
  refine ia_bm ?_ ?_ <;> split <;> omega
theorem ia_div100 {x : Int32} : (x / (100 : Int32)).toInt = if 0 ≤ x.toInt then x.toInt / 100 else -((-x.toInt) / 100) := by
  have h1 := Int32.toInt_lt x
  have h2 := Int32.le_toInt x
  rw [Int32.toInt_div, ia_100, ia_td]
  refine ia_bm ?_ ?_ <;> split <;> omega
theorem ia_xor {x c : Int32} (hc : 0 ≤ c.toInt) : (0 : Int32) ≤ x ^^^ c ↔ 0 ≤ x.toInt := by
  have hcm : c.toBitVec.msb = false := by
    rw [BitVec.msb_eq_toInt]
    exact decide_eq_false (by rw [Int32.toInt_toBitVec]; omega)
  have e : (x ^^^ c).toBitVec.msb = x.toBitVec.msb := by
    rw [Int32.toBitVec_xor, BitVec.msb_xor, hcm, Bool.xor_false]
  rw [BitVec.msb_eq_toInt, BitVec.msb_eq_toInt, Int32.toInt_toBitVec, Int32.toInt_toBitVec] at e
  have e2 := decide_eq_decide.mp e
  rw [ia_le, ia_0]
  omega
theorem ia_fl16 {x : Int32} (h1 : -1073741824 ≤ x.toInt) (h2 : x.toInt < 1073741824) : (P_J9_floorDiv_7cf53 x 16).toInt = x.toInt / 16 := by
  have hd := ia_div16 (x := x)
  unfold P_J9_floorDiv_7cf53 P_J9_floorDiv_7cf53_b0
  by_cases c1 : 0 ≤ x.toInt
  · rw [if_pos ((ia_xor (by decide)).mpr c1), hd, if_pos c1]
  · rw [if_neg (fun h => c1 ((ia_xor (by decide)).mp h))]
    rw [if_neg c1] at hd
    have hm : ((x / 16) * 16).toInt = (x / 16).toInt * 16 := by
      rw [Int32.toInt_mul, ia_16]
      exact ia_bm (by omega) (by omega)
    by_cases c2 : (x / 16) * 16 = x
    · rw [if_pos c2, hd]
      have c3 := congrArg Int32.toInt c2
      rw [hm, hd] at c3
      omega
    · rw [if_neg c2]
      have c3 : (x / 16).toInt * 16 ≠ x.toInt := fun h => c2 (Int32.toInt_inj.mp (hm.trans h))
      rw [ia_sub (by rw [ia_1]; omega) (by rw [ia_1]; omega), ia_1, hd]
      rw [hd] at c3
      omega
theorem ia_part16 {x : Int32} (h1 : -1073741824 ≤ x.toInt) (h2 : x.toInt < 1073741824) : (P_X10_part x 16).toInt = x.toInt / 16 := by
  unfold P_X10_part P_X10_part_b0
  by_cases c1 : x < 0
  · rw [if_pos c1]
    rw [ia_lt, ia_0] at c1
    have e1 : ((16 : Int32) - 1) = 15 := by decide
    have e2 : (15 : Int32).toInt = 15 := by decide
    have e3 : ((15 : Int32) - x).toInt = 15 - x.toInt := by
      rw [ia_sub (by rw [e2]; omega) (by rw [e2]; omega), e2]
    have hd := ia_div16 (x := (15 : Int32) - x)
    rw [e3, if_pos (by omega)] at hd
    rw [e1, ia_neg (by omega), hd]
    omega
  · rw [if_neg c1]
    rw [ia_lt, ia_0] at c1
    have hd := ia_div16 (x := x)
    rw [hd, if_pos (by omega)]
theorem ia_flp {x : Int32} (h1 : -1073741824 ≤ x.toInt) (h2 : x.toInt < 1073741824) : P_J9_floorDiv_7cf53 x 16 = P_X10_part x 16 := by
  rw [ia_eq, ia_fl16 h1 h2, ia_part16 h1 h2]
theorem ia_fl100 {x : Int32} (h : 0 ≤ x.toInt) : P_J9_floorDiv_7cf53 x 100 = x / 100 := by
  unfold P_J9_floorDiv_7cf53 P_J9_floorDiv_7cf53_b0
  rw [if_pos ((ia_xor (by decide)).mpr h)]
/-- a share of the period, in percent -/
theorem ia_pw {p w : Int32} (hp0 : 0 ≤ p.toInt) (hp : p.toInt ≤ 3200) (hw0 : 0 ≤ w.toInt) (hw : w.toInt ≤ 50) : (p * w).toInt = p.toInt * w.toInt ∧ 0 ≤ p.toInt * w.toInt ∧ p.toInt * w.toInt ≤ p.toInt * 50 := by
  have h1 : 0 ≤ p.toInt * w.toInt := Int.mul_nonneg hp0 hw0
  have h2 : p.toInt * w.toInt ≤ p.toInt * 50 := Int.mul_le_mul_of_nonneg_left hw hp0
  exact ⟨ia_mul (by omega) (by omega), h1, h2⟩
theorem ia_half {p w : Int32} (hp0 : 0 ≤ p.toInt) (hp : p.toInt ≤ 3200) (hw0 : 0 ≤ w.toInt) (hw : w.toInt ≤ 50) : P_J9_floorDiv_7cf53 (p * w) 100 = (p * w) / 100 ∧ 0 ≤ ((p * w) / 100).toInt ∧ 2 * ((p * w) / 100).toInt ≤ p.toInt := by
  obtain ⟨e, h1, h2⟩ := ia_pw hp0 hp hw0 hw
  have h3 : 0 ≤ (p * w).toInt := by omega
  refine ⟨ia_fl100 h3, ?_, ?_⟩
  · rw [ia_div100, if_pos h3]; omega
  · rw [ia_div100, if_pos h3, e]; omega
/-- a share of what a beat was off, in sixteenths -/
theorem ia_sx (e q : Int) (h0 : 0 ≤ q) (h1 : q ≤ 16) : (0 ≤ e → 0 ≤ e * q ∧ e * q ≤ e * 16) ∧ (e ≤ 0 → e * 16 ≤ e * q ∧ e * q ≤ 0) := by
  refine ⟨fun h => ⟨Int.mul_nonneg h h0, Int.mul_le_mul_of_nonneg_left h1 h⟩, fun h => ⟨Int.mul_le_mul_of_nonpos_left h h1, ?_⟩⟩
  have := Int.mul_le_mul_of_nonpos_left h h0
  omega
theorem ia_off {e q : Int32} (he : -500000 ≤ e.toInt) (he2 : e.toInt ≤ 500000) (h0 : 0 ≤ q.toInt) (h1 : q.toInt ≤ 16) : P_J9_floorDiv_7cf53 (e * q) 16 = P_X10_part (e * q) 16 ∧ (0 ≤ e.toInt → 0 ≤ (P_X10_part (e * q) 16).toInt ∧ (P_X10_part (e * q) 16).toInt ≤ e.toInt) ∧ (e.toInt < 0 → e.toInt ≤ (P_X10_part (e * q) 16).toInt ∧ (P_X10_part (e * q) 16).toInt ≤ 0) := by
  obtain ⟨a1, a2⟩ := ia_sx e.toInt q.toInt h0 h1
  have hb : -8000000 ≤ e.toInt * q.toInt ∧ e.toInt * q.toInt ≤ 8000000 := by
    by_cases c : 0 ≤ e.toInt
    · have := a1 c; omega
    · have := a2 (by omega); omega
  have em : (e * q).toInt = e.toInt * q.toInt := ia_mul (by omega) (by omega)
  have ep := ia_part16 (x := e * q) (by omega) (by omega)
  refine ⟨ia_flp (by omega) (by omega), fun c => ?_, fun c => ?_⟩
  · have := a1 c
    rw [ep, em]; omega
  · have := a2 (by omega)
    rw [ep, em]; omega
theorem ia_mul4 {x : Int32} (h0 : 0 ≤ x.toInt) (h1 : x.toInt ≤ 500000000) : ((4 : Int32) * x).toInt = 4 * x.toInt := by
  rw [ia_mul (by rw [ia_4]; omega) (by rw [ia_4]; omega), ia_4]
theorem ia_size (x : Int32) : P_X10_size x = if 0 ≤ x then x else 0 - x := by
  unfold P_X10_size P_X10_size_b0
  split
  · rfl
  · rw [ia_eq, Int32.toInt_neg, Int32.toInt_sub, ia_0, Int.zero_sub]
/-- the period, held in its range -/
theorem ia_clamp {v b2 b8 : Int32} (h : b2 ≤ b8) : (if b2 < (if v < b8 then v else b8) then (if v < b8 then v else b8) else b2) = (if b2 ≤ v then (if v ≤ b8 then v else b8) else b2) := by
  rw [ia_le] at h
  by_cases c1 : v < b8
  · rw [if_pos c1]
    rw [ia_lt] at c1
    by_cases c2 : b2 < v
    · rw [if_pos c2]
      rw [ia_lt] at c2
      rw [if_pos (ia_le.mpr (by omega)), if_pos (ia_le.mpr (by omega))]
    · rw [if_neg c2]
      rw [ia_lt] at c2
      by_cases c3 : b2 ≤ v
      · rw [if_pos c3, if_pos (ia_le.mpr (by omega))]
        rw [ia_le] at c3
        exact ia_eq.mpr (by omega)
      · rw [if_neg c3]
  · rw [if_neg c1]
    rw [ia_lt] at c1
    by_cases c2 : b2 < b8
    · rw [if_pos c2]
      rw [ia_lt] at c2
      rw [if_pos (ia_le.mpr (by omega))]
      by_cases c3 : v ≤ b8
      · rw [if_pos c3]
        rw [ia_le] at c3
        exact ia_eq.mpr (by omega)
      · rw [if_neg c3]
    · rw [if_neg c2]
      rw [ia_lt] at c2
      by_cases c3 : b2 ≤ v
      · rw [if_pos c3]
        by_cases c4 : v ≤ b8
        · rw [if_pos c4]
          rw [ia_le] at c4
          exact ia_eq.mpr (by omega)
        · rw [if_neg c4]
          exact ia_eq.mpr (by omega)
      · rw [if_neg c3]
end IA1
