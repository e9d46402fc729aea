/-! the model's rows for blows -/
section STEP1
theorem idx_eq {n : Nat} (hn : n < 1048576) : (416 : Int32) + (4 : Int32) * (nI n - nI n / (64 : Int32) * (64 : Int32)) = nI (416 + 4 * (n % 64)) := by
  have h := pk_rem (a := n) (d := 64) (by omega) (by omega) (by omega)
  show nI 416 + nI 4 * (nI n - nI n / nI 64 * nI 64) = _
  rw [h, pk_mul, nI_add]
theorem x_strike {μ : T2} {x y : Int32} {n : Nat} (hn : n < 1048576) (e : μ 1 12 = nI n) : P_X10_strike μ x y = (nI n, u2 μ 1 (upd (upd (upd (μ 1) (416 + 4 * (n % 64)) x) (417 + 4 * (n % 64)) y) 12 (nI (n + 1)))) := by
  unfold P_X10_strike P_X10_strike_b0 P_X10_strike_b20n
  rw [e, idx_eq hn]
  have c1 : (nI (416 + 4 * (n % 64))).toNatClampNeg = 416 + 4 * (n % 64) := nI_clamp (by omega)
  have c2 : (nI (416 + 4 * (n % 64)) + (1 : Int32)).toNatClampNeg = 417 + 4 * (n % 64) := by
    rw [nI_1, nI_clamp (by omega)]
    omega
  rw [c1, c2]
  have c3 : upd (upd (μ 1) (416 + 4 * (n % 64)) x) (417 + 4 * (n % 64)) y 12 = nI n := by
    rw [upd_lo (by decide) (by omega), upd_lo (by decide) (by omega), e]
  rw [c3, nI_1]
theorem x_endBlow {μ : T2} {n : Nat} (hn : n < 1048576) (e : μ 1 12 = nI (n + 1)) : P_X10_endBlow μ = u2 μ 1 (upd (upd (μ 1) (418 + 4 * (n % 64)) (μ 1 10)) (419 + 4 * (n % 64)) (μ 1 9)) := by
  unfold P_X10_endBlow P_X10_endBlow_b0 P_X10_endBlow_b19n
  have e1 : nI (n + 1) - (1 : Int32) = nI n := nI_pred n
  rw [e, e1, idx_eq hn]
  have c2 : (nI (416 + 4 * (n % 64)) + (2 : Int32)).toNatClampNeg = 418 + 4 * (n % 64) := by
    show (nI (416 + 4 * (n % 64)) + nI 2).toNatClampNeg = _
    rw [nI_add, nI_clamp (by omega)]
    omega
  have c3 : (nI (416 + 4 * (n % 64)) + (3 : Int32)).toNatClampNeg = 419 + 4 * (n % 64) := by
    show (nI (416 + 4 * (n % 64)) + nI 3).toNatClampNeg = _
    rw [nI_add, nI_clamp (by omega)]
    omega
  rw [c2, c3]
  have c4 : upd (μ 1) (418 + 4 * (n % 64)) (μ 1 10) 9 = μ 1 9 := upd_lo (by decide) (by omega)
  rw [c4]
theorem s_strike {μ : T2} {x y : Int32} {n : Nat} (hn : n < 1048576) (e : μ 1 12 = nI n) : S_X10_strike μ x y := by
  unfold S_X10_strike S_X10_strike_b0 S_X10_strike_b20n
  rw [e, idx_eq hn]
  have i1 : vp_in (nI (416 + 4 * (n % 64))) 672 := vp_in_nI (by omega) (by omega)
  have i2 : vp_in (nI (416 + 4 * (n % 64)) + (1 : Int32)) 672 := by rw [nI_1]; exact vp_in_nI (by omega) (by omega)
  exact ⟨i1, i2, trivial⟩
theorem s_endBlow {μ : T2} {n : Nat} (hn : n < 1048576) (e : μ 1 12 = nI (n + 1)) : S_X10_endBlow μ := by
  unfold S_X10_endBlow S_X10_endBlow_b0 S_X10_endBlow_b19n
  have e1 : nI (n + 1) - (1 : Int32) = nI n := nI_pred n
  rw [e, e1, idx_eq hn]
  have i1 : vp_in (nI (416 + 4 * (n % 64)) + (2 : Int32)) 672 := by
    show vp_in (nI (416 + 4 * (n % 64)) + nI 2) 672
    rw [nI_add]; exact vp_in_nI (by omega) (by omega)
  have i2 : vp_in (nI (416 + 4 * (n % 64)) + (3 : Int32)) 672 := by
    show vp_in (nI (416 + 4 * (n % 64)) + nI 3) 672
    rw [nI_add]; exact vp_in_nI (by omega) (by omega)
  exact ⟨i1, i2, trivial⟩
end STEP1
