def fX9 (a : Nat → Nat) (f : T1) : List Value := [.ref (a 1), .ref (a 18), .ref (a 35), .ref (a 139), .ref (a 174), .ref (a 175), .ref (a 177)]
def EwX5 (k : Nat → ClassId) (a : Nat → Nat) (i : Nat) (f : T1) : va_E := match i with
  | 0 => .inr (5, fX5 a f)
  | 1 => .inl (k 0, 64, .inl f)
  | _ => .inl (k 0, 64, .inl f)
theorem wX5_q (k : Nat → ClassId) (a : Nat → Nat) (σ : T2) : wX5 k a σ = q_w 3 a (EwX5 k a) σ := rfl
def EwX2 (k : Nat → ClassId) (a : Nat → Nat) (i : Nat) (f : T1) : va_E := match i with
  | 0 => .inr (2, fX2 a f)
  | 1 => .inl (k 0, 64, .inl f)
  | 2 => .inl (k 0, 64, .inl f)
  | 3 => .inl (k 0, 64, .inl f)
  | _ => .inl (k 0, 64, .inl f)
theorem wX2_q (k : Nat → ClassId) (a : Nat → Nat) (σ : T2) : wX2 k a σ = q_w 5 a (EwX2 k a) σ := rfl
def EwX0 (k : Nat → ClassId) (a : Nat → Nat) (i : Nat) (f : T1) : va_E := match i with
  | 0 => .inr (0, fX0 a f)
  | 1 => .inl (k 0, 64, .inl f)
  | 2 => .inl (k 0, 64, .inl f)
  | 3 => .inl (k 0, 64, .inl f)
  | _ => .inl (k 0, 64, .inl f)
theorem wX0_q (k : Nat → ClassId) (a : Nat → Nat) (σ : T2) : wX0 k a σ = q_w 5 a (EwX0 k a) σ := rfl
def EwX5_X5 (k : Nat → ClassId) (a : Nat → Nat) (i : Nat) (f : T1) : va_E := match i with
  | 0 => .inr (5, fX5 a f)
  | 1 => .inl (k 0, 64, .inl f)
  | 2 => .inl (k 0, 64, .inl f)
  | 3 => .inr (5, fX5 (fun j => a (3 + j)) f)
  | 4 => .inl (k 0, 64, .inl f)
  | _ => .inl (k 0, 64, .inl f)
theorem wX5_X5_q (k : Nat → ClassId) (a : Nat → Nat) (σ : T2) : wX5_X5 k a σ = q_w 6 a (EwX5_X5 k a) σ := rfl
def EwX6_X4 (k : Nat → ClassId) (a : Nat → Nat) (i : Nat) (f : T1) : va_E := match i with
  | 0 => .inr (6, fX6 a f)
  | 1 => .inl (k 0, 64, .inl f)
  | 2 => .inl (k 0, 64, .inl f)
  | 3 => .inr (4, fX4 (fun j => a (3 + j)) f)
  | _ => .inl (k 2, 80, .inl f)
theorem wX6_X4_q (k : Nat → ClassId) (a : Nat → Nat) (σ : T2) : wX6_X4 k a σ = q_w 5 a (EwX6_X4 k a) σ := rfl
def EwX5_X6 (k : Nat → ClassId) (a : Nat → Nat) (i : Nat) (f : T1) : va_E := match i with
  | 0 => .inr (5, fX5 a f)
  | 1 => .inl (k 0, 64, .inl f)
  | 2 => .inl (k 0, 64, .inl f)
  | 3 => .inr (6, fX6 (fun j => a (3 + j)) f)
  | 4 => .inl (k 0, 64, .inl f)
  | _ => .inl (k 0, 64, .inl f)
theorem wX5_X6_q (k : Nat → ClassId) (a : Nat → Nat) (σ : T2) : wX5_X6 k a σ = q_w 6 a (EwX5_X6 k a) σ := rfl
def EwX9 (k : Nat → ClassId) (a : Nat → Nat) (j : Nat) (f : T1) : va_E := if j = 0 then .inr (9, fX9 a f) else if j < 18 then EwX7 k (fun i => a (1 + i)) (j - 1) f else if j < 35 then EwX7 k (fun i => a (18 + i)) (j - 18) f else if j = 35 then .inr (3, fX3 (fun j => a (35 + j)) f) else if j = 36 then .inl (k 3, 6, .inr (.inr (.inr (.inr (fun i => if i < 6 then some (a (37 + 17 * i)) else none))))) else if j < 139 then EwX7 k (fun i => a (37 + 17 * ((j - 37) / 17) + i)) ((j - 37) % 17) f else if j = 139 then .inl (k 3, 2, .inr (.inr (.inr (.inr (fun i => if i < 2 then some (a (140 + 17 * i)) else none))))) else if j < 174 then EwX7 k (fun i => a (140 + 17 * ((j - 140) / 17) + i)) ((j - 140) % 17) f else if j = 174 then .inl (k 1, 2, .inl f) else if j < 177 then EwX4 k (fun i => a (175 + i)) (j - 175) f else EwX6 k (fun i => a (177 + i)) (j - 177) f
def wX9 (k : Nat → ClassId) (a : Nat → Nat) (σ : T2) : va_W := q_w 180 a (EwX9 k a) σ
theorem EwX9_b1 (k : Nat → ClassId) (a : Nat → Nat) (i : Nat) (hi : i < 17) (f : T1) : EwX9 k a (1 + i) f = EwX7 k (fun j => a (1 + j)) i f := by
  unfold EwX9; rw [if_neg (by omega)]; rw [if_pos (by omega)]; rw [show 1 + i - 1 = i by omega]
theorem EwX9_b18 (k : Nat → ClassId) (a : Nat → Nat) (i : Nat) (hi : i < 17) (f : T1) : EwX9 k a (18 + i) f = EwX7 k (fun j => a (18 + j)) i f := by
  unfold EwX9; rw [if_neg (by omega)]; rw [if_neg (by omega)]; rw [if_pos (by omega)]; rw [show 18 + i - 18 = i by omega]
theorem EwX9_b37 (k : Nat → ClassId) (a : Nat → Nat) (q i : Nat) (hq : q < 6) (hi : i < 17) (f : T1) : EwX9 k a (37 + 17 * q + i) f = EwX7 k (fun j => a (37 + 17 * q + j)) i f := by
  unfold EwX9; rw [if_neg (by omega)]; rw [if_neg (by omega)]; rw [if_neg (by omega)]; rw [if_neg (by omega)]; rw [if_neg (by omega)]; rw [if_pos (by omega)]; rw [show (37 + 17 * q + i - 37) / 17 = q by omega, show (37 + 17 * q + i - 37) % 17 = i by omega]
theorem EwX9_b140 (k : Nat → ClassId) (a : Nat → Nat) (q i : Nat) (hq : q < 2) (hi : i < 17) (f : T1) : EwX9 k a (140 + 17 * q + i) f = EwX7 k (fun j => a (140 + 17 * q + j)) i f := by
  unfold EwX9; rw [if_neg (by omega)]; rw [if_neg (by omega)]; rw [if_neg (by omega)]; rw [if_neg (by omega)]; rw [if_neg (by omega)]; rw [if_neg (by omega)]; rw [if_neg (by omega)]; rw [if_pos (by omega)]; rw [show (140 + 17 * q + i - 140) / 17 = q by omega, show (140 + 17 * q + i - 140) % 17 = i by omega]
theorem EwX9_b175 (k : Nat → ClassId) (a : Nat → Nat) (i : Nat) (hi : i < 2) (f : T1) : EwX9 k a (175 + i) f = EwX4 k (fun j => a (175 + j)) i f := by
  unfold EwX9; rw [if_neg (by omega)]; rw [if_neg (by omega)]; rw [if_neg (by omega)]; rw [if_neg (by omega)]; rw [if_neg (by omega)]; rw [if_neg (by omega)]; rw [if_neg (by omega)]; rw [if_neg (by omega)]; rw [if_neg (by omega)]; rw [if_pos (by omega)]; rw [show 175 + i - 175 = i by omega]
theorem EwX9_b177 (k : Nat → ClassId) (a : Nat → Nat) (i : Nat) (hi : i < 3) (f : T1) : EwX9 k a (177 + i) f = EwX6 k (fun j => a (177 + j)) i f := by
  unfold EwX9; rw [if_neg (by omega)]; rw [if_neg (by omega)]; rw [if_neg (by omega)]; rw [if_neg (by omega)]; rw [if_neg (by omega)]; rw [if_neg (by omega)]; rw [if_neg (by omega)]; rw [if_neg (by omega)]; rw [if_neg (by omega)]; rw [if_neg (by omega)]; skip; rw [show 177 + i - 177 = i by omega]
theorem wX9_s2 (k : Nat → ClassId) (a : Nat → Nat) (σ : T2) (g : T1) : (wX9 k a σ).set 2 (a 2, .inl (k 0, 8, .inl g)) = wX9 k a (u2 σ 2 g) := q_w_set 2 (Nat.le_of_ble_eq_true rfl) g
theorem wX9_s3 (k : Nat → ClassId) (a : Nat → Nat) (σ : T2) (g : T1) : (wX9 k a σ).set 3 (a 3, .inr (5, fX5 (fun j => a (3 + j)) g)) = wX9 k a (u2 σ 3 g) := q_w_set 3 (Nat.le_of_ble_eq_true rfl) g
theorem wX9_s16 (k : Nat → ClassId) (a : Nat → Nat) (σ : T2) (g : T1) : (wX9 k a σ).set 16 (a 16, .inr (1, fX1 (fun j => a (16 + j)) g)) = wX9 k a (u2 σ 16 g) := q_w_set 16 (Nat.le_of_ble_eq_true rfl) g
theorem wX9_s19 (k : Nat → ClassId) (a : Nat → Nat) (σ : T2) (g : T1) : (wX9 k a σ).set 19 (a 19, .inl (k 0, 8, .inl g)) = wX9 k a (u2 σ 19 g) := q_w_set 19 (Nat.le_of_ble_eq_true rfl) g
theorem wX9_s20 (k : Nat → ClassId) (a : Nat → Nat) (σ : T2) (g : T1) : (wX9 k a σ).set 20 (a 20, .inr (5, fX5 (fun j => a (20 + j)) g)) = wX9 k a (u2 σ 20 g) := q_w_set 20 (Nat.le_of_ble_eq_true rfl) g
theorem wX9_s174 (k : Nat → ClassId) (a : Nat → Nat) (σ : T2) (g : T1) : (wX9 k a σ).set 174 (a 174, .inl (k 1, 2, .inl g)) = wX9 k a (u2 σ 174 g) := q_w_set 174 (Nat.le_of_ble_eq_true rfl) g
theorem wX9_s175 (k : Nat → ClassId) (a : Nat → Nat) (σ : T2) (g : T1) : (wX9 k a σ).set 175 (a 175, .inr (4, fX4 (fun j => a (175 + j)) g)) = wX9 k a (u2 σ 175 g) := q_w_set 175 (Nat.le_of_ble_eq_true rfl) g
theorem wX9_fst (k : Nat → ClassId) (a : Nat → Nat) (σ τ : T2) : (wX9 k a τ).map Prod.fst = (wX9 k a σ).map Prod.fst := q_w_fst.trans q_w_fst.symm
def wX9_is : List Nat := (List.range 180).map (fun i => i)
theorem wX9_nd : va_nd wX9_is = true := q_w_nd _ (fun i j _ _ h => h)
theorem wX9_pl (k : Nat → ClassId) (a : Nat → Nat) (σ : T2) : wX9_is.map (fun i => (wX9 k a σ)[i]?) = (wX9 k a σ).map some := q_w_pl (fun i => i) (fun i hi => ⟨hi, rfl, rfl⟩)
theorem wX9_put (k : Nat → ClassId) (a : Nat → Nat) (σ τ : T2) : q_put (wX9 k a σ) wX9_is (wX9 k a τ) = wX9 k a τ := q_w_pt (fun i => i) (fun i j _ _ h => h) (fun i hi => ⟨hi, rfl, rfl⟩) (fun j hj hno => absurd rfl (hno j hj))
theorem wX9_rec (k : Nat → ClassId) (a : Nat → Nat) (σ : T2) : (wX9 k a σ)[0]? = some (a 0, .inr (9, fX9 a (σ 0))) := q_w_get 0 (Nat.le_of_ble_eq_true rfl)
def wX9_X3_X7_35_1_is : List Nat := (List.range 121).map (fun i => if i < 104 then 35 + i else 1 + (i - 104))
theorem wX9_X3_X7_35_1_inj : ∀ i j, i < 121 → j < 121 → (fun i => if i < 104 then 35 + i else 1 + (i - 104)) i = (fun i => if i < 104 then 35 + i else 1 + (i - 104)) j → i = j := by
  intro i j hi hj h; dsimp only at h; by_cases h1 : i < 104 <;> by_cases h2 : j < 104 <;> simp only [h1, h2, if_true, if_false] at h <;> omega
theorem wX9_X3_X7_35_1_nd : va_nd (wX9_X3_X7_35_1_is) = true := q_w_nd _ (wX9_X3_X7_35_1_inj)
theorem wX9_X3_X7_35_1_E (k : Nat → ClassId) (a : Nat → Nat) : ∀ i, i < 121 → (fun i => if i < 104 then 35 + i else 1 + (i - 104)) i < 180 ∧ a ((fun i => if i < 104 then 35 + i else 1 + (i - 104)) i) = (sel a 35 104 1) i ∧ ∀ g : T1, EwX9 k a ((fun i => if i < 104 then 35 + i else 1 + (i - 104)) i) g = EwX3_X7 k (sel a 35 104 1) i g := by
  intro i hi
  have key : ∀ g : T1, EwX9 k a ((fun i => if i < 104 then 35 + i else 1 + (i - 104)) i) g = EwX3_X7 k (sel a 35 104 1) i g := by
    intro g
    by_cases h1 : i < 104
    · rw [show (fun i => if i < 104 then 35 + i else 1 + (i - 104)) i = 35 + i by simp only [h1, if_true]]
      rcases (show i = 0 ∨ i = 1 ∨ 2 ≤ i by omega) with rfl | rfl | h2
      · rfl
      · show (Sum.inl (k 3, 6, .inr (.inr (.inr (.inr (fun i => if i < 6 then some (a (37 + 17 * i)) else none))))) : va_E) = Sum.inl (k 3, 6, .inr (.inr (.inr (.inr (fun i => if i < 6 then some (sel a 35 104 1 (2 + 17 * i)) else none)))))
        have e : (fun i => if i < 6 then some (a (37 + 17 * i)) else none) = (fun i => if i < 6 then some (sel a 35 104 1 (2 + 17 * i)) else none) := by
          funext i
          by_cases h6 : i < 6
          · simp only [h6, if_true]
            unfold sel
            rw [if_pos (by omega), show 35 + (2 + 17 * i) = 37 + 17 * i by omega]
          · simp only [h6, if_false]
        rw [e]
      · obtain ⟨q, r, hq, hr, rfl⟩ : ∃ q r, q < 6 ∧ r < 17 ∧ i = 2 + 17 * q + r := ⟨(i - 2) / 17, (i - 2) % 17, by omega, by omega, by omega⟩
        rw [show 35 + (2 + 17 * q + r) = 37 + 17 * q + r by omega, EwX9_b37 k a q r hq hr g, EwX3_X7_b2 k _ q r hq hr g]
        exact EwX7_cong k (fun j hj => by unfold sel; rw [if_pos (by omega), show 35 + (2 + 17 * q + j) = 37 + 17 * q + j by omega]) r hr g
    · obtain ⟨j, rfl⟩ : ∃ j, i = 104 + j := ⟨i - 104, by omega⟩
      have hj : j < 17 := by omega
      rw [show (fun i => if i < 104 then 35 + i else 1 + (i - 104)) (104 + j) = 1 + j by simp only [h1, if_false]; omega]
      rcases (show j = 0 ∨ j = 1 ∨ j = 2 ∨ j = 3 ∨ j = 4 ∨ j = 5 ∨ j = 6 ∨ j = 7 ∨ j = 8 ∨ j = 9 ∨ j = 10 ∨ j = 11 ∨ j = 12 ∨ j = 13 ∨ j = 14 ∨ j = 15 ∨ j = 16 by omega) with rfl | rfl | rfl | rfl | rfl | rfl | rfl | rfl | rfl | rfl | rfl | rfl | rfl | rfl | rfl | rfl | rfl <;> rfl
  refine ⟨?_, ?_, key⟩
  · by_cases h1 : i < 104 <;> simp only [h1, if_true, if_false] <;> omega
  · by_cases h1 : i < 104 <;> simp only [sel, h1, if_true, if_false]
theorem wX9_X3_X7_35_1_pl (k : Nat → ClassId) (a : Nat → Nat) (σ : T2) : (wX9_X3_X7_35_1_is).map (fun i => (wX9 k a σ)[i]?) = (wX3_X7 k (sel a 35 104 1) (sel σ 35 104 1)).map some := by
  exact q_w_pl (fun i => if i < 104 then 35 + i else 1 + (i - 104)) (fun i hi => ⟨(wX9_X3_X7_35_1_E k a i hi).1, (wX9_X3_X7_35_1_E k a i hi).2.1, ((wX9_X3_X7_35_1_E k a i hi).2.2 _).trans (congrArg (EwX3_X7 k (sel a 35 104 1) i) (by by_cases h1 : i < 104 <;> simp only [sel, h1, if_true, if_false]))⟩)
theorem wX9_X3_X7_35_1_r (σ τ : T2) (i : Nat) (hi : i < 121) : sb2 σ 35 104 1 17 τ (if i < 104 then 35 + i else 1 + (i - 104)) = τ i := by
  by_cases h1 : i < 104
  · rw [if_pos h1]; unfold sb2; rw [if_pos (by omega), show 35 + i - 35 = i by omega]
  · rw [if_neg h1]; unfold sb2; rw [if_neg (by omega), if_pos (by omega), show 104 + (1 + (i - 104) - 1) = i by omega]
theorem wX9_X3_X7_35_1_o (σ τ : T2) (j : Nat) (hno : ∀ i, i < 121 → (if i < 104 then 35 + i else 1 + (i - 104)) ≠ j) : sb2 σ 35 104 1 17 τ j = σ j := by
  unfold sb2
  rw [if_neg (fun h => hno (j - 35) (by omega) (by rw [if_pos (show j - 35 < 104 by omega)]; omega)), if_neg (fun h => hno (104 + (j - 1)) (by omega) (by rw [if_neg (show ¬ 104 + (j - 1) < 104 by omega)]; omega))]
theorem wX9_X3_X7_35_1_pt (k : Nat → ClassId) (a : Nat → Nat) (σ τ : T2) : q_put (wX9 k a σ) (wX9_X3_X7_35_1_is) (wX3_X7 k (sel a 35 104 1) τ) = wX9 k a (sb2 σ 35 104 1 17 τ) := by
  exact q_w_pt (fun i => if i < 104 then 35 + i else 1 + (i - 104)) (wX9_X3_X7_35_1_inj) (fun i hi => ⟨(wX9_X3_X7_35_1_E k a i hi).1, (wX9_X3_X7_35_1_E k a i hi).2.1, ((wX9_X3_X7_35_1_E k a i hi).2.2 _).trans (congrArg (EwX3_X7 k (sel a 35 104 1) i) (wX9_X3_X7_35_1_r σ τ i hi))⟩) (fun j hj hno => wX9_X3_X7_35_1_o σ τ j hno)
def wX9_X7_1_is : List Nat := (List.range 17).map (fun i => 1 + i)
theorem wX9_X7_1_inj : ∀ i j, i < 17 → j < 17 → (fun i => 1 + i) i = (fun i => 1 + i) j → i = j := by
  intro i j hi hj h; have h : 1 + i = 1 + j := h; omega
theorem wX9_X7_1_nd : va_nd (wX9_X7_1_is) = true := q_w_nd _ (wX9_X7_1_inj)
theorem wX9_X7_1_E (k : Nat → ClassId) (a : Nat → Nat) : ∀ i, i < 17 → (fun i => 1 + i) i < 180 ∧ a ((fun i => 1 + i) i) = (fun j => a (1 + j)) i ∧ ∀ g : T1, EwX9 k a ((fun i => 1 + i) i) g = EwX7 k (fun j => a (1 + j)) i g := by
  intro i hi
  have key : ∀ g : T1, EwX9 k a ((fun i => 1 + i) i) g = EwX7 k (fun j => a (1 + j)) i g := by
    intro g
    show EwX9 k a (1 + i) g = _
    rcases (show i = 0 ∨ i = 1 ∨ i = 2 ∨ i = 3 ∨ i = 4 ∨ i = 5 ∨ i = 6 ∨ i = 7 ∨ i = 8 ∨ i = 9 ∨ i = 10 ∨ i = 11 ∨ i = 12 ∨ i = 13 ∨ i = 14 ∨ i = 15 ∨ i = 16 by omega) with rfl | rfl | rfl | rfl | rfl | rfl | rfl | rfl | rfl | rfl | rfl | rfl | rfl | rfl | rfl | rfl | rfl <;> rfl
  refine ⟨by show 1 + i < 180; omega, rfl, key⟩
theorem wX9_X7_1_pl (k : Nat → ClassId) (a : Nat → Nat) (σ : T2) : (wX9_X7_1_is).map (fun i => (wX9 k a σ)[i]?) = (wX7 k (fun j => a (1 + j)) (fun j => σ (1 + j))).map some := by
  rw [wX7_q]; exact q_w_pl (fun i => 1 + i) (fun i hi => ⟨(wX9_X7_1_E k a i hi).1, (wX9_X7_1_E k a i hi).2.1, ((wX9_X7_1_E k a i hi).2.2 _).trans (congrArg (EwX7 k (fun j => a (1 + j)) i) rfl)⟩)
theorem wX9_X7_1_r (σ τ : T2) (i : Nat) (hi : i < 17) : sb σ 1 17 τ (1 + i) = τ i := by
  unfold sb; rw [if_pos (by omega), show 1 + i - 1 = i by omega]
theorem wX9_X7_1_o (σ τ : T2) (j : Nat) (hno : ∀ i, i < 17 → 1 + i ≠ j) : sb σ 1 17 τ j = σ j := by
  unfold sb
  rw [if_neg (fun h => hno (j - 1) (by omega) (by omega))]
theorem wX9_X7_1_pt (k : Nat → ClassId) (a : Nat → Nat) (σ τ : T2) : q_put (wX9 k a σ) (wX9_X7_1_is) (wX7 k (fun j => a (1 + j)) τ) = wX9 k a (sb σ 1 17 τ) := by
  rw [wX7_q]; exact q_w_pt (fun i => 1 + i) (wX9_X7_1_inj) (fun i hi => ⟨(wX9_X7_1_E k a i hi).1, (wX9_X7_1_E k a i hi).2.1, ((wX9_X7_1_E k a i hi).2.2 _).trans (congrArg (EwX7 k (fun j => a (1 + j)) i) (wX9_X7_1_r σ τ i hi))⟩) (fun j hj hno => wX9_X7_1_o σ τ j hno)
def wX9_X7_18_is : List Nat := (List.range 17).map (fun i => 18 + i)
theorem wX9_X7_18_inj : ∀ i j, i < 17 → j < 17 → (fun i => 18 + i) i = (fun i => 18 + i) j → i = j := by
  intro i j hi hj h; have h : 18 + i = 18 + j := h; omega
theorem wX9_X7_18_nd : va_nd (wX9_X7_18_is) = true := q_w_nd _ (wX9_X7_18_inj)
theorem wX9_X7_18_E (k : Nat → ClassId) (a : Nat → Nat) : ∀ i, i < 17 → (fun i => 18 + i) i < 180 ∧ a ((fun i => 18 + i) i) = (fun j => a (18 + j)) i ∧ ∀ g : T1, EwX9 k a ((fun i => 18 + i) i) g = EwX7 k (fun j => a (18 + j)) i g := by
  intro i hi
  have key : ∀ g : T1, EwX9 k a ((fun i => 18 + i) i) g = EwX7 k (fun j => a (18 + j)) i g := by
    intro g
    show EwX9 k a (18 + i) g = _
    rcases (show i = 0 ∨ i = 1 ∨ i = 2 ∨ i = 3 ∨ i = 4 ∨ i = 5 ∨ i = 6 ∨ i = 7 ∨ i = 8 ∨ i = 9 ∨ i = 10 ∨ i = 11 ∨ i = 12 ∨ i = 13 ∨ i = 14 ∨ i = 15 ∨ i = 16 by omega) with rfl | rfl | rfl | rfl | rfl | rfl | rfl | rfl | rfl | rfl | rfl | rfl | rfl | rfl | rfl | rfl | rfl <;> rfl
  refine ⟨by show 18 + i < 180; omega, rfl, key⟩
theorem wX9_X7_18_pl (k : Nat → ClassId) (a : Nat → Nat) (σ : T2) : (wX9_X7_18_is).map (fun i => (wX9 k a σ)[i]?) = (wX7 k (fun j => a (18 + j)) (fun j => σ (18 + j))).map some := by
  rw [wX7_q]; exact q_w_pl (fun i => 18 + i) (fun i hi => ⟨(wX9_X7_18_E k a i hi).1, (wX9_X7_18_E k a i hi).2.1, ((wX9_X7_18_E k a i hi).2.2 _).trans (congrArg (EwX7 k (fun j => a (18 + j)) i) rfl)⟩)
theorem wX9_X7_18_r (σ τ : T2) (i : Nat) (hi : i < 17) : sb σ 18 17 τ (18 + i) = τ i := by
  unfold sb; rw [if_pos (by omega), show 18 + i - 18 = i by omega]
theorem wX9_X7_18_o (σ τ : T2) (j : Nat) (hno : ∀ i, i < 17 → 18 + i ≠ j) : sb σ 18 17 τ j = σ j := by
  unfold sb
  rw [if_neg (fun h => hno (j - 18) (by omega) (by omega))]
theorem wX9_X7_18_pt (k : Nat → ClassId) (a : Nat → Nat) (σ τ : T2) : q_put (wX9 k a σ) (wX9_X7_18_is) (wX7 k (fun j => a (18 + j)) τ) = wX9 k a (sb σ 18 17 τ) := by
  rw [wX7_q]; exact q_w_pt (fun i => 18 + i) (wX9_X7_18_inj) (fun i hi => ⟨(wX9_X7_18_E k a i hi).1, (wX9_X7_18_E k a i hi).2.1, ((wX9_X7_18_E k a i hi).2.2 _).trans (congrArg (EwX7 k (fun j => a (18 + j)) i) (wX9_X7_18_r σ τ i hi))⟩) (fun j hj hno => wX9_X7_18_o σ τ j hno)
def wX9_X5_20_is : List Nat := (List.range 3).map (fun i => 20 + i)
theorem wX9_X5_20_inj : ∀ i j, i < 3 → j < 3 → (fun i => 20 + i) i = (fun i => 20 + i) j → i = j := by
  intro i j hi hj h; have h : 20 + i = 20 + j := h; omega
theorem wX9_X5_20_nd : va_nd (wX9_X5_20_is) = true := q_w_nd _ (wX9_X5_20_inj)
theorem wX9_X5_20_E (k : Nat → ClassId) (a : Nat → Nat) : ∀ i, i < 3 → (fun i => 20 + i) i < 180 ∧ a ((fun i => 20 + i) i) = (fun j => a (20 + j)) i ∧ ∀ g : T1, EwX9 k a ((fun i => 20 + i) i) g = EwX5 k (fun j => a (20 + j)) i g := by
  intro i hi
  have key : ∀ g : T1, EwX9 k a ((fun i => 20 + i) i) g = EwX5 k (fun j => a (20 + j)) i g := by
    intro g
    show EwX9 k a (20 + i) g = _
    rcases (show i = 0 ∨ i = 1 ∨ i = 2 by omega) with rfl | rfl | rfl <;> rfl
  refine ⟨by show 20 + i < 180; omega, rfl, key⟩
theorem wX9_X5_20_pl (k : Nat → ClassId) (a : Nat → Nat) (σ : T2) : (wX9_X5_20_is).map (fun i => (wX9 k a σ)[i]?) = (wX5 k (fun j => a (20 + j)) (fun j => σ (20 + j))).map some := by
  rw [wX5_q]; exact q_w_pl (fun i => 20 + i) (fun i hi => ⟨(wX9_X5_20_E k a i hi).1, (wX9_X5_20_E k a i hi).2.1, ((wX9_X5_20_E k a i hi).2.2 _).trans (congrArg (EwX5 k (fun j => a (20 + j)) i) rfl)⟩)
theorem wX9_X5_20_r (σ τ : T2) (i : Nat) (hi : i < 3) : sb σ 20 3 τ (20 + i) = τ i := by
  unfold sb; rw [if_pos (by omega), show 20 + i - 20 = i by omega]
theorem wX9_X5_20_o (σ τ : T2) (j : Nat) (hno : ∀ i, i < 3 → 20 + i ≠ j) : sb σ 20 3 τ j = σ j := by
  unfold sb
  rw [if_neg (fun h => hno (j - 20) (by omega) (by omega))]
theorem wX9_X5_20_pt (k : Nat → ClassId) (a : Nat → Nat) (σ τ : T2) : q_put (wX9 k a σ) (wX9_X5_20_is) (wX5 k (fun j => a (20 + j)) τ) = wX9 k a (sb σ 20 3 τ) := by
  rw [wX5_q]; exact q_w_pt (fun i => 20 + i) (wX9_X5_20_inj) (fun i hi => ⟨(wX9_X5_20_E k a i hi).1, (wX9_X5_20_E k a i hi).2.1, ((wX9_X5_20_E k a i hi).2.2 _).trans (congrArg (EwX5 k (fun j => a (20 + j)) i) (wX9_X5_20_r σ τ i hi))⟩) (fun j hj hno => wX9_X5_20_o σ τ j hno)
def wX9_X5_3_is : List Nat := (List.range 3).map (fun i => 3 + i)
theorem wX9_X5_3_inj : ∀ i j, i < 3 → j < 3 → (fun i => 3 + i) i = (fun i => 3 + i) j → i = j := by
  intro i j hi hj h; have h : 3 + i = 3 + j := h; omega
theorem wX9_X5_3_nd : va_nd (wX9_X5_3_is) = true := q_w_nd _ (wX9_X5_3_inj)
theorem wX9_X5_3_E (k : Nat → ClassId) (a : Nat → Nat) : ∀ i, i < 3 → (fun i => 3 + i) i < 180 ∧ a ((fun i => 3 + i) i) = (fun j => a (3 + j)) i ∧ ∀ g : T1, EwX9 k a ((fun i => 3 + i) i) g = EwX5 k (fun j => a (3 + j)) i g := by
  intro i hi
  have key : ∀ g : T1, EwX9 k a ((fun i => 3 + i) i) g = EwX5 k (fun j => a (3 + j)) i g := by
    intro g
    show EwX9 k a (3 + i) g = _
    rcases (show i = 0 ∨ i = 1 ∨ i = 2 by omega) with rfl | rfl | rfl <;> rfl
  refine ⟨by show 3 + i < 180; omega, rfl, key⟩
theorem wX9_X5_3_pl (k : Nat → ClassId) (a : Nat → Nat) (σ : T2) : (wX9_X5_3_is).map (fun i => (wX9 k a σ)[i]?) = (wX5 k (fun j => a (3 + j)) (fun j => σ (3 + j))).map some := by
  rw [wX5_q]; exact q_w_pl (fun i => 3 + i) (fun i hi => ⟨(wX9_X5_3_E k a i hi).1, (wX9_X5_3_E k a i hi).2.1, ((wX9_X5_3_E k a i hi).2.2 _).trans (congrArg (EwX5 k (fun j => a (3 + j)) i) rfl)⟩)
theorem wX9_X5_3_r (σ τ : T2) (i : Nat) (hi : i < 3) : sb σ 3 3 τ (3 + i) = τ i := by
  unfold sb; rw [if_pos (by omega), show 3 + i - 3 = i by omega]
theorem wX9_X5_3_o (σ τ : T2) (j : Nat) (hno : ∀ i, i < 3 → 3 + i ≠ j) : sb σ 3 3 τ j = σ j := by
  unfold sb
  rw [if_neg (fun h => hno (j - 3) (by omega) (by omega))]
theorem wX9_X5_3_pt (k : Nat → ClassId) (a : Nat → Nat) (σ τ : T2) : q_put (wX9 k a σ) (wX9_X5_3_is) (wX5 k (fun j => a (3 + j)) τ) = wX9 k a (sb σ 3 3 τ) := by
  rw [wX5_q]; exact q_w_pt (fun i => 3 + i) (wX9_X5_3_inj) (fun i hi => ⟨(wX9_X5_3_E k a i hi).1, (wX9_X5_3_E k a i hi).2.1, ((wX9_X5_3_E k a i hi).2.2 _).trans (congrArg (EwX5 k (fun j => a (3 + j)) i) (wX9_X5_3_r σ τ i hi))⟩) (fun j hj hno => wX9_X5_3_o σ τ j hno)
def wX9_X2_6_is : List Nat := (List.range 5).map (fun i => 6 + i)
theorem wX9_X2_6_inj : ∀ i j, i < 5 → j < 5 → (fun i => 6 + i) i = (fun i => 6 + i) j → i = j := by
  intro i j hi hj h; have h : 6 + i = 6 + j := h; omega
theorem wX9_X2_6_nd : va_nd (wX9_X2_6_is) = true := q_w_nd _ (wX9_X2_6_inj)
theorem wX9_X2_6_E (k : Nat → ClassId) (a : Nat → Nat) : ∀ i, i < 5 → (fun i => 6 + i) i < 180 ∧ a ((fun i => 6 + i) i) = (fun j => a (6 + j)) i ∧ ∀ g : T1, EwX9 k a ((fun i => 6 + i) i) g = EwX2 k (fun j => a (6 + j)) i g := by
  intro i hi
  have key : ∀ g : T1, EwX9 k a ((fun i => 6 + i) i) g = EwX2 k (fun j => a (6 + j)) i g := by
    intro g
    show EwX9 k a (6 + i) g = _
    rcases (show i = 0 ∨ i = 1 ∨ i = 2 ∨ i = 3 ∨ i = 4 by omega) with rfl | rfl | rfl | rfl | rfl <;> rfl
  refine ⟨by show 6 + i < 180; omega, rfl, key⟩
theorem wX9_X2_6_pl (k : Nat → ClassId) (a : Nat → Nat) (σ : T2) : (wX9_X2_6_is).map (fun i => (wX9 k a σ)[i]?) = (wX2 k (fun j => a (6 + j)) (fun j => σ (6 + j))).map some := by
  rw [wX2_q]; exact q_w_pl (fun i => 6 + i) (fun i hi => ⟨(wX9_X2_6_E k a i hi).1, (wX9_X2_6_E k a i hi).2.1, ((wX9_X2_6_E k a i hi).2.2 _).trans (congrArg (EwX2 k (fun j => a (6 + j)) i) rfl)⟩)
theorem wX9_X2_6_r (σ τ : T2) (i : Nat) (hi : i < 5) : sb σ 6 5 τ (6 + i) = τ i := by
  unfold sb; rw [if_pos (by omega), show 6 + i - 6 = i by omega]
theorem wX9_X2_6_o (σ τ : T2) (j : Nat) (hno : ∀ i, i < 5 → 6 + i ≠ j) : sb σ 6 5 τ j = σ j := by
  unfold sb
  rw [if_neg (fun h => hno (j - 6) (by omega) (by omega))]
theorem wX9_X2_6_pt (k : Nat → ClassId) (a : Nat → Nat) (σ τ : T2) : q_put (wX9 k a σ) (wX9_X2_6_is) (wX2 k (fun j => a (6 + j)) τ) = wX9 k a (sb σ 6 5 τ) := by
  rw [wX2_q]; exact q_w_pt (fun i => 6 + i) (wX9_X2_6_inj) (fun i hi => ⟨(wX9_X2_6_E k a i hi).1, (wX9_X2_6_E k a i hi).2.1, ((wX9_X2_6_E k a i hi).2.2 _).trans (congrArg (EwX2 k (fun j => a (6 + j)) i) (wX9_X2_6_r σ τ i hi))⟩) (fun j hj hno => wX9_X2_6_o σ τ j hno)
def wX9_X0_11_is : List Nat := (List.range 5).map (fun i => 11 + i)
theorem wX9_X0_11_inj : ∀ i j, i < 5 → j < 5 → (fun i => 11 + i) i = (fun i => 11 + i) j → i = j := by
  intro i j hi hj h; have h : 11 + i = 11 + j := h; omega
theorem wX9_X0_11_nd : va_nd (wX9_X0_11_is) = true := q_w_nd _ (wX9_X0_11_inj)
theorem wX9_X0_11_E (k : Nat → ClassId) (a : Nat → Nat) : ∀ i, i < 5 → (fun i => 11 + i) i < 180 ∧ a ((fun i => 11 + i) i) = (fun j => a (11 + j)) i ∧ ∀ g : T1, EwX9 k a ((fun i => 11 + i) i) g = EwX0 k (fun j => a (11 + j)) i g := by
  intro i hi
  have key : ∀ g : T1, EwX9 k a ((fun i => 11 + i) i) g = EwX0 k (fun j => a (11 + j)) i g := by
    intro g
    show EwX9 k a (11 + i) g = _
    rcases (show i = 0 ∨ i = 1 ∨ i = 2 ∨ i = 3 ∨ i = 4 by omega) with rfl | rfl | rfl | rfl | rfl <;> rfl
  refine ⟨by show 11 + i < 180; omega, rfl, key⟩
theorem wX9_X0_11_pl (k : Nat → ClassId) (a : Nat → Nat) (σ : T2) : (wX9_X0_11_is).map (fun i => (wX9 k a σ)[i]?) = (wX0 k (fun j => a (11 + j)) (fun j => σ (11 + j))).map some := by
  rw [wX0_q]; exact q_w_pl (fun i => 11 + i) (fun i hi => ⟨(wX9_X0_11_E k a i hi).1, (wX9_X0_11_E k a i hi).2.1, ((wX9_X0_11_E k a i hi).2.2 _).trans (congrArg (EwX0 k (fun j => a (11 + j)) i) rfl)⟩)
theorem wX9_X0_11_r (σ τ : T2) (i : Nat) (hi : i < 5) : sb σ 11 5 τ (11 + i) = τ i := by
  unfold sb; rw [if_pos (by omega), show 11 + i - 11 = i by omega]
theorem wX9_X0_11_o (σ τ : T2) (j : Nat) (hno : ∀ i, i < 5 → 11 + i ≠ j) : sb σ 11 5 τ j = σ j := by
  unfold sb
  rw [if_neg (fun h => hno (j - 11) (by omega) (by omega))]
theorem wX9_X0_11_pt (k : Nat → ClassId) (a : Nat → Nat) (σ τ : T2) : q_put (wX9 k a σ) (wX9_X0_11_is) (wX0 k (fun j => a (11 + j)) τ) = wX9 k a (sb σ 11 5 τ) := by
  rw [wX0_q]; exact q_w_pt (fun i => 11 + i) (wX9_X0_11_inj) (fun i hi => ⟨(wX9_X0_11_E k a i hi).1, (wX9_X0_11_E k a i hi).2.1, ((wX9_X0_11_E k a i hi).2.2 _).trans (congrArg (EwX0 k (fun j => a (11 + j)) i) (wX9_X0_11_r σ τ i hi))⟩) (fun j hj hno => wX9_X0_11_o σ τ j hno)
def wX9_X7_X7_18_1_is : List Nat := (List.range 34).map (fun i => if i < 17 then 18 + i else 1 + (i - 17))
theorem wX9_X7_X7_18_1_inj : ∀ i j, i < 34 → j < 34 → (fun i => if i < 17 then 18 + i else 1 + (i - 17)) i = (fun i => if i < 17 then 18 + i else 1 + (i - 17)) j → i = j := by
  intro i j hi hj h; dsimp only at h; by_cases h1 : i < 17 <;> by_cases h2 : j < 17 <;> simp only [h1, h2, if_true, if_false] at h <;> omega
theorem wX9_X7_X7_18_1_nd : va_nd (wX9_X7_X7_18_1_is) = true := q_w_nd _ (wX9_X7_X7_18_1_inj)
theorem wX9_X7_X7_18_1_E (k : Nat → ClassId) (a : Nat → Nat) : ∀ i, i < 34 → (fun i => if i < 17 then 18 + i else 1 + (i - 17)) i < 180 ∧ a ((fun i => if i < 17 then 18 + i else 1 + (i - 17)) i) = (sel a 18 17 1) i ∧ ∀ g : T1, EwX9 k a ((fun i => if i < 17 then 18 + i else 1 + (i - 17)) i) g = EwX7_X7 k (sel a 18 17 1) i g := by
  intro i hi
  have key : ∀ g : T1, EwX9 k a ((fun i => if i < 17 then 18 + i else 1 + (i - 17)) i) g = EwX7_X7 k (sel a 18 17 1) i g := by
    intro g
    by_cases h1 : i < 17
    · rw [show (fun i => if i < 17 then 18 + i else 1 + (i - 17)) i = 18 + i by simp only [h1, if_true]]
      rcases (show i = 0 ∨ i = 1 ∨ i = 2 ∨ i = 3 ∨ i = 4 ∨ i = 5 ∨ i = 6 ∨ i = 7 ∨ i = 8 ∨ i = 9 ∨ i = 10 ∨ i = 11 ∨ i = 12 ∨ i = 13 ∨ i = 14 ∨ i = 15 ∨ i = 16 by omega) with rfl | rfl | rfl | rfl | rfl | rfl | rfl | rfl | rfl | rfl | rfl | rfl | rfl | rfl | rfl | rfl | rfl <;> rfl
    · obtain ⟨j, rfl⟩ : ∃ j, i = 17 + j := ⟨i - 17, by omega⟩
      have hj : j < 17 := by omega
      rw [show (fun i => if i < 17 then 18 + i else 1 + (i - 17)) (17 + j) = 1 + j by simp only [h1, if_false]; omega]
      rcases (show j = 0 ∨ j = 1 ∨ j = 2 ∨ j = 3 ∨ j = 4 ∨ j = 5 ∨ j = 6 ∨ j = 7 ∨ j = 8 ∨ j = 9 ∨ j = 10 ∨ j = 11 ∨ j = 12 ∨ j = 13 ∨ j = 14 ∨ j = 15 ∨ j = 16 by omega) with rfl | rfl | rfl | rfl | rfl | rfl | rfl | rfl | rfl | rfl | rfl | rfl | rfl | rfl | rfl | rfl | rfl <;> rfl
  refine ⟨?_, ?_, key⟩
  · by_cases h1 : i < 17 <;> simp only [h1, if_true, if_false] <;> omega
  · by_cases h1 : i < 17 <;> simp only [sel, h1, if_true, if_false]
theorem wX9_X7_X7_18_1_pl (k : Nat → ClassId) (a : Nat → Nat) (σ : T2) : (wX9_X7_X7_18_1_is).map (fun i => (wX9 k a σ)[i]?) = (wX7_X7 k (sel a 18 17 1) (sel σ 18 17 1)).map some := by
  rw [wX7_X7_q]; exact q_w_pl (fun i => if i < 17 then 18 + i else 1 + (i - 17)) (fun i hi => ⟨(wX9_X7_X7_18_1_E k a i hi).1, (wX9_X7_X7_18_1_E k a i hi).2.1, ((wX9_X7_X7_18_1_E k a i hi).2.2 _).trans (congrArg (EwX7_X7 k (sel a 18 17 1) i) (by by_cases h1 : i < 17 <;> simp only [sel, h1, if_true, if_false]))⟩)
theorem wX9_X7_X7_18_1_r (σ τ : T2) (i : Nat) (hi : i < 34) : sb2 σ 18 17 1 17 τ (if i < 17 then 18 + i else 1 + (i - 17)) = τ i := by
  by_cases h1 : i < 17
  · rw [if_pos h1]; unfold sb2; rw [if_pos (by omega), show 18 + i - 18 = i by omega]
  · rw [if_neg h1]; unfold sb2; rw [if_neg (by omega), if_pos (by omega), show 17 + (1 + (i - 17) - 1) = i by omega]
theorem wX9_X7_X7_18_1_o (σ τ : T2) (j : Nat) (hno : ∀ i, i < 34 → (if i < 17 then 18 + i else 1 + (i - 17)) ≠ j) : sb2 σ 18 17 1 17 τ j = σ j := by
  unfold sb2
  rw [if_neg (fun h => hno (j - 18) (by omega) (by rw [if_pos (show j - 18 < 17 by omega)]; omega)), if_neg (fun h => hno (17 + (j - 1)) (by omega) (by rw [if_neg (show ¬ 17 + (j - 1) < 17 by omega)]; omega))]
theorem wX9_X7_X7_18_1_pt (k : Nat → ClassId) (a : Nat → Nat) (σ τ : T2) : q_put (wX9 k a σ) (wX9_X7_X7_18_1_is) (wX7_X7 k (sel a 18 17 1) τ) = wX9 k a (sb2 σ 18 17 1 17 τ) := by
  rw [wX7_X7_q]; exact q_w_pt (fun i => if i < 17 then 18 + i else 1 + (i - 17)) (wX9_X7_X7_18_1_inj) (fun i hi => ⟨(wX9_X7_X7_18_1_E k a i hi).1, (wX9_X7_X7_18_1_E k a i hi).2.1, ((wX9_X7_X7_18_1_E k a i hi).2.2 _).trans (congrArg (EwX7_X7 k (sel a 18 17 1) i) (wX9_X7_X7_18_1_r σ τ i hi))⟩) (fun j hj hno => wX9_X7_X7_18_1_o σ τ j hno)
def wX9_X5_X5_20_3_is : List Nat := (List.range 6).map (fun i => if i < 3 then 20 + i else 3 + (i - 3))
theorem wX9_X5_X5_20_3_inj : ∀ i j, i < 6 → j < 6 → (fun i => if i < 3 then 20 + i else 3 + (i - 3)) i = (fun i => if i < 3 then 20 + i else 3 + (i - 3)) j → i = j := by
  intro i j hi hj h; dsimp only at h; by_cases h1 : i < 3 <;> by_cases h2 : j < 3 <;> simp only [h1, h2, if_true, if_false] at h <;> omega
theorem wX9_X5_X5_20_3_nd : va_nd (wX9_X5_X5_20_3_is) = true := q_w_nd _ (wX9_X5_X5_20_3_inj)
theorem wX9_X5_X5_20_3_E (k : Nat → ClassId) (a : Nat → Nat) : ∀ i, i < 6 → (fun i => if i < 3 then 20 + i else 3 + (i - 3)) i < 180 ∧ a ((fun i => if i < 3 then 20 + i else 3 + (i - 3)) i) = (sel a 20 3 3) i ∧ ∀ g : T1, EwX9 k a ((fun i => if i < 3 then 20 + i else 3 + (i - 3)) i) g = EwX5_X5 k (sel a 20 3 3) i g := by
  intro i hi
  have key : ∀ g : T1, EwX9 k a ((fun i => if i < 3 then 20 + i else 3 + (i - 3)) i) g = EwX5_X5 k (sel a 20 3 3) i g := by
    intro g
    by_cases h1 : i < 3
    · rw [show (fun i => if i < 3 then 20 + i else 3 + (i - 3)) i = 20 + i by simp only [h1, if_true]]
      rcases (show i = 0 ∨ i = 1 ∨ i = 2 by omega) with rfl | rfl | rfl <;> rfl
    · obtain ⟨j, rfl⟩ : ∃ j, i = 3 + j := ⟨i - 3, by omega⟩
      have hj : j < 3 := by omega
      rw [show (fun i => if i < 3 then 20 + i else 3 + (i - 3)) (3 + j) = 3 + j by simp only [h1, if_false]; omega]
      rcases (show j = 0 ∨ j = 1 ∨ j = 2 by omega) with rfl | rfl | rfl <;> rfl
  refine ⟨?_, ?_, key⟩
  · by_cases h1 : i < 3 <;> simp only [h1, if_true, if_false] <;> omega
  · by_cases h1 : i < 3 <;> simp only [sel, h1, if_true, if_false]
theorem wX9_X5_X5_20_3_pl (k : Nat → ClassId) (a : Nat → Nat) (σ : T2) : (wX9_X5_X5_20_3_is).map (fun i => (wX9 k a σ)[i]?) = (wX5_X5 k (sel a 20 3 3) (sel σ 20 3 3)).map some := by
  rw [wX5_X5_q]; exact q_w_pl (fun i => if i < 3 then 20 + i else 3 + (i - 3)) (fun i hi => ⟨(wX9_X5_X5_20_3_E k a i hi).1, (wX9_X5_X5_20_3_E k a i hi).2.1, ((wX9_X5_X5_20_3_E k a i hi).2.2 _).trans (congrArg (EwX5_X5 k (sel a 20 3 3) i) (by by_cases h1 : i < 3 <;> simp only [sel, h1, if_true, if_false]))⟩)
theorem wX9_X5_X5_20_3_r (σ τ : T2) (i : Nat) (hi : i < 6) : sb2 σ 20 3 3 3 τ (if i < 3 then 20 + i else 3 + (i - 3)) = τ i := by
  by_cases h1 : i < 3
  · rw [if_pos h1]; unfold sb2; rw [if_pos (by omega), show 20 + i - 20 = i by omega]
  · rw [if_neg h1]; unfold sb2; rw [if_neg (by omega), if_pos (by omega), show 3 + (3 + (i - 3) - 3) = i by omega]
theorem wX9_X5_X5_20_3_o (σ τ : T2) (j : Nat) (hno : ∀ i, i < 6 → (if i < 3 then 20 + i else 3 + (i - 3)) ≠ j) : sb2 σ 20 3 3 3 τ j = σ j := by
  unfold sb2
  rw [if_neg (fun h => hno (j - 20) (by omega) (by rw [if_pos (show j - 20 < 3 by omega)]; omega)), if_neg (fun h => hno (3 + (j - 3)) (by omega) (by rw [if_neg (show ¬ 3 + (j - 3) < 3 by omega)]; omega))]
theorem wX9_X5_X5_20_3_pt (k : Nat → ClassId) (a : Nat → Nat) (σ τ : T2) : q_put (wX9 k a σ) (wX9_X5_X5_20_3_is) (wX5_X5 k (sel a 20 3 3) τ) = wX9 k a (sb2 σ 20 3 3 3 τ) := by
  rw [wX5_X5_q]; exact q_w_pt (fun i => if i < 3 then 20 + i else 3 + (i - 3)) (wX9_X5_X5_20_3_inj) (fun i hi => ⟨(wX9_X5_X5_20_3_E k a i hi).1, (wX9_X5_X5_20_3_E k a i hi).2.1, ((wX9_X5_X5_20_3_E k a i hi).2.2 _).trans (congrArg (EwX5_X5 k (sel a 20 3 3) i) (wX9_X5_X5_20_3_r σ τ i hi))⟩) (fun j hj hno => wX9_X5_X5_20_3_o σ τ j hno)
def wX9_X4_175_is : List Nat := (List.range 2).map (fun i => 175 + i)
theorem wX9_X4_175_inj : ∀ i j, i < 2 → j < 2 → (fun i => 175 + i) i = (fun i => 175 + i) j → i = j := by
  intro i j hi hj h; have h : 175 + i = 175 + j := h; omega
theorem wX9_X4_175_nd : va_nd (wX9_X4_175_is) = true := q_w_nd _ (wX9_X4_175_inj)
theorem wX9_X4_175_E (k : Nat → ClassId) (a : Nat → Nat) : ∀ i, i < 2 → (fun i => 175 + i) i < 180 ∧ a ((fun i => 175 + i) i) = (fun j => a (175 + j)) i ∧ ∀ g : T1, EwX9 k a ((fun i => 175 + i) i) g = EwX4 k (fun j => a (175 + j)) i g := by
  intro i hi
  have key : ∀ g : T1, EwX9 k a ((fun i => 175 + i) i) g = EwX4 k (fun j => a (175 + j)) i g := by
    intro g
    show EwX9 k a (175 + i) g = _
    rcases (show i = 0 ∨ i = 1 by omega) with rfl | rfl <;> rfl
  refine ⟨by show 175 + i < 180; omega, rfl, key⟩
theorem wX9_X4_175_pl (k : Nat → ClassId) (a : Nat → Nat) (σ : T2) : (wX9_X4_175_is).map (fun i => (wX9 k a σ)[i]?) = (wX4 k (fun j => a (175 + j)) (fun j => σ (175 + j))).map some := by
  rw [wX4_q]; exact q_w_pl (fun i => 175 + i) (fun i hi => ⟨(wX9_X4_175_E k a i hi).1, (wX9_X4_175_E k a i hi).2.1, ((wX9_X4_175_E k a i hi).2.2 _).trans (congrArg (EwX4 k (fun j => a (175 + j)) i) rfl)⟩)
theorem wX9_X4_175_r (σ τ : T2) (i : Nat) (hi : i < 2) : sb σ 175 2 τ (175 + i) = τ i := by
  unfold sb; rw [if_pos (by omega), show 175 + i - 175 = i by omega]
theorem wX9_X4_175_o (σ τ : T2) (j : Nat) (hno : ∀ i, i < 2 → 175 + i ≠ j) : sb σ 175 2 τ j = σ j := by
  unfold sb
  rw [if_neg (fun h => hno (j - 175) (by omega) (by omega))]
theorem wX9_X4_175_pt (k : Nat → ClassId) (a : Nat → Nat) (σ τ : T2) : q_put (wX9 k a σ) (wX9_X4_175_is) (wX4 k (fun j => a (175 + j)) τ) = wX9 k a (sb σ 175 2 τ) := by
  rw [wX4_q]; exact q_w_pt (fun i => 175 + i) (wX9_X4_175_inj) (fun i hi => ⟨(wX9_X4_175_E k a i hi).1, (wX9_X4_175_E k a i hi).2.1, ((wX9_X4_175_E k a i hi).2.2 _).trans (congrArg (EwX4 k (fun j => a (175 + j)) i) (wX9_X4_175_r σ τ i hi))⟩) (fun j hj hno => wX9_X4_175_o σ τ j hno)
def wX9_X6_X4_177_175_is : List Nat := (List.range 5).map (fun i => if i < 3 then 177 + i else 175 + (i - 3))
theorem wX9_X6_X4_177_175_inj : ∀ i j, i < 5 → j < 5 → (fun i => if i < 3 then 177 + i else 175 + (i - 3)) i = (fun i => if i < 3 then 177 + i else 175 + (i - 3)) j → i = j := by
  intro i j hi hj h; dsimp only at h; by_cases h1 : i < 3 <;> by_cases h2 : j < 3 <;> simp only [h1, h2, if_true, if_false] at h <;> omega
theorem wX9_X6_X4_177_175_nd : va_nd (wX9_X6_X4_177_175_is) = true := q_w_nd _ (wX9_X6_X4_177_175_inj)
theorem wX9_X6_X4_177_175_E (k : Nat → ClassId) (a : Nat → Nat) : ∀ i, i < 5 → (fun i => if i < 3 then 177 + i else 175 + (i - 3)) i < 180 ∧ a ((fun i => if i < 3 then 177 + i else 175 + (i - 3)) i) = (sel a 177 3 175) i ∧ ∀ g : T1, EwX9 k a ((fun i => if i < 3 then 177 + i else 175 + (i - 3)) i) g = EwX6_X4 k (sel a 177 3 175) i g := by
  intro i hi
  have key : ∀ g : T1, EwX9 k a ((fun i => if i < 3 then 177 + i else 175 + (i - 3)) i) g = EwX6_X4 k (sel a 177 3 175) i g := by
    intro g
    by_cases h1 : i < 3
    · rw [show (fun i => if i < 3 then 177 + i else 175 + (i - 3)) i = 177 + i by simp only [h1, if_true]]
      rcases (show i = 0 ∨ i = 1 ∨ i = 2 by omega) with rfl | rfl | rfl <;> rfl
    · obtain ⟨j, rfl⟩ : ∃ j, i = 3 + j := ⟨i - 3, by omega⟩
      have hj : j < 2 := by omega
      rw [show (fun i => if i < 3 then 177 + i else 175 + (i - 3)) (3 + j) = 175 + j by simp only [h1, if_false]; omega]
      rcases (show j = 0 ∨ j = 1 by omega) with rfl | rfl <;> rfl
  refine ⟨?_, ?_, key⟩
  · by_cases h1 : i < 3 <;> simp only [h1, if_true, if_false] <;> omega
  · by_cases h1 : i < 3 <;> simp only [sel, h1, if_true, if_false]
theorem wX9_X6_X4_177_175_pl (k : Nat → ClassId) (a : Nat → Nat) (σ : T2) : (wX9_X6_X4_177_175_is).map (fun i => (wX9 k a σ)[i]?) = (wX6_X4 k (sel a 177 3 175) (sel σ 177 3 175)).map some := by
  rw [wX6_X4_q]; exact q_w_pl (fun i => if i < 3 then 177 + i else 175 + (i - 3)) (fun i hi => ⟨(wX9_X6_X4_177_175_E k a i hi).1, (wX9_X6_X4_177_175_E k a i hi).2.1, ((wX9_X6_X4_177_175_E k a i hi).2.2 _).trans (congrArg (EwX6_X4 k (sel a 177 3 175) i) (by by_cases h1 : i < 3 <;> simp only [sel, h1, if_true, if_false]))⟩)
theorem wX9_X6_X4_177_175_r (σ τ : T2) (i : Nat) (hi : i < 5) : sb2 σ 177 3 175 2 τ (if i < 3 then 177 + i else 175 + (i - 3)) = τ i := by
  by_cases h1 : i < 3
  · rw [if_pos h1]; unfold sb2; rw [if_pos (by omega), show 177 + i - 177 = i by omega]
  · rw [if_neg h1]; unfold sb2; rw [if_neg (by omega), if_pos (by omega), show 3 + (175 + (i - 3) - 175) = i by omega]
theorem wX9_X6_X4_177_175_o (σ τ : T2) (j : Nat) (hno : ∀ i, i < 5 → (if i < 3 then 177 + i else 175 + (i - 3)) ≠ j) : sb2 σ 177 3 175 2 τ j = σ j := by
  unfold sb2
  rw [if_neg (fun h => hno (j - 177) (by omega) (by rw [if_pos (show j - 177 < 3 by omega)]; omega)), if_neg (fun h => hno (3 + (j - 175)) (by omega) (by rw [if_neg (show ¬ 3 + (j - 175) < 3 by omega)]; omega))]
theorem wX9_X6_X4_177_175_pt (k : Nat → ClassId) (a : Nat → Nat) (σ τ : T2) : q_put (wX9 k a σ) (wX9_X6_X4_177_175_is) (wX6_X4 k (sel a 177 3 175) τ) = wX9 k a (sb2 σ 177 3 175 2 τ) := by
  rw [wX6_X4_q]; exact q_w_pt (fun i => if i < 3 then 177 + i else 175 + (i - 3)) (wX9_X6_X4_177_175_inj) (fun i hi => ⟨(wX9_X6_X4_177_175_E k a i hi).1, (wX9_X6_X4_177_175_E k a i hi).2.1, ((wX9_X6_X4_177_175_E k a i hi).2.2 _).trans (congrArg (EwX6_X4 k (sel a 177 3 175) i) (wX9_X6_X4_177_175_r σ τ i hi))⟩) (fun j hj hno => wX9_X6_X4_177_175_o σ τ j hno)
def wX9_X5_X6_20_177_is : List Nat := (List.range 6).map (fun i => if i < 3 then 20 + i else 177 + (i - 3))
theorem wX9_X5_X6_20_177_inj : ∀ i j, i < 6 → j < 6 → (fun i => if i < 3 then 20 + i else 177 + (i - 3)) i = (fun i => if i < 3 then 20 + i else 177 + (i - 3)) j → i = j := by
  intro i j hi hj h; dsimp only at h; by_cases h1 : i < 3 <;> by_cases h2 : j < 3 <;> simp only [h1, h2, if_true, if_false] at h <;> omega
theorem wX9_X5_X6_20_177_nd : va_nd (wX9_X5_X6_20_177_is) = true := q_w_nd _ (wX9_X5_X6_20_177_inj)
theorem wX9_X5_X6_20_177_E (k : Nat → ClassId) (a : Nat → Nat) : ∀ i, i < 6 → (fun i => if i < 3 then 20 + i else 177 + (i - 3)) i < 180 ∧ a ((fun i => if i < 3 then 20 + i else 177 + (i - 3)) i) = (sel a 20 3 177) i ∧ ∀ g : T1, EwX9 k a ((fun i => if i < 3 then 20 + i else 177 + (i - 3)) i) g = EwX5_X6 k (sel a 20 3 177) i g := by
  intro i hi
  have key : ∀ g : T1, EwX9 k a ((fun i => if i < 3 then 20 + i else 177 + (i - 3)) i) g = EwX5_X6 k (sel a 20 3 177) i g := by
    intro g
    by_cases h1 : i < 3
    · rw [show (fun i => if i < 3 then 20 + i else 177 + (i - 3)) i = 20 + i by simp only [h1, if_true]]
      rcases (show i = 0 ∨ i = 1 ∨ i = 2 by omega) with rfl | rfl | rfl <;> rfl
    · obtain ⟨j, rfl⟩ : ∃ j, i = 3 + j := ⟨i - 3, by omega⟩
      have hj : j < 3 := by omega
      rw [show (fun i => if i < 3 then 20 + i else 177 + (i - 3)) (3 + j) = 177 + j by simp only [h1, if_false]; omega]
      rcases (show j = 0 ∨ j = 1 ∨ j = 2 by omega) with rfl | rfl | rfl <;> rfl
  refine ⟨?_, ?_, key⟩
  · by_cases h1 : i < 3 <;> simp only [h1, if_true, if_false] <;> omega
  · by_cases h1 : i < 3 <;> simp only [sel, h1, if_true, if_false]
theorem wX9_X5_X6_20_177_pl (k : Nat → ClassId) (a : Nat → Nat) (σ : T2) : (wX9_X5_X6_20_177_is).map (fun i => (wX9 k a σ)[i]?) = (wX5_X6 k (sel a 20 3 177) (sel σ 20 3 177)).map some := by
  rw [wX5_X6_q]; exact q_w_pl (fun i => if i < 3 then 20 + i else 177 + (i - 3)) (fun i hi => ⟨(wX9_X5_X6_20_177_E k a i hi).1, (wX9_X5_X6_20_177_E k a i hi).2.1, ((wX9_X5_X6_20_177_E k a i hi).2.2 _).trans (congrArg (EwX5_X6 k (sel a 20 3 177) i) (by by_cases h1 : i < 3 <;> simp only [sel, h1, if_true, if_false]))⟩)
theorem wX9_X5_X6_20_177_r (σ τ : T2) (i : Nat) (hi : i < 6) : sb2 σ 20 3 177 3 τ (if i < 3 then 20 + i else 177 + (i - 3)) = τ i := by
  by_cases h1 : i < 3
  · rw [if_pos h1]; unfold sb2; rw [if_pos (by omega), show 20 + i - 20 = i by omega]
  · rw [if_neg h1]; unfold sb2; rw [if_neg (by omega), if_pos (by omega), show 3 + (177 + (i - 3) - 177) = i by omega]
theorem wX9_X5_X6_20_177_o (σ τ : T2) (j : Nat) (hno : ∀ i, i < 6 → (if i < 3 then 20 + i else 177 + (i - 3)) ≠ j) : sb2 σ 20 3 177 3 τ j = σ j := by
  unfold sb2
  rw [if_neg (fun h => hno (j - 20) (by omega) (by rw [if_pos (show j - 20 < 3 by omega)]; omega)), if_neg (fun h => hno (3 + (j - 177)) (by omega) (by rw [if_neg (show ¬ 3 + (j - 177) < 3 by omega)]; omega))]
theorem wX9_X5_X6_20_177_pt (k : Nat → ClassId) (a : Nat → Nat) (σ τ : T2) : q_put (wX9 k a σ) (wX9_X5_X6_20_177_is) (wX5_X6 k (sel a 20 3 177) τ) = wX9 k a (sb2 σ 20 3 177 3 τ) := by
  rw [wX5_X6_q]; exact q_w_pt (fun i => if i < 3 then 20 + i else 177 + (i - 3)) (wX9_X5_X6_20_177_inj) (fun i hi => ⟨(wX9_X5_X6_20_177_E k a i hi).1, (wX9_X5_X6_20_177_E k a i hi).2.1, ((wX9_X5_X6_20_177_E k a i hi).2.2 _).trans (congrArg (EwX5_X6 k (sel a 20 3 177) i) (wX9_X5_X6_20_177_r σ τ i hi))⟩) (fun j hj hno => wX9_X5_X6_20_177_o σ τ j hno)
def wX9_X5_X5_3_20_is : List Nat := (List.range 6).map (fun i => if i < 3 then 3 + i else 20 + (i - 3))
theorem wX9_X5_X5_3_20_inj : ∀ i j, i < 6 → j < 6 → (fun i => if i < 3 then 3 + i else 20 + (i - 3)) i = (fun i => if i < 3 then 3 + i else 20 + (i - 3)) j → i = j := by
  intro i j hi hj h; dsimp only at h; by_cases h1 : i < 3 <;> by_cases h2 : j < 3 <;> simp only [h1, h2, if_true, if_false] at h <;> omega
theorem wX9_X5_X5_3_20_nd : va_nd (wX9_X5_X5_3_20_is) = true := q_w_nd _ (wX9_X5_X5_3_20_inj)
theorem wX9_X5_X5_3_20_E (k : Nat → ClassId) (a : Nat → Nat) : ∀ i, i < 6 → (fun i => if i < 3 then 3 + i else 20 + (i - 3)) i < 180 ∧ a ((fun i => if i < 3 then 3 + i else 20 + (i - 3)) i) = (sel a 3 3 20) i ∧ ∀ g : T1, EwX9 k a ((fun i => if i < 3 then 3 + i else 20 + (i - 3)) i) g = EwX5_X5 k (sel a 3 3 20) i g := by
  intro i hi
  have key : ∀ g : T1, EwX9 k a ((fun i => if i < 3 then 3 + i else 20 + (i - 3)) i) g = EwX5_X5 k (sel a 3 3 20) i g := by
    intro g
    by_cases h1 : i < 3
    · rw [show (fun i => if i < 3 then 3 + i else 20 + (i - 3)) i = 3 + i by simp only [h1, if_true]]
      rcases (show i = 0 ∨ i = 1 ∨ i = 2 by omega) with rfl | rfl | rfl <;> rfl
    · obtain ⟨j, rfl⟩ : ∃ j, i = 3 + j := ⟨i - 3, by omega⟩
      have hj : j < 3 := by omega
      rw [show (fun i => if i < 3 then 3 + i else 20 + (i - 3)) (3 + j) = 20 + j by simp only [h1, if_false]; omega]
      rcases (show j = 0 ∨ j = 1 ∨ j = 2 by omega) with rfl | rfl | rfl <;> rfl
  refine ⟨?_, ?_, key⟩
  · by_cases h1 : i < 3 <;> simp only [h1, if_true, if_false] <;> omega
  · by_cases h1 : i < 3 <;> simp only [sel, h1, if_true, if_false]
theorem wX9_X5_X5_3_20_pl (k : Nat → ClassId) (a : Nat → Nat) (σ : T2) : (wX9_X5_X5_3_20_is).map (fun i => (wX9 k a σ)[i]?) = (wX5_X5 k (sel a 3 3 20) (sel σ 3 3 20)).map some := by
  rw [wX5_X5_q]; exact q_w_pl (fun i => if i < 3 then 3 + i else 20 + (i - 3)) (fun i hi => ⟨(wX9_X5_X5_3_20_E k a i hi).1, (wX9_X5_X5_3_20_E k a i hi).2.1, ((wX9_X5_X5_3_20_E k a i hi).2.2 _).trans (congrArg (EwX5_X5 k (sel a 3 3 20) i) (by by_cases h1 : i < 3 <;> simp only [sel, h1, if_true, if_false]))⟩)
theorem wX9_X5_X5_3_20_r (σ τ : T2) (i : Nat) (hi : i < 6) : sb2 σ 3 3 20 3 τ (if i < 3 then 3 + i else 20 + (i - 3)) = τ i := by
  by_cases h1 : i < 3
  · rw [if_pos h1]; unfold sb2; rw [if_pos (by omega), show 3 + i - 3 = i by omega]
  · rw [if_neg h1]; unfold sb2; rw [if_neg (by omega), if_pos (by omega), show 3 + (20 + (i - 3) - 20) = i by omega]
theorem wX9_X5_X5_3_20_o (σ τ : T2) (j : Nat) (hno : ∀ i, i < 6 → (if i < 3 then 3 + i else 20 + (i - 3)) ≠ j) : sb2 σ 3 3 20 3 τ j = σ j := by
  unfold sb2
  rw [if_neg (fun h => hno (j - 3) (by omega) (by rw [if_pos (show j - 3 < 3 by omega)]; omega)), if_neg (fun h => hno (3 + (j - 20)) (by omega) (by rw [if_neg (show ¬ 3 + (j - 20) < 3 by omega)]; omega))]
theorem wX9_X5_X5_3_20_pt (k : Nat → ClassId) (a : Nat → Nat) (σ τ : T2) : q_put (wX9 k a σ) (wX9_X5_X5_3_20_is) (wX5_X5 k (sel a 3 3 20) τ) = wX9 k a (sb2 σ 3 3 20 3 τ) := by
  rw [wX5_X5_q]; exact q_w_pt (fun i => if i < 3 then 3 + i else 20 + (i - 3)) (wX9_X5_X5_3_20_inj) (fun i hi => ⟨(wX9_X5_X5_3_20_E k a i hi).1, (wX9_X5_X5_3_20_E k a i hi).2.1, ((wX9_X5_X5_3_20_E k a i hi).2.2 _).trans (congrArg (EwX5_X5 k (sel a 3 3 20) i) (wX9_X5_X5_3_20_r σ τ i hi))⟩) (fun j hj hno => wX9_X5_X5_3_20_o σ τ j hno)
def wX9_X7_X7_q140_1_is (q : Nat) : List Nat := (List.range 34).map (fun i => if i < 17 then (140 + 17 * q) + i else 1 + (i - 17))
theorem wX9_X7_X7_q140_1_inj (q : Nat) (hq : q < 2) : ∀ i j, i < 34 → j < 34 → (fun i => if i < 17 then (140 + 17 * q) + i else 1 + (i - 17)) i = (fun i => if i < 17 then (140 + 17 * q) + i else 1 + (i - 17)) j → i = j := by
  intro i j hi hj h; dsimp only at h; by_cases h1 : i < 17 <;> by_cases h2 : j < 17 <;> simp only [h1, h2, if_true, if_false] at h <;> omega
theorem wX9_X7_X7_q140_1_nd (q : Nat) (hq : q < 2) : va_nd (wX9_X7_X7_q140_1_is q) = true := q_w_nd _ (wX9_X7_X7_q140_1_inj q hq)
theorem wX9_X7_X7_q140_1_E (k : Nat → ClassId) (a : Nat → Nat) (q : Nat) (hq : q < 2) : ∀ i, i < 34 → (fun i => if i < 17 then (140 + 17 * q) + i else 1 + (i - 17)) i < 180 ∧ a ((fun i => if i < 17 then (140 + 17 * q) + i else 1 + (i - 17)) i) = (sel a (140 + 17 * q) 17 1) i ∧ ∀ g : T1, EwX9 k a ((fun i => if i < 17 then (140 + 17 * q) + i else 1 + (i - 17)) i) g = EwX7_X7 k (sel a (140 + 17 * q) 17 1) i g := by
  intro i hi
  have key : ∀ g : T1, EwX9 k a ((fun i => if i < 17 then (140 + 17 * q) + i else 1 + (i - 17)) i) g = EwX7_X7 k (sel a (140 + 17 * q) 17 1) i g := by
    intro g
    by_cases h1 : i < 17
    · rw [show (fun i => if i < 17 then (140 + 17 * q) + i else 1 + (i - 17)) i = (140 + 17 * q) + i by simp only [h1, if_true]]
      rw [EwX9_b140 k a q i hq (by omega) g]
      rcases (show i = 0 ∨ i = 1 ∨ i = 2 ∨ i = 3 ∨ i = 4 ∨ i = 5 ∨ i = 6 ∨ i = 7 ∨ i = 8 ∨ i = 9 ∨ i = 10 ∨ i = 11 ∨ i = 12 ∨ i = 13 ∨ i = 14 ∨ i = 15 ∨ i = 16 by omega) with rfl | rfl | rfl | rfl | rfl | rfl | rfl | rfl | rfl | rfl | rfl | rfl | rfl | rfl | rfl | rfl | rfl <;> rfl
    · obtain ⟨j, rfl⟩ : ∃ j, i = 17 + j := ⟨i - 17, by omega⟩
      have hj : j < 17 := by omega
      rw [show (fun i => if i < 17 then (140 + 17 * q) + i else 1 + (i - 17)) (17 + j) = 1 + j by simp only [h1, if_false]; omega]
      rcases (show j = 0 ∨ j = 1 ∨ j = 2 ∨ j = 3 ∨ j = 4 ∨ j = 5 ∨ j = 6 ∨ j = 7 ∨ j = 8 ∨ j = 9 ∨ j = 10 ∨ j = 11 ∨ j = 12 ∨ j = 13 ∨ j = 14 ∨ j = 15 ∨ j = 16 by omega) with rfl | rfl | rfl | rfl | rfl | rfl | rfl | rfl | rfl | rfl | rfl | rfl | rfl | rfl | rfl | rfl | rfl <;> rfl
  refine ⟨?_, ?_, key⟩
  · by_cases h1 : i < 17 <;> simp only [h1, if_true, if_false] <;> omega
  · by_cases h1 : i < 17 <;> simp only [sel, h1, if_true, if_false]
theorem wX9_X7_X7_q140_1_pl (k : Nat → ClassId) (a : Nat → Nat) (σ : T2) (q : Nat) (hq : q < 2) : (wX9_X7_X7_q140_1_is q).map (fun i => (wX9 k a σ)[i]?) = (wX7_X7 k (sel a (140 + 17 * q) 17 1) (sel σ (140 + 17 * q) 17 1)).map some := by
  rw [wX7_X7_q]; exact q_w_pl (fun i => if i < 17 then (140 + 17 * q) + i else 1 + (i - 17)) (fun i hi => ⟨(wX9_X7_X7_q140_1_E k a q hq i hi).1, (wX9_X7_X7_q140_1_E k a q hq i hi).2.1, ((wX9_X7_X7_q140_1_E k a q hq i hi).2.2 _).trans (congrArg (EwX7_X7 k (sel a (140 + 17 * q) 17 1) i) (by by_cases h1 : i < 17 <;> simp only [sel, h1, if_true, if_false]))⟩)
theorem wX9_X7_X7_q140_1_r (σ τ : T2) (q : Nat) (hq : q < 2) (i : Nat) (hi : i < 34) : sb2 σ (140 + 17 * q) 17 1 17 τ (if i < 17 then (140 + 17 * q) + i else 1 + (i - 17)) = τ i := by
  by_cases h1 : i < 17
  · rw [if_pos h1]; unfold sb2; rw [if_pos (by omega), show (140 + 17 * q) + i - (140 + 17 * q) = i by omega]
  · rw [if_neg h1]; unfold sb2; rw [if_neg (by omega), if_pos (by omega), show 17 + (1 + (i - 17) - 1) = i by omega]
theorem wX9_X7_X7_q140_1_o (σ τ : T2) (q : Nat) (hq : q < 2) (j : Nat) (hno : ∀ i, i < 34 → (if i < 17 then (140 + 17 * q) + i else 1 + (i - 17)) ≠ j) : sb2 σ (140 + 17 * q) 17 1 17 τ j = σ j := by
  unfold sb2
  rw [if_neg (fun h => hno (j - (140 + 17 * q)) (by omega) (by rw [if_pos (show j - (140 + 17 * q) < 17 by omega)]; omega)), if_neg (fun h => hno (17 + (j - 1)) (by omega) (by rw [if_neg (show ¬ 17 + (j - 1) < 17 by omega)]; omega))]
theorem wX9_X7_X7_q140_1_pt (k : Nat → ClassId) (a : Nat → Nat) (σ τ : T2) (q : Nat) (hq : q < 2) : q_put (wX9 k a σ) (wX9_X7_X7_q140_1_is q) (wX7_X7 k (sel a (140 + 17 * q) 17 1) τ) = wX9 k a (sb2 σ (140 + 17 * q) 17 1 17 τ) := by
  rw [wX7_X7_q]; exact q_w_pt (fun i => if i < 17 then (140 + 17 * q) + i else 1 + (i - 17)) (wX9_X7_X7_q140_1_inj q hq) (fun i hi => ⟨(wX9_X7_X7_q140_1_E k a q hq i hi).1, (wX9_X7_X7_q140_1_E k a q hq i hi).2.1, ((wX9_X7_X7_q140_1_E k a q hq i hi).2.2 _).trans (congrArg (EwX7_X7 k (sel a (140 + 17 * q) 17 1) i) (wX9_X7_X7_q140_1_r σ τ q hq i hi))⟩) (fun j hj hno => wX9_X7_X7_q140_1_o σ τ q hq j hno)
def wX9_X7_X7_1_q140_is (q : Nat) : List Nat := (List.range 34).map (fun i => if i < 17 then 1 + i else (140 + 17 * q) + (i - 17))
theorem wX9_X7_X7_1_q140_inj (q : Nat) (hq : q < 2) : ∀ i j, i < 34 → j < 34 → (fun i => if i < 17 then 1 + i else (140 + 17 * q) + (i - 17)) i = (fun i => if i < 17 then 1 + i else (140 + 17 * q) + (i - 17)) j → i = j := by
  intro i j hi hj h; dsimp only at h; by_cases h1 : i < 17 <;> by_cases h2 : j < 17 <;> simp only [h1, h2, if_true, if_false] at h <;> omega
theorem wX9_X7_X7_1_q140_nd (q : Nat) (hq : q < 2) : va_nd (wX9_X7_X7_1_q140_is q) = true := q_w_nd _ (wX9_X7_X7_1_q140_inj q hq)
theorem wX9_X7_X7_1_q140_E (k : Nat → ClassId) (a : Nat → Nat) (q : Nat) (hq : q < 2) : ∀ i, i < 34 → (fun i => if i < 17 then 1 + i else (140 + 17 * q) + (i - 17)) i < 180 ∧ a ((fun i => if i < 17 then 1 + i else (140 + 17 * q) + (i - 17)) i) = (sel a 1 17 (140 + 17 * q)) i ∧ ∀ g : T1, EwX9 k a ((fun i => if i < 17 then 1 + i else (140 + 17 * q) + (i - 17)) i) g = EwX7_X7 k (sel a 1 17 (140 + 17 * q)) i g := by
  intro i hi
  have key : ∀ g : T1, EwX9 k a ((fun i => if i < 17 then 1 + i else (140 + 17 * q) + (i - 17)) i) g = EwX7_X7 k (sel a 1 17 (140 + 17 * q)) i g := by
    intro g
    by_cases h1 : i < 17
    · rw [show (fun i => if i < 17 then 1 + i else (140 + 17 * q) + (i - 17)) i = 1 + i by simp only [h1, if_true]]
      rcases (show i = 0 ∨ i = 1 ∨ i = 2 ∨ i = 3 ∨ i = 4 ∨ i = 5 ∨ i = 6 ∨ i = 7 ∨ i = 8 ∨ i = 9 ∨ i = 10 ∨ i = 11 ∨ i = 12 ∨ i = 13 ∨ i = 14 ∨ i = 15 ∨ i = 16 by omega) with rfl | rfl | rfl | rfl | rfl | rfl | rfl | rfl | rfl | rfl | rfl | rfl | rfl | rfl | rfl | rfl | rfl <;> rfl
    · obtain ⟨j, rfl⟩ : ∃ j, i = 17 + j := ⟨i - 17, by omega⟩
      have hj : j < 17 := by omega
      rw [show (fun i => if i < 17 then 1 + i else (140 + 17 * q) + (i - 17)) (17 + j) = (140 + 17 * q) + j by simp only [h1, if_false]; omega]
      rw [EwX9_b140 k a q j hq hj g]
      rcases (show j = 0 ∨ j = 1 ∨ j = 2 ∨ j = 3 ∨ j = 4 ∨ j = 5 ∨ j = 6 ∨ j = 7 ∨ j = 8 ∨ j = 9 ∨ j = 10 ∨ j = 11 ∨ j = 12 ∨ j = 13 ∨ j = 14 ∨ j = 15 ∨ j = 16 by omega) with rfl | rfl | rfl | rfl | rfl | rfl | rfl | rfl | rfl | rfl | rfl | rfl | rfl | rfl | rfl | rfl | rfl <;> rfl
  refine ⟨?_, ?_, key⟩
  · by_cases h1 : i < 17 <;> simp only [h1, if_true, if_false] <;> omega
  · by_cases h1 : i < 17 <;> simp only [sel, h1, if_true, if_false]
theorem wX9_X7_X7_1_q140_pl (k : Nat → ClassId) (a : Nat → Nat) (σ : T2) (q : Nat) (hq : q < 2) : (wX9_X7_X7_1_q140_is q).map (fun i => (wX9 k a σ)[i]?) = (wX7_X7 k (sel a 1 17 (140 + 17 * q)) (sel σ 1 17 (140 + 17 * q))).map some := by
  rw [wX7_X7_q]; exact q_w_pl (fun i => if i < 17 then 1 + i else (140 + 17 * q) + (i - 17)) (fun i hi => ⟨(wX9_X7_X7_1_q140_E k a q hq i hi).1, (wX9_X7_X7_1_q140_E k a q hq i hi).2.1, ((wX9_X7_X7_1_q140_E k a q hq i hi).2.2 _).trans (congrArg (EwX7_X7 k (sel a 1 17 (140 + 17 * q)) i) (by by_cases h1 : i < 17 <;> simp only [sel, h1, if_true, if_false]))⟩)
theorem wX9_X7_X7_1_q140_r (σ τ : T2) (q : Nat) (hq : q < 2) (i : Nat) (hi : i < 34) : sb2 σ 1 17 (140 + 17 * q) 17 τ (if i < 17 then 1 + i else (140 + 17 * q) + (i - 17)) = τ i := by
  by_cases h1 : i < 17
  · rw [if_pos h1]; unfold sb2; rw [if_pos (by omega), show 1 + i - 1 = i by omega]
  · rw [if_neg h1]; unfold sb2; rw [if_neg (by omega), if_pos (by omega), show 17 + ((140 + 17 * q) + (i - 17) - (140 + 17 * q)) = i by omega]
theorem wX9_X7_X7_1_q140_o (σ τ : T2) (q : Nat) (hq : q < 2) (j : Nat) (hno : ∀ i, i < 34 → (if i < 17 then 1 + i else (140 + 17 * q) + (i - 17)) ≠ j) : sb2 σ 1 17 (140 + 17 * q) 17 τ j = σ j := by
  unfold sb2
  rw [if_neg (fun h => hno (j - 1) (by omega) (by rw [if_pos (show j - 1 < 17 by omega)]; omega)), if_neg (fun h => hno (17 + (j - (140 + 17 * q))) (by omega) (by rw [if_neg (show ¬ 17 + (j - (140 + 17 * q)) < 17 by omega)]; omega))]
theorem wX9_X7_X7_1_q140_pt (k : Nat → ClassId) (a : Nat → Nat) (σ τ : T2) (q : Nat) (hq : q < 2) : q_put (wX9 k a σ) (wX9_X7_X7_1_q140_is q) (wX7_X7 k (sel a 1 17 (140 + 17 * q)) τ) = wX9 k a (sb2 σ 1 17 (140 + 17 * q) 17 τ) := by
  rw [wX7_X7_q]; exact q_w_pt (fun i => if i < 17 then 1 + i else (140 + 17 * q) + (i - 17)) (wX9_X7_X7_1_q140_inj q hq) (fun i hi => ⟨(wX9_X7_X7_1_q140_E k a q hq i hi).1, (wX9_X7_X7_1_q140_E k a q hq i hi).2.1, ((wX9_X7_X7_1_q140_E k a q hq i hi).2.2 _).trans (congrArg (EwX7_X7 k (sel a 1 17 (140 + 17 * q)) i) (wX9_X7_X7_1_q140_r σ τ q hq i hi))⟩) (fun j hj hno => wX9_X7_X7_1_q140_o σ τ q hq j hno)
theorem hd_X9_isIn : yX9_isIn.cls ≠ "java/lang/invoke/MethodHandle" ∧ yX9_isIn.cls ≠ "java/lang/invoke/VarHandle" ∧ (parseMethodDescriptor yX9_isIn.desc).map (fun d => d.parameters.length) = some 3 := by decide +kernel
noncomputable def P_X9_isIn_b0 (v0 : Int32) (v1 : Int32) (v2 : Int32) : Int32 := if v0 < v1 then ((0 : Int32)) else (if v2 < v0 then ((0 : Int32)) else ((1 : Int32)))
def S_X9_isIn_b0 (v0 : Int32) (v1 : Int32) (v2 : Int32) : Prop := (v0 < v1 → (True)) ∧ (¬ (v0 < v1) → ((v2 < v0 → (True)) ∧ (¬ (v2 < v0) → (True))))
theorem P_X9_isIn_b0_e (v0 : Int32) (v1 : Int32) (v2 : Int32) : P_X9_isIn_b0 v0 v1 v2 = if v0 < v1 then ((0 : Int32)) else (if v2 < v0 then ((0 : Int32)) else ((1 : Int32))) := rfl
theorem S_X9_isIn_b0_e (v0 : Int32) (v1 : Int32) (v2 : Int32) : S_X9_isIn_b0 v0 v1 v2 = ((v0 < v1 → (True)) ∧ (¬ (v0 < v1) → ((v2 < v0 → (True)) ∧ (¬ (v2 < v0) → (True))))) := rfl
noncomputable def P_X9_isIn (p0 : Int32) (p1 : Int32) (p2 : Int32) : Int32 := P_X9_isIn_b0 p0 p1 p2
def S_X9_isIn (p0 : Int32) (p1 : Int32) (p2 : Int32) : Prop := S_X9_isIn_b0 p0 p1 p2
set_option maxHeartbeats 400000 in
set_option maxRecDepth 100000 in
theorem b_X9_isIn_b0 {p : Program} {e : Env} {s : State} {m : MethodId} {args : Array Value} {below : List Frame} {meth : Method} {c : Code} (l : Launch) (C0 : q_C1 p s m meth c args RX9 cX9_isIn 3 (some .boolean) wsX9_isIn) (R : Int32) : ∀ (v0 : Int32) (v1 : Int32) (v2 : Int32), S_X9_isIn_b0 v0 v1 v2 → P_X9_isIn_b0 v0 v1 v2 = R → ∀ (H : Heap) (locs : List Loc) (ls : Array Slot), lv_has ls 3 [(0, .int v0), (1, .int v1), (2, .int v2)] → W p l e { frames := 0, cells := 0, slots := 0, locals := 0 } s m args below meth c s.heap [] 0 0 (MQ below (vp_Si (fun r => r = R)) args s 0 0 (fun _ => False)) (F0 m 0 ls []) := by
  intro v0 v1 v2 hs hR H locs ls hl
  rw [P_X9_isIn_b0_e] at hR
  rw [S_X9_isIn_b0_e] at hs
  obtain ⟨hx, hb, hr, hml, hts, hown, hlocks⟩ := id C0
  refine lv_iload_n hx hb dX9_isIn_0 rfl (lv_at hl 0 rfl) ?_
  refine lv_iload_n hx hb dX9_isIn_1 rfl (lv_at hl 1 rfl) ?_
  refine lv_icmp_lt (tgt := 14) hx hb dX9_isIn_2 (by decide) (fun c_1 => ?_) (fun c_1 => ?_)
  · have hs := hs.1 c_1
    rw [if_pos c_1] at hR
    refine lv_iconst (v := (0 : Int32)) hx hb dX9_isIn_14 (by decide) ?_
    exact q_zretrs C0 (by decide) hR dX9_isIn_15
  · have hs := hs.2 c_1
    rw [if_neg c_1] at hR
    refine lv_iload_n hx hb dX9_isIn_5 rfl (lv_at hl 0 rfl) ?_
    refine lv_iload_n hx hb dX9_isIn_6 rfl (lv_at hl 2 rfl) ?_
    refine lv_icmp_gt (tgt := 14) hx hb dX9_isIn_7 (by decide) (fun c_2 => ?_) (fun c_2 => ?_)
    · have hs := hs.1 c_2
      rw [if_pos c_2] at hR
      refine lv_iconst (v := (0 : Int32)) hx hb dX9_isIn_14 (by decide) ?_
      exact q_zretrs C0 (by decide) hR dX9_isIn_15
    · have hs := hs.2 c_2
      rw [if_neg c_2] at hR
      refine lv_iconst (v := (1 : Int32)) hx hb dX9_isIn_10 (by decide) ?_
      refine lv_goto (tgt := 15) hx hb dX9_isIn_11 (by decide) ?_
      exact q_zretrs C0 (by decide) hR dX9_isIn_15
set_option maxHeartbeats 400000 in
set_option maxRecDepth 100000 in
theorem m_X9_isIn (l : Launch) (p0 : Int32) (p1 : Int32) (p2 : Int32) (hs : S_X9_isIn p0 p1 p2) : Met l yX9_isIn wsX9_isIn { frames := 0, cells := 0, slots := 0, locals := 0 } (va_Pc [.int p0, .int p1, .int p2] (fun _ => True)) (vp_Si (fun r => r = P_X9_isIn p0 p1 p2)) 0 0 (fun _ => False) := by
  refine q_mets [.int p0, .int p1, .int p2] (cc := cX9_isIn) (maxL := 3) (ret := (some .boolean)) (by decide) rfl (Nat.le_of_ble_eq_true rfl) ?_
  intro p e s m args below meth c ls C0 hl
  exact b_X9_isIn_b0 l C0 _ p0 p1 p2 hs rfl s.heap [] ls (lv_sub hl [0, 1, 2] rfl)
theorem hd_X9_isSetting : yX9_isSetting.cls ≠ "java/lang/invoke/MethodHandle" ∧ yX9_isSetting.cls ≠ "java/lang/invoke/VarHandle" ∧ (parseMethodDescriptor yX9_isSetting.desc).map (fun d => d.parameters.length) = some 1 := by decide +kernel
noncomputable def P_X9_isSetting_b0 (v0 : Int32) : Int32 := P_X9_isIn v0 (0 : Int32) (7 : Int32)
def S_X9_isSetting_b0 (v0 : Int32) : Prop := (S_X9_isIn v0 (0 : Int32) (7 : Int32)) ∧ (((P_X9_isIn v0 (0 : Int32) (7 : Int32)) = 0 ∨ (P_X9_isIn v0 (0 : Int32) (7 : Int32)) = 1) ∧ (True))
theorem P_X9_isSetting_b0_e (v0 : Int32) : P_X9_isSetting_b0 v0 = P_X9_isIn v0 (0 : Int32) (7 : Int32) := rfl
theorem S_X9_isSetting_b0_e (v0 : Int32) : S_X9_isSetting_b0 v0 = ((S_X9_isIn v0 (0 : Int32) (7 : Int32)) ∧ (((P_X9_isIn v0 (0 : Int32) (7 : Int32)) = 0 ∨ (P_X9_isIn v0 (0 : Int32) (7 : Int32)) = 1) ∧ (True))) := rfl
noncomputable def P_X9_isSetting (p0 : Int32) : Int32 := P_X9_isSetting_b0 p0
def S_X9_isSetting (p0 : Int32) : Prop := S_X9_isSetting_b0 p0
set_option maxHeartbeats 400000 in
set_option maxRecDepth 100000 in
theorem b_X9_isSetting_b0 {p : Program} {e : Env} {s : State} {m : MethodId} {args : Array Value} {below : List Frame} {meth : Method} {c : Code} (l : Launch) (C0 : q_C1 p s m meth c args RX9 cX9_isSetting 1 (some .boolean) wsX9_isSetting) (R : Int32) : ∀ (v0 : Int32), S_X9_isSetting_b0 v0 → P_X9_isSetting_b0 v0 = R → ∀ (H : Heap) (locs : List Loc) (ls : Array Slot), lv_has ls 1 [(0, .int v0)] → W p l e { frames := 1, cells := 0, slots := 0, locals := 22 } s m args below meth c s.heap [] 0 0 (MQ below (vp_Si (fun r => r = R)) args s 0 0 (fun _ => False)) (F0 m 0 ls []) := by
  intro v0 hs hR H locs ls hl
  rw [P_X9_isSetting_b0_e] at hR
  rw [S_X9_isSetting_b0_e] at hs
  obtain ⟨hx, hb, hr, hml, hts, hown, hlocks⟩ := id C0
  refine lv_iload_n hx hb dX9_isSetting_0 rfl (lv_at hl 0 rfl) ?_
  refine lv_iconst (v := (0 : Int32)) hx hb dX9_isSetting_1 (by decide) ?_
  refine lv_bipush (v := (7 : Int32)) hx hb dX9_isSetting_2 (by decide) ?_
  have hs1 := hs.1
  have hs := hs.2
  refine q_Si (As := [.int v0, .int (0 : Int32), .int (7 : Int32)]) (rest := []) (R := P_X9_isIn v0 (0 : Int32) (7 : Int32)) ⟨hx, hb, hml, hown, hts⟩ (m_X9_isIn l v0 (0 : Int32) (7 : Int32) hs1) (va_cwS 3 hts gX9_isSetting_X9_isIn rfl rfl rfl hd_X9_isIn ⟨Nat.le_of_ble_eq_true rfl, Nat.le_of_ble_eq_true rfl⟩) hl rfl rfl (Nat.le_of_ble_eq_true rfl) dX9_isSetting_4 ⟨Nat.le_refl 0, Nat.le_refl 0⟩ ?_
  have hz2 := hs.1
  have hs := hs.2
  exact q_zretrs C0 (q_nb hz2) hR dX9_isSetting_7
set_option maxHeartbeats 400000 in
set_option maxRecDepth 100000 in
theorem m_X9_isSetting (l : Launch) (p0 : Int32) (hs : S_X9_isSetting p0) : Met l yX9_isSetting wsX9_isSetting { frames := 1, cells := 0, slots := 0, locals := 22 } (va_Pc [.int p0] (fun _ => True)) (vp_Si (fun r => r = P_X9_isSetting p0)) 0 0 (fun _ => False) := by
  refine q_mets [.int p0] (cc := cX9_isSetting) (maxL := 1) (ret := (some .boolean)) (by decide) rfl (Nat.le_of_ble_eq_true rfl) ?_
  intro p e s m args below meth c ls C0 hl
  exact b_X9_isSetting_b0 l C0 _ p0 hs rfl s.heap [] ls (lv_sub hl [0] rfl)
theorem hin_X9_set_X1 : ∀ w ∈ u_ws RX1 TX1 7, w ∈ wsX9_set := by decide +kernel
theorem hin_X9_set_X7 : ∀ w ∈ u_ws RX7 TX7 7, w ∈ wsX9_set := by decide +kernel
theorem hin_X9_set_X9 : ∀ w ∈ u_ws RX9 TX9 7, w ∈ wsX9_set := by decide +kernel
theorem hd_X9_set : yX9_set.cls = RX9 ∧ yX9_set.cls ≠ "java/lang/invoke/MethodHandle" ∧ yX9_set.cls ≠ "java/lang/invoke/VarHandle" ∧ (parseMethodDescriptor yX9_set.desc).map (fun d => d.parameters.length) = some 2 := by decide +kernel
noncomputable def P_X9_set_b61c (σ : T2) (v1 : Int32) (v2 : Int32) : Int32 × T2 := if v1 = 0 then ((σ 2 v1.toNatClampNeg, u2 (u2 σ 2 (upd (σ 2) v1.toNatClampNeg v2)) 16 (upd (σ 16) 1 (P_X7_firstPeriod (fun j => (u2 σ 2 (upd (σ 2) v1.toNatClampNeg v2)) (1 + j)))))) else ((σ 2 v1.toNatClampNeg, u2 σ 2 (upd (σ 2) v1.toNatClampNeg v2)))
def S_X9_set_b61c (σ : T2) (v1 : Int32) (v2 : Int32) : Prop := (vp_in v1 8) ∧ ((vp_in v1 8) ∧ ((v1 = 0 → ((S_X7_firstPeriod (fun j => (u2 σ 2 (upd (σ 2) v1.toNatClampNeg v2)) (1 + j)) ) ∧ (True))) ∧ (¬ (v1 = 0) → (True))))
theorem P_X9_set_b61c_e (σ : T2) (v1 : Int32) (v2 : Int32) : P_X9_set_b61c σ v1 v2 = if v1 = 0 then ((σ 2 v1.toNatClampNeg, u2 (u2 σ 2 (upd (σ 2) v1.toNatClampNeg v2)) 16 (upd (σ 16) 1 (P_X7_firstPeriod (fun j => (u2 σ 2 (upd (σ 2) v1.toNatClampNeg v2)) (1 + j)))))) else ((σ 2 v1.toNatClampNeg, u2 σ 2 (upd (σ 2) v1.toNatClampNeg v2))) := rfl
theorem S_X9_set_b61c_e (σ : T2) (v1 : Int32) (v2 : Int32) : S_X9_set_b61c σ v1 v2 = ((vp_in v1 8) ∧ ((vp_in v1 8) ∧ ((v1 = 0 → ((S_X7_firstPeriod (fun j => (u2 σ 2 (upd (σ 2) v1.toNatClampNeg v2)) (1 + j)) ) ∧ (True))) ∧ (¬ (v1 = 0) → (True))))) := rfl
noncomputable def P_X9_set_b50 (σ : T2) (v1 : Int32) (v2 : Int32) : Int32 × T2 := P_X9_set_b61c (sb2 σ 35 104 1 17 (P_X3_record (sel σ 35 104 1))) v1 v2
def S_X9_set_b50 (σ : T2) (v1 : Int32) (v2 : Int32) : Prop := (S_X3_record (sel σ 35 104 1) ) ∧ (S_X9_set_b61c (sb2 σ 35 104 1 17 (P_X3_record (sel σ 35 104 1))) v1 v2)
theorem P_X9_set_b50_e (σ : T2) (v1 : Int32) (v2 : Int32) : P_X9_set_b50 σ v1 v2 = P_X9_set_b61c (sb2 σ 35 104 1 17 (P_X3_record (sel σ 35 104 1))) v1 v2 := rfl
theorem S_X9_set_b50_e (σ : T2) (v1 : Int32) (v2 : Int32) : S_X9_set_b50 σ v1 v2 = ((S_X3_record (sel σ 35 104 1) ) ∧ (S_X9_set_b61c (sb2 σ 35 104 1 17 (P_X3_record (sel σ 35 104 1))) v1 v2)) := rfl
noncomputable def P_X9_set_b0 (σ : T2) (v1 : Int32) (v2 : Int32) : Int32 × T2 := if (P_X9_isSetting v1) = 0 then (((-2 : Int32), σ)) else (if v2 < (q_lo v1.toNatClampNeg) then (((-2 : Int32), σ)) else (if v2 ≤ (q_hi v1.toNatClampNeg) then (if v1 = 0 then (if (σ 16 2) = (-6 : Int32) then (P_X9_set_b50 σ v1 v2) else (((-5 : Int32), σ))) else (P_X9_set_b50 σ v1 v2)) else (((-2 : Int32), σ))))
def S_X9_set_b0 (σ : T2) (v1 : Int32) (v2 : Int32) : Prop := (S_X9_isSetting v1) ∧ (((P_X9_isSetting v1) = 0 → (True)) ∧ (¬ ((P_X9_isSetting v1) = 0) → ((vp_in v1 8) ∧ ((v2 < (q_lo v1.toNatClampNeg) → (True)) ∧ (¬ (v2 < (q_lo v1.toNatClampNeg)) → ((vp_in v1 8) ∧ ((v2 ≤ (q_hi v1.toNatClampNeg) → ((v1 = 0 → (((σ 16 2) = (-6 : Int32) → (S_X9_set_b50 σ v1 v2)) ∧ (¬ ((σ 16 2) = (-6 : Int32)) → (True)))) ∧ (¬ (v1 = 0) → (S_X9_set_b50 σ v1 v2)))) ∧ (¬ (v2 ≤ (q_hi v1.toNatClampNeg)) → (True)))))))))
theorem P_X9_set_b0_e (σ : T2) (v1 : Int32) (v2 : Int32) : P_X9_set_b0 σ v1 v2 = if (P_X9_isSetting v1) = 0 then (((-2 : Int32), σ)) else (if v2 < (q_lo v1.toNatClampNeg) then (((-2 : Int32), σ)) else (if v2 ≤ (q_hi v1.toNatClampNeg) then (if v1 = 0 then (if (σ 16 2) = (-6 : Int32) then (P_X9_set_b50 σ v1 v2) else (((-5 : Int32), σ))) else (P_X9_set_b50 σ v1 v2)) else (((-2 : Int32), σ)))) := rfl
theorem S_X9_set_b0_e (σ : T2) (v1 : Int32) (v2 : Int32) : S_X9_set_b0 σ v1 v2 = ((S_X9_isSetting v1) ∧ (((P_X9_isSetting v1) = 0 → (True)) ∧ (¬ ((P_X9_isSetting v1) = 0) → ((vp_in v1 8) ∧ ((v2 < (q_lo v1.toNatClampNeg) → (True)) ∧ (¬ (v2 < (q_lo v1.toNatClampNeg)) → ((vp_in v1 8) ∧ ((v2 ≤ (q_hi v1.toNatClampNeg) → ((v1 = 0 → (((σ 16 2) = (-6 : Int32) → (S_X9_set_b50 σ v1 v2)) ∧ (¬ ((σ 16 2) = (-6 : Int32)) → (True)))) ∧ (¬ (v1 = 0) → (S_X9_set_b50 σ v1 v2)))) ∧ (¬ (v2 ≤ (q_hi v1.toNatClampNeg)) → (True)))))))))) := rfl
noncomputable def P_X9_set (σ : T2) (p0 : Int32) (p1 : Int32) : Int32 × T2 := P_X9_set_b0 σ p0 p1
def S_X9_set (σ : T2) (p0 : Int32) (p1 : Int32) : Prop := S_X9_set_b0 σ p0 p1
set_option maxHeartbeats 400000 in
set_option maxRecDepth 100000 in
theorem b_X9_set_b61c {p : Program} {e : Env} {s : State} {m : MethodId} {args : Array Value} {below : List Frame} {meth : Method} {c : Code} (l : Launch) (D : va_G) (k : Nat → ClassId) (a : Nat → Nat) (A : Nat → Prop) (C0 : q_C p s m meth c args RX9 cX9_set 4 (some .int) wsX9_set D (tyL k) A) (z : Nat → Nat) (Z0 : q_Z s A z) (R : Int32 × T2) : ∀ (σ : T2) (v1 : Int32) (v2 : Int32), S_X9_set_b61c σ v1 v2 → P_X9_set_b61c σ v1 v2 = R → ∀ (H : Heap) (locs : List Loc) (ls : Array Slot), q_W D A s.heap (wX9 k a σ) H locs → lv_has ls 4 [(0, .ref (a 0)), (1, .int v1), (2, .int v2)] → W p l e { frames := 4, cells := 0, slots := 0, locals := 103 } s m args below meth c H locs 0 0 (MQ below (va_Qi (fun r u => (r, u) = R) (fun u => q_E D (tyL k) A (wX9 k a u)) A) args s 0 0 A) (F0 m 61 ls []) := by
  intro σ v1 v2 hs hR H locs ls hW hl
  rw [P_X9_set_b61c_e] at hR
  rw [S_X9_set_b61c_e] at hs
  obtain ⟨hx, hb, hr, hml, hts, hown, hlocks, hK, hA⟩ := id C0
  have hf10 := hts (.fieldLink RX9 10 "BeatFollower" "scene" "LBeatFollower$Scene;") (by decide +kernel)
  have hf59 := hts (.fieldLink RX9 59 "BeatFollower$Scene" "drummer" "LBeatFollower$Drummer;") (by decide +kernel)
  have hf73 := hts (.fieldLink RX9 73 "BeatFollower$Scene" "settings" "[I") (by decide +kernel)
  have hf80 := hts (.fieldLink RX9 80 "BeatFollower$Drummer" "period" "I") (by decide +kernel)
  have hinX1 : ∀ w ∈ u_ws RX1 TX1 7, w ∈ wsX9_set := hin_X9_set_X1
  have hinX7 : ∀ w ∈ u_ws RX7 TX7 7, w ∈ wsX9_set := hin_X9_set_X7
  have hinX9 : ∀ w ∈ u_ws RX9 TX9 7, w ∈ wsX9_set := hin_X9_set_X9
  refine lv_aload_n hx hb dX9_set_61 rfl (lv_at hl 0 rfl) ?_
  refine va_get (v := .ref (a 1)) (C := RX9) (T := TX9) (N := 7) hx hb hts hinX9 hown hK hW.1 0 (q_w_get 0 (Nat.le_of_ble_eq_true rfl)) rfl 0 (by decide) hf10 (fun _ h9 => h9) rfl dX9_set_62 ?_
  refine va_get (v := .ref (a 2)) (C := RX7) (T := TX7) (N := 7) hx hb hts hinX7 hown hK hW.1 1 (q_w_get 1 (Nat.le_of_ble_eq_true rfl)) rfl 0 (by decide) hf73 (fun _ h9 => h9) rfl dX9_set_65 ?_
  refine lv_iload_n hx hb dX9_set_68 rfl (lv_at hl 1 rfl) ?_
  have hi9 := hs.1
  have hs := hs.2
  refine q_iald (v := σ 2 v1.toNatClampNeg) C0 hW 2 (q_w_get 2 (Nat.le_of_ble_eq_true rfl)) rfl hi9 rfl rfl dX9_set_69 ?_
  refine lv_istore_n (lv' := [(3, .int (σ 2 v1.toNatClampNeg)), (0, .ref (a 0)), (1, .int v1), (2, .int v2)]) hx hb dX9_set_70 rfl hl (by decide) rfl (fun ls hl => ?_)
  refine lv_aload_n hx hb dX9_set_71 rfl (lv_at hl 1 rfl) ?_
  refine va_get (v := .ref (a 1)) (C := RX9) (T := TX9) (N := 7) hx hb hts hinX9 hown hK hW.1 0 (q_w_get 0 (Nat.le_of_ble_eq_true rfl)) rfl 0 (by decide) hf10 (fun _ h9 => h9) rfl dX9_set_72 ?_
  refine va_get (v := .ref (a 2)) (C := RX7) (T := TX7) (N := 7) hx hb hts hinX7 hown hK hW.1 1 (q_w_get 1 (Nat.le_of_ble_eq_true rfl)) rfl 0 (by decide) hf73 (fun _ h9 => h9) rfl dX9_set_75 ?_
  refine lv_iload_n hx hb dX9_set_78 rfl (lv_at hl 2 rfl) ?_
  refine lv_iload_n hx hb dX9_set_79 rfl (lv_at hl 3 rfl) ?_
  have hi10 := hs.1
  have hs := hs.2
  refine q_iast (f := σ 2) (wd' := wX9 k a (u2 σ 2 (upd (σ 2) v1.toNatClampNeg v2))) C0 hW 2 (q_w_get 2 (Nat.le_of_ble_eq_true rfl)) rfl hi10 rfl dX9_set_80 (wX9_s2 k a _ _) (fun H locs hW => ?_)
  refine lv_iload_n hx hb dX9_set_81 rfl (lv_at hl 2 rfl) ?_
  refine lv_if_ne (tgt := 102) hx hb dX9_set_82 (by decide) (fun c_11 => ?_) (fun c_11 => ?_)
  · have hs := hs.2 c_11
    rw [if_neg c_11] at hR
    refine lv_iload_n hx hb dX9_set_102 rfl (lv_at hl 0 rfl) ?_
    exact q_iret C0 hW hR dX9_set_103
  · have hs := hs.1 c_11
    rw [if_pos c_11] at hR
    refine lv_aload_n hx hb dX9_set_85 rfl (lv_at hl 1 rfl) ?_
    refine va_get (v := .ref (a 1)) (C := RX9) (T := TX9) (N := 7) hx hb hts hinX9 hown hK hW.1 0 (q_w_get 0 (Nat.le_of_ble_eq_true rfl)) rfl 0 (by decide) hf10 (fun _ h9 => h9) rfl dX9_set_86 ?_
    refine va_get (v := .ref (a 16)) (C := RX7) (T := TX7) (N := 7) hx hb hts hinX7 hown hK hW.1 1 (q_w_get 1 (Nat.le_of_ble_eq_true rfl)) rfl 4 (by decide) hf59 (fun _ h9 => h9) rfl dX9_set_89 ?_
    refine lv_aload_n hx hb dX9_set_92 rfl (lv_at hl 1 rfl) ?_
    refine va_get (v := .ref (a 1)) (C := RX9) (T := TX9) (N := 7) hx hb hts hinX9 hown hK hW.1 0 (q_w_get 0 (Nat.le_of_ble_eq_true rfl)) rfl 0 (by decide) hf10 (fun _ h9 => h9) rfl dX9_set_93 ?_
    have hs12 := hs.1
    have hs := hs.2
    refine q_Vi (As := []) (rest := [.ref (a 16)]) (R := P_X7_firstPeriod (fun j => (u2 σ 2 (upd (σ 2) v1.toNatClampNeg v2)) (1 + j))) (wX9_X7_1_is) [0, 1, 2, 3] 1 7 C0 hW (m_X7_firstPeriod l D k (fun j => a (1 + j)) _ (fun j => (u2 σ 2 (upd (σ 2) v1.toNatClampNeg v2)) (1 + j))  hs12) (cwV 0 hts gX9_set_X7_firstPeriod rfl rfl rfl hd_X7_firstPeriod ⟨Nat.le_of_ble_eq_true rfl, Nat.le_of_ble_eq_true rfl⟩) (wX9_X7_1_nd) (wX9_X7_1_pl k a _) rfl (q_w_get 1 (Nat.le_of_ble_eq_true rfl)) rfl hl rfl rfl (Nat.le_of_ble_eq_true rfl) dX9_set_96 ⟨Nat.le_refl 0, Nat.le_refl 0⟩ ?_
    refine q_putf (ty := .int) (wd' := wX9 k a (u2 (u2 σ 2 (upd (σ 2) v1.toNatClampNeg v2)) 16 (upd (σ 16) 1 (P_X7_firstPeriod (fun j => (u2 σ 2 (upd (σ 2) v1.toNatClampNeg v2)) (1 + j)))))) C0 hW hinX1 tyX1 tyX1_ok nmX1 16 (q_w_get 16 (Nat.le_of_ble_eq_true rfl)) rfl 1 (by decide) hf80 rfl (by decide +kernel) rfl rfl (Nat.le_of_ble_eq_true rfl) dX9_set_99 (fX1_s1 _ _ _) (wX9_s16 k a _ _) (fun H locs hW => ?_)
    refine lv_iload_n hx hb dX9_set_102 rfl (lv_at hl 0 rfl) ?_
    exact q_iret C0 hW hR dX9_set_103
set_option maxHeartbeats 400000 in
set_option maxRecDepth 100000 in
theorem b_X9_set_b50 {p : Program} {e : Env} {s : State} {m : MethodId} {args : Array Value} {below : List Frame} {meth : Method} {c : Code} (l : Launch) (D : va_G) (k : Nat → ClassId) (a : Nat → Nat) (A : Nat → Prop) (C0 : q_C p s m meth c args RX9 cX9_set 4 (some .int) wsX9_set D (tyL k) A) (z : Nat → Nat) (Z0 : q_Z s A z) (R : Int32 × T2) : ∀ (σ : T2) (v1 : Int32) (v2 : Int32), S_X9_set_b50 σ v1 v2 → P_X9_set_b50 σ v1 v2 = R → ∀ (H : Heap) (locs : List Loc) (ls : Array Slot), q_W D A s.heap (wX9 k a σ) H locs → lv_has ls 4 [(0, .ref (a 0)), (1, .int v1), (2, .int v2)] → W p l e { frames := 4, cells := 0, slots := 0, locals := 103 } s m args below meth c H locs 0 0 (MQ below (va_Qi (fun r u => (r, u) = R) (fun u => q_E D (tyL k) A (wX9 k a u)) A) args s 0 0 A) (F0 m 50 ls []) := by
  intro σ v1 v2 hs hR H locs ls hW hl
  rw [P_X9_set_b50_e] at hR
  rw [S_X9_set_b50_e] at hs
  obtain ⟨hx, hb, hr, hml, hts, hown, hlocks, hK, hA⟩ := id C0
  have hf10 := hts (.fieldLink RX9 10 "BeatFollower" "scene" "LBeatFollower$Scene;") (by decide +kernel)
  have hf22 := hts (.fieldLink RX9 22 "BeatFollower" "history" "LBeatFollower$History;") (by decide +kernel)
  have hinX9 : ∀ w ∈ u_ws RX9 TX9 7, w ∈ wsX9_set := hin_X9_set_X9
  refine lv_aload_n hx hb dX9_set_50 rfl (lv_at hl 0 rfl) ?_
  refine va_get (v := .ref (a 35)) (C := RX9) (T := TX9) (N := 7) hx hb hts hinX9 hown hK hW.1 0 (q_w_get 0 (Nat.le_of_ble_eq_true rfl)) rfl 2 (by decide) hf22 (fun _ h9 => h9) rfl dX9_set_51 ?_
  refine lv_aload_n hx hb dX9_set_54 rfl (lv_at hl 0 rfl) ?_
  refine va_get (v := .ref (a 1)) (C := RX9) (T := TX9) (N := 7) hx hb hts hinX9 hown hK hW.1 0 (q_w_get 0 (Nat.le_of_ble_eq_true rfl)) rfl 0 (by decide) hf10 (fun _ h9 => h9) rfl dX9_set_55 ?_
  have hs8 := hs.1
  have hs := hs.2
  refine q_Vv (As := [.ref (a 1)]) (rest := []) (wf := wX3_X7 k (sel a 35 104 1)) (R := P_X3_record (sel σ 35 104 1)) (wd' := wX9 k a (sb2 σ 35 104 1 17 (P_X3_record (sel σ 35 104 1)))) (wX9_X3_X7_35_1_is) [0, 1, 2, 3] 35 3 C0 hW (m_X3_record l D k (sel a 35 104 1) H.size (sel σ 35 104 1)  hs8) (cwV 1 hts gX9_set_X3_record rfl rfl rfl hd_X3_record ⟨Nat.le_of_ble_eq_true rfl, Nat.le_of_ble_eq_true rfl⟩) (wX9_X3_X7_35_1_nd) (wX9_X3_X7_35_1_pl k a _) rfl (q_w_get 35 (Nat.le_of_ble_eq_true rfl)) rfl (wX3_X7_fst k _ _ _) (wX9_X3_X7_35_1_pt k a _ _) hl rfl rfl (Nat.le_of_ble_eq_true rfl) dX9_set_58 ⟨Nat.le_refl 0, Nat.le_refl 0⟩ (fun H locs hW => ?_)
  exact b_X9_set_b61c l D k a A C0 z Z0 R (sb2 σ 35 104 1 17 (P_X3_record (sel σ 35 104 1))) v1 v2 hs hR H locs ls hW (lv_sub hl [0, 1, 2] rfl)
set_option maxHeartbeats 400000 in
set_option maxRecDepth 100000 in
theorem b_X9_set_b0 {p : Program} {e : Env} {s : State} {m : MethodId} {args : Array Value} {below : List Frame} {meth : Method} {c : Code} (l : Launch) (D : va_G) (k : Nat → ClassId) (a : Nat → Nat) (A : Nat → Prop) (C0 : q_C p s m meth c args RX9 cX9_set 4 (some .int) wsX9_set D (tyL k) A) (z : Nat → Nat) (Z0 : q_Z s A z) (R : Int32 × T2) : ∀ (σ : T2) (v1 : Int32) (v2 : Int32), S_X9_set_b0 σ v1 v2 → P_X9_set_b0 σ v1 v2 = R → ∀ (H : Heap) (locs : List Loc) (ls : Array Slot), q_W D A s.heap (wX9 k a σ) H locs → lv_has ls 4 [(0, .ref (a 0)), (1, .int v1), (2, .int v2)] → W p l e { frames := 4, cells := 0, slots := 0, locals := 103 } s m args below meth c H locs 0 0 (MQ below (va_Qi (fun r u => (r, u) = R) (fun u => q_E D (tyL k) A (wX9 k a u)) A) args s 0 0 A) (F0 m 0 ls []) := by
  intro σ v1 v2 hs hR H locs ls hW hl
  rw [P_X9_set_b0_e] at hR
  rw [S_X9_set_b0_e] at hs
  obtain ⟨hx, hb, hr, hml, hts, hown, hlocks, hK, hA⟩ := id C0
  have hf10 := hts (.fieldLink RX9 10 "BeatFollower" "scene" "LBeatFollower$Scene;") (by decide +kernel)
  have hf52 := hts (.fieldLink RX9 52 "BeatFollower" "LOWEST" "[I") (by decide +kernel)
  have hf56 := hts (.fieldLink RX9 56 "BeatFollower" "HIGHEST" "[I") (by decide +kernel)
  have hf59 := hts (.fieldLink RX9 59 "BeatFollower$Scene" "drummer" "LBeatFollower$Drummer;") (by decide +kernel)
  have hf63 := hts (.fieldLink RX9 63 "BeatFollower$Drummer" "nextBlow" "I") (by decide +kernel)
  have hinX1 : ∀ w ∈ u_ws RX1 TX1 7, w ∈ wsX9_set := hin_X9_set_X1
  have hinX7 : ∀ w ∈ u_ws RX7 TX7 7, w ∈ wsX9_set := hin_X9_set_X7
  have hinX9 : ∀ w ∈ u_ws RX9 TX9 7, w ∈ wsX9_set := hin_X9_set_X9
  refine lv_iload_n hx hb dX9_set_0 rfl (lv_at hl 1 rfl) ?_
  have hs1 := hs.1
  have hs := hs.2
  refine q_Si (As := [.int v1]) (rest := []) (R := P_X9_isSetting v1) ⟨hx, hb, hml, hown, hts⟩ (m_X9_isSetting l v1 hs1) (va_cwS 1 hts gX9_set_X9_isSetting rfl rfl rfl hd_X9_isSetting ⟨Nat.le_of_ble_eq_true rfl, Nat.le_of_ble_eq_true rfl⟩) hl rfl rfl (Nat.le_of_ble_eq_true rfl) dX9_set_1 ⟨Nat.le_refl 0, Nat.le_refl 0⟩ ?_
  refine lv_if_eq (tgt := 25) hx hb dX9_set_4 (by decide) (fun c_2 => ?_) (fun c_2 => ?_)
  · have hs := hs.1 c_2
    rw [if_pos c_2] at hR
    refine lv_bipush (v := (-2 : Int32)) hx hb dX9_set_25 (by decide) ?_
    exact q_iret C0 hW hR dX9_set_27
  · have hs := hs.2 c_2
    rw [if_neg c_2] at hR
    refine lv_iload_n hx hb dX9_set_7 rfl (lv_at hl 2 rfl) ?_
    refine va_gets (v := .ref (z 0)) hx hb Z0.1 hW.2.2 hown hf52 (fun _ h9 => h9) dX9_set_8 ?_
    refine lv_iload_n hx hb dX9_set_11 rfl (lv_at hl 1 rfl) ?_
    have hi3 := hs.1
    have hs := hs.2
    refine va_ti (v := .int (q_lo v1.toNatClampNeg)) hx hb Z0.2.1 hW.2.2 hi3 rfl dX9_set_12 ?_
    refine lv_icmp_lt (tgt := 25) hx hb dX9_set_13 (by decide) (fun c_4 => ?_) (fun c_4 => ?_)
    · have hs := hs.1 c_4
      rw [if_pos c_4] at hR
      refine lv_bipush (v := (-2 : Int32)) hx hb dX9_set_25 (by decide) ?_
      exact q_iret C0 hW hR dX9_set_27
    · have hs := hs.2 c_4
      rw [if_neg c_4] at hR
      refine lv_iload_n hx hb dX9_set_16 rfl (lv_at hl 2 rfl) ?_
      refine va_gets (v := .ref (z 1)) hx hb Z0.2.2.1 hW.2.2 hown hf56 (fun _ h9 => h9) dX9_set_17 ?_
      refine lv_iload_n hx hb dX9_set_20 rfl (lv_at hl 1 rfl) ?_
      have hi5 := hs.1
      have hs := hs.2
      refine va_ti (v := .int (q_hi v1.toNatClampNeg)) hx hb Z0.2.2.2.1 hW.2.2 hi5 rfl dX9_set_21 ?_
      refine lv_icmp_le (tgt := 28) hx hb dX9_set_22 (by decide) (fun c_6 => ?_) (fun c_6 => ?_)
      · have hs := hs.1 c_6
        rw [if_pos c_6] at hR
        refine lv_iload_n hx hb dX9_set_28 rfl (lv_at hl 1 rfl) ?_
        refine lv_if_ne (tgt := 50) hx hb dX9_set_29 (by decide) (fun c_7 => ?_) (fun c_7 => ?_)
        · have hs := hs.2 c_7
          rw [if_neg c_7] at hR
          exact b_X9_set_b50 l D k a A C0 z Z0 R σ v1 v2 hs hR H locs ls hW (lv_sub hl [0, 1, 2] rfl)
        · have hs := hs.1 c_7
          rw [if_pos c_7] at hR
          refine lv_aload_n hx hb dX9_set_32 rfl (lv_at hl 0 rfl) ?_
          refine va_get (v := .ref (a 1)) (C := RX9) (T := TX9) (N := 7) hx hb hts hinX9 hown hK hW.1 0 (q_w_get 0 (Nat.le_of_ble_eq_true rfl)) rfl 0 (by decide) hf10 (fun _ h9 => h9) rfl dX9_set_33 ?_
          refine va_get (v := .ref (a 16)) (C := RX7) (T := TX7) (N := 7) hx hb hts hinX7 hown hK hW.1 1 (q_w_get 1 (Nat.le_of_ble_eq_true rfl)) rfl 4 (by decide) hf59 (fun _ h9 => h9) rfl dX9_set_36 ?_
          refine va_get (v := .int (σ 16 2)) (C := RX1) (T := TX1) (N := 7) hx hb hts hinX1 hown hK hW.1 16 (q_w_get 16 (Nat.le_of_ble_eq_true rfl)) rfl 2 (by decide) hf63 (fun _ h9 => h9) rfl dX9_set_39 ?_
          refine lv_bipush (v := (-6 : Int32)) hx hb dX9_set_42 (by decide) ?_
          refine lv_icmp_eq (tgt := 50) hx hb dX9_set_44 (by decide) (fun c_13 => ?_) (fun c_13 => ?_)
          · have hs := hs.1 c_13
            rw [if_pos c_13] at hR
            exact b_X9_set_b50 l D k a A C0 z Z0 R σ v1 v2 hs hR H locs ls hW (lv_sub hl [0, 1, 2] rfl)
          · have hs := hs.2 c_13
            rw [if_neg c_13] at hR
            refine lv_bipush (v := (-5 : Int32)) hx hb dX9_set_47 (by decide) ?_
            exact q_iret C0 hW hR dX9_set_49
      · have hs := hs.2 c_6
        rw [if_neg c_6] at hR
        refine lv_bipush (v := (-2 : Int32)) hx hb dX9_set_25 (by decide) ?_
        exact q_iret C0 hW hR dX9_set_27
set_option maxHeartbeats 400000 in
set_option maxRecDepth 100000 in
theorem m_X9_set (l : Launch) (D : va_G) (k : Nat → ClassId) (a : Nat → Nat) (sz : Nat) (z : Nat → Nat) (σ : T2) (p0 : Int32) (p1 : Int32) (hs : S_X9_set σ p0 p1) : Met l yX9_set wsX9_set { frames := 4, cells := 0, slots := 0, locals := 103 } (va_Pc [.ref (a 0), .int p0, .int p1] (fun U => q_B D (tyL k) (wX9 k a σ) sz U ∧ q_Z U (va_A (wX9 k a σ) sz) z)) (va_Qi (fun r u => (r, u) = P_X9_set σ p0 p1) (fun u => q_E D (tyL k) (va_A (wX9 k a σ) sz) (wX9 k a u)) (va_A (wX9 k a σ) sz)) 0 0 (va_A (wX9 k a σ) sz) := by
  refine q_metz [.ref (a 0), .int p0, .int p1] (wX9 k a σ) sz (fun U => q_Z U (va_A (wX9 k a σ) sz) z) (cc := cX9_set) (maxL := 4) (ret := (some .int)) (by decide) rfl (Nat.le_of_ble_eq_true rfl) ?_
  intro p e s m args below meth c ls hsz Z0 C0 hW hl hin
  subst hsz
  exact b_X9_set_b0 l D k a _ C0 z Z0 _ σ p0 p1 hs rfl s.heap [] ls hW (lv_sub hl [0, 1, 2] rfl)
theorem hd_X9_charactersIn : yX9_charactersIn.cls ≠ "java/lang/invoke/MethodHandle" ∧ yX9_charactersIn.cls ≠ "java/lang/invoke/VarHandle" ∧ (parseMethodDescriptor yX9_charactersIn.desc).map (fun d => d.parameters.length) = some 1 := by decide +kernel
noncomputable def P_X9_charactersIn_b47n (pk8 : Int64 → Int32 → Int32 → Int32) (v2 : Int64) (v4 : Int32) (v5 : Int32) : Int32 := pk8 v2 v4 (v5 + (1 : Int32))
def S_X9_charactersIn_b47n (sk8 : Int64 → Int32 → Int32 → Prop) (v2 : Int64) (v4 : Int32) (v5 : Int32) : Prop := sk8 v2 v4 (v5 + (1 : Int32))
theorem P_X9_charactersIn_b47n_e (pk8 : Int64 → Int32 → Int32 → Int32) (v2 : Int64) (v4 : Int32) (v5 : Int32) : P_X9_charactersIn_b47n pk8 v2 v4 v5 = pk8 v2 v4 (v5 + (1 : Int32)) := rfl
theorem S_X9_charactersIn_b47n_e (sk8 : Int64 → Int32 → Int32 → Prop) (v2 : Int64) (v4 : Int32) (v5 : Int32) : S_X9_charactersIn_b47n sk8 v2 v4 v5 = (sk8 v2 v4 (v5 + (1 : Int32))) := rfl
noncomputable def P_X9_charactersIn_b8 (n : Nat) : Int64 → Int32 → Int32 → Int32 := Nat.rec (motive := fun _ => Int64 → Int32 → Int32 → Int32) (fun _ _ _ => 0) (fun _ pk8 => fun v2 v4 v5 => if (8 : Int32) ≤ v5 then (v4) else (if (lg_cmp v2 (0 : Int64)) = 0 then (v4) else (if (P_X9_isIn ((v2 &&& (255 : Int64)).toInt32) (33 : Int32) (126 : Int32)) = 0 then ((0 : Int32)) else (P_X9_charactersIn_b47n pk8 ((v2.toUInt64 >>> ((8 : Int32).toInt64.toUInt64 &&& Int64.toUInt64 63)).toInt64) (v4 + (1 : Int32)) v5)))) n
def S_X9_charactersIn_b8 (n : Nat) : Int64 → Int32 → Int32 → Prop := Nat.rec (motive := fun _ => Int64 → Int32 → Int32 → Prop) (fun _ _ _ => False) (fun _ sk8 => fun v2 v4 v5 => ((8 : Int32) ≤ v5 → (True)) ∧ (¬ ((8 : Int32) ≤ v5) → (((lg_cmp v2 (0 : Int64)) = 0 → (True)) ∧ (¬ ((lg_cmp v2 (0 : Int64)) = 0) → ((S_X9_isIn ((v2 &&& (255 : Int64)).toInt32) (33 : Int32) (126 : Int32)) ∧ (((P_X9_isIn ((v2 &&& (255 : Int64)).toInt32) (33 : Int32) (126 : Int32)) = 0 → (True)) ∧ (¬ ((P_X9_isIn ((v2 &&& (255 : Int64)).toInt32) (33 : Int32) (126 : Int32)) = 0) → (S_X9_charactersIn_b47n sk8 ((v2.toUInt64 >>> ((8 : Int32).toInt64.toUInt64 &&& Int64.toUInt64 63)).toInt64) (v4 + (1 : Int32)) v5)))))))) n
theorem P_X9_charactersIn_b8_e (n : Nat) (v2 : Int64) (v4 : Int32) (v5 : Int32) : P_X9_charactersIn_b8 (n + 1) v2 v4 v5 = if (8 : Int32) ≤ v5 then (v4) else (if (lg_cmp v2 (0 : Int64)) = 0 then (v4) else (if (P_X9_isIn ((v2 &&& (255 : Int64)).toInt32) (33 : Int32) (126 : Int32)) = 0 then ((0 : Int32)) else (P_X9_charactersIn_b47n (P_X9_charactersIn_b8 n) ((v2.toUInt64 >>> ((8 : Int32).toInt64.toUInt64 &&& Int64.toUInt64 63)).toInt64) (v4 + (1 : Int32)) v5))) := rfl
theorem S_X9_charactersIn_b8_e (n : Nat) (v2 : Int64) (v4 : Int32) (v5 : Int32) : S_X9_charactersIn_b8 (n + 1) v2 v4 v5 = (((8 : Int32) ≤ v5 → (True)) ∧ (¬ ((8 : Int32) ≤ v5) → (((lg_cmp v2 (0 : Int64)) = 0 → (True)) ∧ (¬ ((lg_cmp v2 (0 : Int64)) = 0) → ((S_X9_isIn ((v2 &&& (255 : Int64)).toInt32) (33 : Int32) (126 : Int32)) ∧ (((P_X9_isIn ((v2 &&& (255 : Int64)).toInt32) (33 : Int32) (126 : Int32)) = 0 → (True)) ∧ (¬ ((P_X9_isIn ((v2 &&& (255 : Int64)).toInt32) (33 : Int32) (126 : Int32)) = 0) → (S_X9_charactersIn_b47n (S_X9_charactersIn_b8 n) ((v2.toUInt64 >>> ((8 : Int32).toInt64.toUInt64 &&& Int64.toUInt64 63)).toInt64) (v4 + (1 : Int32)) v5)))))))) := rfl
noncomputable def P_X9_charactersIn_b0 (v0 : Int64) : Int32 := P_X9_charactersIn_b8 FU v0 (0 : Int32) (0 : Int32)
def S_X9_charactersIn_b0 (v0 : Int64) : Prop := S_X9_charactersIn_b8 FU v0 (0 : Int32) (0 : Int32)
theorem P_X9_charactersIn_b0_e (v0 : Int64) : P_X9_charactersIn_b0 v0 = P_X9_charactersIn_b8 FU v0 (0 : Int32) (0 : Int32) := rfl
theorem S_X9_charactersIn_b0_e (v0 : Int64) : S_X9_charactersIn_b0 v0 = (S_X9_charactersIn_b8 FU v0 (0 : Int32) (0 : Int32)) := rfl
noncomputable def P_X9_charactersIn (p0 : Int64) : Int32 := P_X9_charactersIn_b0 p0
def S_X9_charactersIn (p0 : Int64) : Prop := S_X9_charactersIn_b0 p0
set_option maxHeartbeats 400000 in
set_option maxRecDepth 100000 in
theorem b_X9_charactersIn_b47n {p : Program} {e : Env} {s : State} {m : MethodId} {args : Array Value} {below : List Frame} {meth : Method} {c : Code} (l : Launch) (C0 : q_C1 p s m meth c args RX9 cX9_charactersIn 6 (some .int) wsX9_charactersIn) (R : Int32) (pk8 : Int64 → Int32 → Int32 → Int32) (sk8 : Int64 → Int32 → Int32 → Prop) (hk8 : ∀ (v2 : Int64) (v4 : Int32) (v5 : Int32), sk8 v2 v4 v5 → pk8 v2 v4 v5 = R → ∀ (H : Heap) (locs : List Loc) (ls : Array Slot), lv_has ls 6 [(2, .long v2), (4, .int v4), (5, .int v5)] → W p l e { frames := 1, cells := 0, slots := 0, locals := 22 } s m args below meth c s.heap [] 0 0 (MQ below (vp_Si (fun r => r = R)) args s 0 0 (fun _ => False)) (F0 m 8 ls [])) : ∀ (v2 : Int64) (v4 : Int32) (v5 : Int32), S_X9_charactersIn_b47n sk8 v2 v4 v5 → P_X9_charactersIn_b47n pk8 v2 v4 v5 = R → ∀ (H : Heap) (locs : List Loc) (ls : Array Slot), lv_has ls 6 [(2, .long v2), (4, .int v4), (5, .int v5)] → W p l e { frames := 1, cells := 0, slots := 0, locals := 22 } s m args below meth c s.heap [] 0 0 (MQ below (vp_Si (fun r => r = R)) args s 0 0 (fun _ => False)) (F0 m 47 ls []) := by
  intro v2 v4 v5 hs hR H locs ls hl
  rw [P_X9_charactersIn_b47n_e] at hR
  rw [S_X9_charactersIn_b47n_e] at hs
  obtain ⟨hx, hb, hr, hml, hts, hown, hlocks⟩ := id C0
  refine lv_iinc (v := v5 + (1 : Int32)) (lv' := [(5, .int (v5 + (1 : Int32))), (2, .long v2), (4, .int v4)]) hx hb dX9_charactersIn_47 hl (k := 2) rfl rfl (by decide) rfl (fun ls hl => ?_)
  refine lv_goto (tgt := 8) hx hb dX9_charactersIn_50 (by decide) ?_
  exact hk8 v2 v4 (v5 + (1 : Int32)) hs hR H locs ls (lv_sub hl [1, 2, 0] rfl)
set_option maxHeartbeats 400000 in
set_option maxRecDepth 100000 in
theorem b_X9_charactersIn_b8 {p : Program} {e : Env} {s : State} {m : MethodId} {args : Array Value} {below : List Frame} {meth : Method} {c : Code} (l : Launch) (C0 : q_C1 p s m meth c args RX9 cX9_charactersIn 6 (some .int) wsX9_charactersIn) (R : Int32) : ∀ n : Nat, ∀ (v2 : Int64) (v4 : Int32) (v5 : Int32), S_X9_charactersIn_b8 n v2 v4 v5 → P_X9_charactersIn_b8 n v2 v4 v5 = R → ∀ (H : Heap) (locs : List Loc) (ls : Array Slot), lv_has ls 6 [(2, .long v2), (4, .int v4), (5, .int v5)] → W p l e { frames := 1, cells := 0, slots := 0, locals := 22 } s m args below meth c s.heap [] 0 0 (MQ below (vp_Si (fun r => r = R)) args s 0 0 (fun _ => False)) (F0 m 8 ls []) := by
  intro n
  induction n with
  | zero => intro v2 v4 v5 hs; exact False.elim hs
  | succ n ih =>
    intro v2 v4 v5 hs hR H locs ls hl
    rw [P_X9_charactersIn_b8_e] at hR
    rw [S_X9_charactersIn_b8_e] at hs
    obtain ⟨hx, hb, hr, hml, hts, hown, hlocks⟩ := id C0
    refine lv_iload hx hb dX9_charactersIn_8 (lv_at hl 2 rfl) ?_
    refine lv_bipush (v := (8 : Int32)) hx hb dX9_charactersIn_10 (by decide) ?_
    refine lv_icmp_ge (tgt := 53) hx hb dX9_charactersIn_12 (by decide) (fun c_1 => ?_) (fun c_1 => ?_)
    · have hs := hs.1 c_1
      rw [if_pos c_1] at hR
      refine lv_iload hx hb dX9_charactersIn_53 (lv_at hl 1 rfl) ?_
      exact q_iretrs C0 hR dX9_charactersIn_55
    · have hs := hs.2 c_1
      rw [if_neg c_1] at hR
      refine lv_lload_n hx hb dX9_charactersIn_15 rfl (lv_at hl 0 rfl) ?_
      refine lv_lconst (v := (0 : Int64)) hx hb dX9_charactersIn_16 (by decide) ?_
      refine W.lcmp hx hb dX9_charactersIn_17 ?_
      refine lv_if_eq (tgt := 53) hx hb dX9_charactersIn_18 (by decide) (fun c_2 => ?_) (fun c_2 => ?_)
      · have hs := hs.1 c_2
        rw [if_pos c_2] at hR
        refine lv_iload hx hb dX9_charactersIn_53 (lv_at hl 1 rfl) ?_
        exact q_iretrs C0 hR dX9_charactersIn_55
      · have hs := hs.2 c_2
        rw [if_neg c_2] at hR
        refine lv_lload_n hx hb dX9_charactersIn_21 rfl (lv_at hl 0 rfl) ?_
        refine lv_ldc2 (v := (255 : Int64)) hx hb hown (hts (.constantLong RX9 249 (255)) (by decide +kernel)) dX9_charactersIn_22 ?_
        refine lv_land hx hb dX9_charactersIn_25 ?_
        refine lv_l2i (v := (v2 &&& (255 : Int64)).toInt32) hx hb dX9_charactersIn_26 rfl ?_
        refine lv_bipush (v := (33 : Int32)) hx hb dX9_charactersIn_27 (by decide) ?_
        refine lv_bipush (v := (126 : Int32)) hx hb dX9_charactersIn_29 (by decide) ?_
        have hs3 := hs.1
        have hs := hs.2
        refine q_Si (As := [.int ((v2 &&& (255 : Int64)).toInt32), .int (33 : Int32), .int (126 : Int32)]) (rest := []) (R := P_X9_isIn ((v2 &&& (255 : Int64)).toInt32) (33 : Int32) (126 : Int32)) ⟨hx, hb, hml, hown, hts⟩ (m_X9_isIn l ((v2 &&& (255 : Int64)).toInt32) (33 : Int32) (126 : Int32) hs3) (va_cwS 3 hts gX9_charactersIn_X9_isIn rfl rfl rfl hd_X9_isIn ⟨Nat.le_of_ble_eq_true rfl, Nat.le_of_ble_eq_true rfl⟩) hl rfl rfl (Nat.le_of_ble_eq_true rfl) dX9_charactersIn_31 ⟨Nat.le_refl 0, Nat.le_refl 0⟩ ?_
        refine lv_if_ne (tgt := 39) hx hb dX9_charactersIn_34 (by decide) (fun c_4 => ?_) (fun c_4 => ?_)
        · have hs := hs.2 c_4
          rw [if_neg c_4] at hR
          refine lv_iinc (v := v4 + (1 : Int32)) (lv' := [(4, .int (v4 + (1 : Int32))), (2, .long v2), (5, .int v5)]) hx hb dX9_charactersIn_39 hl (k := 1) rfl rfl (by decide) rfl (fun ls hl => ?_)
          refine lv_lload_n hx hb dX9_charactersIn_42 rfl (lv_at hl 1 rfl) ?_
          refine lv_bipush (v := (8 : Int32)) hx hb dX9_charactersIn_43 (by decide) ?_
          refine lv_lushr (v := (v2.toUInt64 >>> ((8 : Int32).toInt64.toUInt64 &&& Int64.toUInt64 63)).toInt64) hx hb dX9_charactersIn_45 rfl ?_
          refine lv_lstore_n (lv' := [(2, .long ((v2.toUInt64 >>> ((8 : Int32).toInt64.toUInt64 &&& Int64.toUInt64 63)).toInt64)), (4, .int (v4 + (1 : Int32))), (5, .int v5)]) hx hb dX9_charactersIn_46 rfl hl (by decide) rfl (fun ls hl => ?_)
          exact b_X9_charactersIn_b47n l C0 R _ _ ih ((v2.toUInt64 >>> ((8 : Int32).toInt64.toUInt64 &&& Int64.toUInt64 63)).toInt64) (v4 + (1 : Int32)) v5 hs hR H locs ls (lv_sub hl [0, 1, 2] rfl)
        · have hs := hs.1 c_4
          rw [if_pos c_4] at hR
          refine lv_iconst (v := (0 : Int32)) hx hb dX9_charactersIn_37 (by decide) ?_
          exact q_iretrs C0 hR dX9_charactersIn_38
set_option maxHeartbeats 400000 in
set_option maxRecDepth 100000 in
theorem b_X9_charactersIn_b0 {p : Program} {e : Env} {s : State} {m : MethodId} {args : Array Value} {below : List Frame} {meth : Method} {c : Code} (l : Launch) (C0 : q_C1 p s m meth c args RX9 cX9_charactersIn 6 (some .int) wsX9_charactersIn) (R : Int32) : ∀ (v0 : Int64), S_X9_charactersIn_b0 v0 → P_X9_charactersIn_b0 v0 = R → ∀ (H : Heap) (locs : List Loc) (ls : Array Slot), lv_has ls 6 [(0, .long v0)] → W p l e { frames := 1, cells := 0, slots := 0, locals := 22 } s m args below meth c s.heap [] 0 0 (MQ below (vp_Si (fun r => r = R)) args s 0 0 (fun _ => False)) (F0 m 0 ls []) := by
  intro v0 hs hR H locs ls hl
  rw [P_X9_charactersIn_b0_e] at hR
  rw [S_X9_charactersIn_b0_e] at hs
  obtain ⟨hx, hb, hr, hml, hts, hown, hlocks⟩ := id C0
  refine lv_lload_n hx hb dX9_charactersIn_0 rfl (lv_at hl 0 rfl) ?_
  refine lv_lstore_n (lv' := [(2, .long v0), (0, .long v0)]) hx hb dX9_charactersIn_1 rfl hl (by decide) rfl (fun ls hl => ?_)
  refine lv_iconst (v := (0 : Int32)) hx hb dX9_charactersIn_2 (by decide) ?_
  refine lv_istore (lv' := [(4, .int (0 : Int32)), (2, .long v0), (0, .long v0)]) hx hb dX9_charactersIn_3 hl (by decide) rfl (fun ls hl => ?_)
  refine lv_iconst (v := (0 : Int32)) hx hb dX9_charactersIn_5 (by decide) ?_
  refine lv_istore (lv' := [(5, .int (0 : Int32)), (4, .int (0 : Int32)), (2, .long v0), (0, .long v0)]) hx hb dX9_charactersIn_6 hl (by decide) rfl (fun ls hl => ?_)
  exact b_X9_charactersIn_b8 l C0 R FU v0 (0 : Int32) (0 : Int32) hs hR H locs ls (lv_sub hl [2, 1, 0] rfl)
set_option maxHeartbeats 400000 in
set_option maxRecDepth 100000 in
theorem m_X9_charactersIn (l : Launch) (p0 : Int64) (hs : S_X9_charactersIn p0) : Met l yX9_charactersIn wsX9_charactersIn { frames := 1, cells := 0, slots := 0, locals := 22 } (va_Pc [.long p0] (fun _ => True)) (vp_Si (fun r => r = P_X9_charactersIn p0)) 0 0 (fun _ => False) := by
  refine q_mets [.long p0] (cc := cX9_charactersIn) (maxL := 6) (ret := (some .int)) (by decide) rfl (Nat.le_of_ble_eq_true rfl) ?_
  intro p e s m args below meth c ls C0 hl
  exact b_X9_charactersIn_b0 l C0 _ p0 hs rfl s.heap [] ls (lv_sub hl [0] rfl)
theorem hin_X9_playTrial_X7 : ∀ w ∈ u_ws RX7 TX7 7, w ∈ wsX9_playTrial := by decide +kernel
theorem hin_X9_playTrial_X9 : ∀ w ∈ u_ws RX9 TX9 7, w ∈ wsX9_playTrial := by decide +kernel
theorem hd_X9_playTrial : yX9_playTrial.cls = RX9 ∧ yX9_playTrial.cls ≠ "java/lang/invoke/MethodHandle" ∧ yX9_playTrial.cls ≠ "java/lang/invoke/VarHandle" ∧ (parseMethodDescriptor yX9_playTrial.desc).map (fun d => d.parameters.length) = some 2 := by decide +kernel
noncomputable def P_X9_playTrial_b48c (σ : T2) : T2 := sb σ 18 17 (P_X7_runTo (fun j => σ (18 + j)) (P_X5_lastTime (fun j => σ (20 + j))))
def S_X9_playTrial_b48c (σ : T2) : Prop := (S_X5_lastTime (fun j => σ (20 + j)) ) ∧ ((S_X7_runTo (fun j => σ (18 + j)) (P_X5_lastTime (fun j => σ (20 + j)))) ∧ (True))
theorem P_X9_playTrial_b48c_e (σ : T2) : P_X9_playTrial_b48c σ = sb σ 18 17 (P_X7_runTo (fun j => σ (18 + j)) (P_X5_lastTime (fun j => σ (20 + j)))) := rfl
theorem S_X9_playTrial_b48c_e (σ : T2) : S_X9_playTrial_b48c σ = ((S_X5_lastTime (fun j => σ (20 + j)) ) ∧ ((S_X7_runTo (fun j => σ (18 + j)) (P_X5_lastTime (fun j => σ (20 + j)))) ∧ (True))) := rfl
noncomputable def P_X9_playTrial_b0 (σ : T2) (v1 : Int32) (v2 : Int32) : T2 := P_X9_playTrial_b48c (sb (u2 σ 19 (upd (upd (va_cpy (σ 2) (σ 19) 0 0 8) 2 v1) 3 v2)) 18 17 (P_X7_begin (fun j => (u2 σ 19 (upd (upd (va_cpy (σ 2) (σ 19) 0 0 8) 2 v1) 3 v2)) (18 + j))))
def S_X9_playTrial_b0 (σ : T2) (v1 : Int32) (v2 : Int32) : Prop := (S_X7_begin (fun j => (u2 σ 19 (upd (upd (va_cpy (σ 2) (σ 19) 0 0 8) 2 v1) 3 v2)) (18 + j)) ) ∧ (S_X9_playTrial_b48c (sb (u2 σ 19 (upd (upd (va_cpy (σ 2) (σ 19) 0 0 8) 2 v1) 3 v2)) 18 17 (P_X7_begin (fun j => (u2 σ 19 (upd (upd (va_cpy (σ 2) (σ 19) 0 0 8) 2 v1) 3 v2)) (18 + j)))))
theorem P_X9_playTrial_b0_e (σ : T2) (v1 : Int32) (v2 : Int32) : P_X9_playTrial_b0 σ v1 v2 = P_X9_playTrial_b48c (sb (u2 σ 19 (upd (upd (va_cpy (σ 2) (σ 19) 0 0 8) 2 v1) 3 v2)) 18 17 (P_X7_begin (fun j => (u2 σ 19 (upd (upd (va_cpy (σ 2) (σ 19) 0 0 8) 2 v1) 3 v2)) (18 + j)))) := rfl
theorem S_X9_playTrial_b0_e (σ : T2) (v1 : Int32) (v2 : Int32) : S_X9_playTrial_b0 σ v1 v2 = ((S_X7_begin (fun j => (u2 σ 19 (upd (upd (va_cpy (σ 2) (σ 19) 0 0 8) 2 v1) 3 v2)) (18 + j)) ) ∧ (S_X9_playTrial_b48c (sb (u2 σ 19 (upd (upd (va_cpy (σ 2) (σ 19) 0 0 8) 2 v1) 3 v2)) 18 17 (P_X7_begin (fun j => (u2 σ 19 (upd (upd (va_cpy (σ 2) (σ 19) 0 0 8) 2 v1) 3 v2)) (18 + j)))))) := rfl
noncomputable def P_X9_playTrial (σ : T2) (p0 : Int32) (p1 : Int32) : T2 := P_X9_playTrial_b0 σ p0 p1
def S_X9_playTrial (σ : T2) (p0 : Int32) (p1 : Int32) : Prop := S_X9_playTrial_b0 σ p0 p1
set_option maxHeartbeats 400000 in
set_option maxRecDepth 100000 in
theorem b_X9_playTrial_b48c {p : Program} {e : Env} {s : State} {m : MethodId} {args : Array Value} {below : List Frame} {meth : Method} {c : Code} (l : Launch) (D : va_G) (k : Nat → ClassId) (a : Nat → Nat) (A : Nat → Prop) (C0 : q_C p s m meth c args RX9 cX9_playTrial 3 none wsX9_playTrial D (tyL k) A) (R : T2) : ∀ (σ : T2), S_X9_playTrial_b48c σ → P_X9_playTrial_b48c σ = R → ∀ (H : Heap) (locs : List Loc) (ls : Array Slot), q_W D A s.heap (wX9 k a σ) H locs → lv_has ls 3 [(0, .ref (a 0))] → W p l e { frames := 5, cells := 0, slots := 0, locals := 133 } s m args below meth c H locs 0 0 (MQ below (va_Qv (fun u => u = R) (fun u => q_E D (tyL k) A (wX9 k a u)) A) args s 0 0 A) (F0 m 48 ls []) := by
  intro σ hs hR H locs ls hW hl
  rw [P_X9_playTrial_b48c_e] at hR
  rw [S_X9_playTrial_b48c_e] at hs
  obtain ⟨hx, hb, hr, hml, hts, hown, hlocks, hK, hA⟩ := id C0
  have hf16 := hts (.fieldLink RX9 16 "BeatFollower" "trial" "LBeatFollower$Scene;") (by decide +kernel)
  have hf87 := hts (.fieldLink RX9 87 "BeatFollower$Scene" "plan" "LBeatFollower$Plan;") (by decide +kernel)
  have hinX7 : ∀ w ∈ u_ws RX7 TX7 7, w ∈ wsX9_playTrial := hin_X9_playTrial_X7
  have hinX9 : ∀ w ∈ u_ws RX9 TX9 7, w ∈ wsX9_playTrial := hin_X9_playTrial_X9
  refine lv_aload_n hx hb dX9_playTrial_48 rfl (lv_at hl 0 rfl) ?_
  refine va_get (v := .ref (a 18)) (C := RX9) (T := TX9) (N := 7) hx hb hts hinX9 hown hK hW.1 0 (q_w_get 0 (Nat.le_of_ble_eq_true rfl)) rfl 1 (by decide) hf16 (fun _ h9 => h9) rfl dX9_playTrial_49 ?_
  refine lv_aload_n hx hb dX9_playTrial_52 rfl (lv_at hl 0 rfl) ?_
  refine va_get (v := .ref (a 18)) (C := RX9) (T := TX9) (N := 7) hx hb hts hinX9 hown hK hW.1 0 (q_w_get 0 (Nat.le_of_ble_eq_true rfl)) rfl 1 (by decide) hf16 (fun _ h9 => h9) rfl dX9_playTrial_53 ?_
  refine va_get (v := .ref (a 20)) (C := RX7) (T := TX7) (N := 7) hx hb hts hinX7 hown hK hW.1 18 (q_w_get 18 (Nat.le_of_ble_eq_true rfl)) rfl 1 (by decide) hf87 (fun _ h9 => h9) rfl dX9_playTrial_56 ?_
  have hs2 := hs.1
  have hs := hs.2
  refine q_Vi (As := []) (rest := [.ref (a 18)]) (R := P_X5_lastTime (fun j => σ (20 + j))) (wX9_X5_20_is) [0, 1, 2, 3] 20 5 C0 hW (m_X5_lastTime l D k (fun j => a (20 + j)) _ (fun j => σ (20 + j))  hs2) (cwV 0 hts gX9_playTrial_X5_lastTime rfl rfl rfl hd_X5_lastTime ⟨Nat.le_of_ble_eq_true rfl, Nat.le_of_ble_eq_true rfl⟩) (wX9_X5_20_nd) (wX9_X5_20_pl k a _) rfl (q_w_get 20 (Nat.le_of_ble_eq_true rfl)) rfl hl rfl rfl (Nat.le_of_ble_eq_true rfl) dX9_playTrial_59 ⟨Nat.le_refl 0, Nat.le_refl 0⟩ ?_
  have hs3 := hs.1
  have hs := hs.2
  refine q_Vv (As := [.int (P_X5_lastTime (fun j => σ (20 + j)))]) (rest := []) (wf := wX7 k (fun j => a (18 + j))) (R := P_X7_runTo (fun j => σ (18 + j)) (P_X5_lastTime (fun j => σ (20 + j)))) (wd' := wX9 k a (sb σ 18 17 (P_X7_runTo (fun j => σ (18 + j)) (P_X5_lastTime (fun j => σ (20 + j)))))) (wX9_X7_18_is) [0, 1, 2, 3] 18 7 C0 hW (m_X7_runTo l D k (fun j => a (18 + j)) H.size (fun j => σ (18 + j)) (P_X5_lastTime (fun j => σ (20 + j))) hs3) (cwV 1 hts gX9_playTrial_X7_runTo rfl rfl rfl hd_X7_runTo ⟨Nat.le_of_ble_eq_true rfl, Nat.le_of_ble_eq_true rfl⟩) (wX9_X7_18_nd) (wX9_X7_18_pl k a _) rfl (q_w_get 18 (Nat.le_of_ble_eq_true rfl)) rfl (wX7_fst k _ _ _) (wX9_X7_18_pt k a _ _) hl rfl rfl (Nat.le_of_ble_eq_true rfl) dX9_playTrial_62 ⟨Nat.le_refl 0, Nat.le_refl 0⟩ (fun H locs hW => ?_)
  exact q_vret C0 hW hR dX9_playTrial_65
set_option maxHeartbeats 400000 in
set_option maxRecDepth 100000 in
theorem b_X9_playTrial_b0 {p : Program} {e : Env} {s : State} {m : MethodId} {args : Array Value} {below : List Frame} {meth : Method} {c : Code} (l : Launch) (D : va_G) (k : Nat → ClassId) (a : Nat → Nat) (A : Nat → Prop) (C0 : q_C p s m meth c args RX9 cX9_playTrial 3 none wsX9_playTrial D (tyL k) A) (R : T2) : ∀ (σ : T2) (v1 : Int32) (v2 : Int32), S_X9_playTrial_b0 σ v1 v2 → P_X9_playTrial_b0 σ v1 v2 = R → ∀ (H : Heap) (locs : List Loc) (ls : Array Slot), q_W D A s.heap (wX9 k a σ) H locs → lv_has ls 3 [(0, .ref (a 0)), (1, .int v1), (2, .int v2)] → W p l e { frames := 5, cells := 0, slots := 0, locals := 133 } s m args below meth c H locs 0 0 (MQ below (va_Qv (fun u => u = R) (fun u => q_E D (tyL k) A (wX9 k a u)) A) args s 0 0 A) (F0 m 0 ls []) := by
  intro σ v1 v2 hs hR H locs ls hW hl
  rw [P_X9_playTrial_b0_e] at hR
  rw [S_X9_playTrial_b0_e] at hs
  obtain ⟨hx, hb, hr, hml, hts, hown, hlocks, hK, hA⟩ := id C0
  have hf10 := hts (.fieldLink RX9 10 "BeatFollower" "scene" "LBeatFollower$Scene;") (by decide +kernel)
  have hf16 := hts (.fieldLink RX9 16 "BeatFollower" "trial" "LBeatFollower$Scene;") (by decide +kernel)
  have hf73 := hts (.fieldLink RX9 73 "BeatFollower$Scene" "settings" "[I") (by decide +kernel)
  have hinX7 : ∀ w ∈ u_ws RX7 TX7 7, w ∈ wsX9_playTrial := hin_X9_playTrial_X7
  have hinX9 : ∀ w ∈ u_ws RX9 TX9 7, w ∈ wsX9_playTrial := hin_X9_playTrial_X9
  refine lv_aload_n hx hb dX9_playTrial_0 rfl (lv_at hl 0 rfl) ?_
  refine va_get (v := .ref (a 1)) (C := RX9) (T := TX9) (N := 7) hx hb hts hinX9 hown hK hW.1 0 (q_w_get 0 (Nat.le_of_ble_eq_true rfl)) rfl 0 (by decide) hf10 (fun _ h9 => h9) rfl dX9_playTrial_1 ?_
  refine va_get (v := .ref (a 2)) (C := RX7) (T := TX7) (N := 7) hx hb hts hinX7 hown hK hW.1 1 (q_w_get 1 (Nat.le_of_ble_eq_true rfl)) rfl 0 (by decide) hf73 (fun _ h9 => h9) rfl dX9_playTrial_4 ?_
  refine lv_iconst (v := (0 : Int32)) hx hb dX9_playTrial_7 (by decide) ?_
  refine lv_aload_n hx hb dX9_playTrial_8 rfl (lv_at hl 0 rfl) ?_
  refine va_get (v := .ref (a 18)) (C := RX9) (T := TX9) (N := 7) hx hb hts hinX9 hown hK hW.1 0 (q_w_get 0 (Nat.le_of_ble_eq_true rfl)) rfl 1 (by decide) hf16 (fun _ h9 => h9) rfl dX9_playTrial_9 ?_
  refine va_get (v := .ref (a 19)) (C := RX7) (T := TX7) (N := 7) hx hb hts hinX7 hown hK hW.1 18 (q_w_get 18 (Nat.le_of_ble_eq_true rfl)) rfl 0 (by decide) hf73 (fun _ h9 => h9) rfl dX9_playTrial_12 ?_
  refine lv_iconst (v := (0 : Int32)) hx hb dX9_playTrial_15 (by decide) ?_
  refine lv_bipush (v := (8 : Int32)) hx hb dX9_playTrial_16 (by decide) ?_
  refine q_cpy (f := σ 2) (g := σ 19) (kn := 8) (wd' := wX9 k a (u2 σ 19 (va_cpy (σ 2) (σ 19) 0 0 8))) C0 hW 2 19 (q_w_get 2 (Nat.le_of_ble_eq_true rfl)) (q_w_get 19 (Nat.le_of_ble_eq_true rfl)) rfl (by rw [hml]; exact hl.1.symm) (hts (.methodLink RX9 268 arraycopyName) (by decide +kernel)) (hts (.native arraycopyName) (by decide +kernel)) (hts (.static arraycopyName) (by decide +kernel)) (hts (.initialized "java/lang/System") (by decide +kernel)) (by decide) cl_8 (Nat.le_of_ble_eq_true rfl) (Nat.le_of_ble_eq_true rfl) (Nat.le_of_ble_eq_true rfl) (Nat.le_of_ble_eq_true rfl) dX9_playTrial_18 (wX9_s19 k a _ _) (fun H locs hW => ?_)
  refine lv_aload_n hx hb dX9_playTrial_21 rfl (lv_at hl 0 rfl) ?_
  refine va_get (v := .ref (a 18)) (C := RX9) (T := TX9) (N := 7) hx hb hts hinX9 hown hK hW.1 0 (q_w_get 0 (Nat.le_of_ble_eq_true rfl)) rfl 1 (by decide) hf16 (fun _ h9 => h9) rfl dX9_playTrial_22 ?_
  refine va_get (v := .ref (a 19)) (C := RX7) (T := TX7) (N := 7) hx hb hts hinX7 hown hK hW.1 18 (q_w_get 18 (Nat.le_of_ble_eq_true rfl)) rfl 0 (by decide) hf73 (fun _ h9 => h9) rfl dX9_playTrial_25 ?_
  refine lv_iconst (v := (2 : Int32)) hx hb dX9_playTrial_28 (by decide) ?_
  refine lv_iload_n hx hb dX9_playTrial_29 rfl (lv_at hl 1 rfl) ?_
  refine q_iast (f := va_cpy (σ 2) (σ 19) 0 0 8) (wd' := wX9 k a (u2 σ 19 (upd (va_cpy (σ 2) (σ 19) 0 0 8) 2 v1))) C0 hW 19 (q_w_get 19 (Nat.le_of_ble_eq_true rfl)) rfl vi_2_8 cl_2 dX9_playTrial_30 ((wX9_s19 k a _ _).trans (congrArg (wX9 k a) (u2_same _ _ _ _))) (fun H locs hW => ?_)
  refine lv_aload_n hx hb dX9_playTrial_31 rfl (lv_at hl 0 rfl) ?_
  refine va_get (v := .ref (a 18)) (C := RX9) (T := TX9) (N := 7) hx hb hts hinX9 hown hK hW.1 0 (q_w_get 0 (Nat.le_of_ble_eq_true rfl)) rfl 1 (by decide) hf16 (fun _ h9 => h9) rfl dX9_playTrial_32 ?_
  refine va_get (v := .ref (a 19)) (C := RX7) (T := TX7) (N := 7) hx hb hts hinX7 hown hK hW.1 18 (q_w_get 18 (Nat.le_of_ble_eq_true rfl)) rfl 0 (by decide) hf73 (fun _ h9 => h9) rfl dX9_playTrial_35 ?_
  refine lv_iconst (v := (3 : Int32)) hx hb dX9_playTrial_38 (by decide) ?_
  refine lv_iload_n hx hb dX9_playTrial_39 rfl (lv_at hl 2 rfl) ?_
  refine q_iast (f := upd (va_cpy (σ 2) (σ 19) 0 0 8) 2 v1) (wd' := wX9 k a (u2 σ 19 (upd (upd (va_cpy (σ 2) (σ 19) 0 0 8) 2 v1) 3 v2))) C0 hW 19 (q_w_get 19 (Nat.le_of_ble_eq_true rfl)) rfl vi_3_8 cl_3 dX9_playTrial_40 ((wX9_s19 k a _ _).trans (congrArg (wX9 k a) (u2_same _ _ _ _))) (fun H locs hW => ?_)
  refine lv_aload_n hx hb dX9_playTrial_41 rfl (lv_at hl 0 rfl) ?_
  refine va_get (v := .ref (a 18)) (C := RX9) (T := TX9) (N := 7) hx hb hts hinX9 hown hK hW.1 0 (q_w_get 0 (Nat.le_of_ble_eq_true rfl)) rfl 1 (by decide) hf16 (fun _ h9 => h9) rfl dX9_playTrial_42 ?_
  have hs1 := hs.1
  have hs := hs.2
  refine q_Vv (As := []) (rest := []) (wf := wX7 k (fun j => a (18 + j))) (R := P_X7_begin (fun j => (u2 σ 19 (upd (upd (va_cpy (σ 2) (σ 19) 0 0 8) 2 v1) 3 v2)) (18 + j))) (wd' := wX9 k a (sb (u2 σ 19 (upd (upd (va_cpy (σ 2) (σ 19) 0 0 8) 2 v1) 3 v2)) 18 17 (P_X7_begin (fun j => (u2 σ 19 (upd (upd (va_cpy (σ 2) (σ 19) 0 0 8) 2 v1) 3 v2)) (18 + j))))) (wX9_X7_18_is) [0, 1, 2, 3] 18 7 C0 hW (m_X7_begin l D k (fun j => a (18 + j)) H.size (fun j => (u2 σ 19 (upd (upd (va_cpy (σ 2) (σ 19) 0 0 8) 2 v1) 3 v2)) (18 + j))  hs1) (cwV 0 hts gX9_playTrial_X7_begin rfl rfl rfl hd_X7_begin ⟨Nat.le_of_ble_eq_true rfl, Nat.le_of_ble_eq_true rfl⟩) (wX9_X7_18_nd) (wX9_X7_18_pl k a _) rfl (q_w_get 18 (Nat.le_of_ble_eq_true rfl)) rfl (wX7_fst k _ _ _) (wX9_X7_18_pt k a _ _) hl rfl rfl (Nat.le_of_ble_eq_true rfl) dX9_playTrial_45 ⟨Nat.le_refl 0, Nat.le_refl 0⟩ (fun H locs hW => ?_)
  exact b_X9_playTrial_b48c l D k a A C0 R (sb (u2 σ 19 (upd (upd (va_cpy (σ 2) (σ 19) 0 0 8) 2 v1) 3 v2)) 18 17 (P_X7_begin (fun j => (u2 σ 19 (upd (upd (va_cpy (σ 2) (σ 19) 0 0 8) 2 v1) 3 v2)) (18 + j)))) hs hR H locs ls hW (lv_sub hl [0] rfl)
set_option maxHeartbeats 400000 in
set_option maxRecDepth 100000 in
theorem m_X9_playTrial (l : Launch) (D : va_G) (k : Nat → ClassId) (a : Nat → Nat) (sz : Nat) (σ : T2) (p0 : Int32) (p1 : Int32) (hs : S_X9_playTrial σ p0 p1) : Met l yX9_playTrial wsX9_playTrial { frames := 5, cells := 0, slots := 0, locals := 133 } (va_Pc [.ref (a 0), .int p0, .int p1] (q_B D (tyL k) (wX9 k a σ) sz)) (va_Qv (fun u => u = P_X9_playTrial σ p0 p1) (fun u => q_E D (tyL k) (va_A (wX9 k a σ) sz) (wX9 k a u)) (va_A (wX9 k a σ) sz)) 0 0 (va_A (wX9 k a σ) sz) := by
  refine q_met [.ref (a 0), .int p0, .int p1] (wX9 k a σ) sz (cc := cX9_playTrial) (maxL := 3) (ret := none) (by decide) rfl (Nat.le_of_ble_eq_true rfl) ?_
  intro p e s m args below meth c ls hsz C0 hW hl hin
  subst hsz
  exact b_X9_playTrial_b0 l D k a _ C0 _ σ p0 p1 hs rfl s.heap [] ls hW (lv_sub hl [0, 1, 2] rfl)
theorem hin_X9_beat_X5 : ∀ w ∈ u_ws RX5 TX5 3, w ∈ wsX9_beat := by decide +kernel
theorem hin_X9_beat_X7 : ∀ w ∈ u_ws RX7 TX7 7, w ∈ wsX9_beat := by decide +kernel
theorem hin_X9_beat_X9 : ∀ w ∈ u_ws RX9 TX9 7, w ∈ wsX9_beat := by decide +kernel
theorem hd_X9_beat : yX9_beat.cls = RX9 ∧ yX9_beat.cls ≠ "java/lang/invoke/MethodHandle" ∧ yX9_beat.cls ≠ "java/lang/invoke/VarHandle" ∧ (parseMethodDescriptor yX9_beat.desc).map (fun d => d.parameters.length) = some 2 := by decide +kernel
noncomputable def P_X9_beat_b108c (σ : T2) : Int32 × T2 := (σ 3 2, σ)
def S_X9_beat_b108c (σ : T2) : Prop := True
theorem P_X9_beat_b108c_e (σ : T2) : P_X9_beat_b108c σ = (σ 3 2, σ) := rfl
theorem S_X9_beat_b108c_e (σ : T2) : S_X9_beat_b108c σ = (True) := rfl
noncomputable def P_X9_beat_b95c (σ : T2) (v3 : Int32) (v4 : Int32) : Int32 × T2 := P_X9_beat_b108c (sb σ 3 3 (P_X5_append (fun j => σ (3 + j)) v3 v4))
def S_X9_beat_b95c (σ : T2) (v3 : Int32) (v4 : Int32) : Prop := (S_X5_append (fun j => σ (3 + j)) v3 v4) ∧ (S_X9_beat_b108c (sb σ 3 3 (P_X5_append (fun j => σ (3 + j)) v3 v4)))
theorem P_X9_beat_b95c_e (σ : T2) (v3 : Int32) (v4 : Int32) : P_X9_beat_b95c σ v3 v4 = P_X9_beat_b108c (sb σ 3 3 (P_X5_append (fun j => σ (3 + j)) v3 v4)) := rfl
theorem S_X9_beat_b95c_e (σ : T2) (v3 : Int32) (v4 : Int32) : S_X9_beat_b95c σ v3 v4 = ((S_X5_append (fun j => σ (3 + j)) v3 v4) ∧ (S_X9_beat_b108c (sb σ 3 3 (P_X5_append (fun j => σ (3 + j)) v3 v4)))) := rfl
noncomputable def P_X9_beat_b51n (σ : T2) (v3 : Int32) (v4 : Int32) : Int32 × T2 := if (P_X5_canHold (fun j => σ (3 + j)) v3 v4) = 0 then (((-4 : Int32), σ)) else (if (σ 1 6) < v3 then (P_X9_beat_b95c (sb2 σ 35 104 1 17 (P_X3_record (sel σ 35 104 1))) v3 v4) else (((-5 : Int32), σ)))
def S_X9_beat_b51n (σ : T2) (v3 : Int32) (v4 : Int32) : Prop := (S_X5_canHold (fun j => σ (3 + j)) v3 v4) ∧ (((P_X5_canHold (fun j => σ (3 + j)) v3 v4) = 0 → (True)) ∧ (¬ ((P_X5_canHold (fun j => σ (3 + j)) v3 v4) = 0) → (((σ 1 6) < v3 → ((S_X3_record (sel σ 35 104 1) ) ∧ (S_X9_beat_b95c (sb2 σ 35 104 1 17 (P_X3_record (sel σ 35 104 1))) v3 v4))) ∧ (¬ ((σ 1 6) < v3) → (True)))))
theorem P_X9_beat_b51n_e (σ : T2) (v3 : Int32) (v4 : Int32) : P_X9_beat_b51n σ v3 v4 = if (P_X5_canHold (fun j => σ (3 + j)) v3 v4) = 0 then (((-4 : Int32), σ)) else (if (σ 1 6) < v3 then (P_X9_beat_b95c (sb2 σ 35 104 1 17 (P_X3_record (sel σ 35 104 1))) v3 v4) else (((-5 : Int32), σ))) := rfl
theorem S_X9_beat_b51n_e (σ : T2) (v3 : Int32) (v4 : Int32) : S_X9_beat_b51n σ v3 v4 = ((S_X5_canHold (fun j => σ (3 + j)) v3 v4) ∧ (((P_X5_canHold (fun j => σ (3 + j)) v3 v4) = 0 → (True)) ∧ (¬ ((P_X5_canHold (fun j => σ (3 + j)) v3 v4) = 0) → (((σ 1 6) < v3 → ((S_X3_record (sel σ 35 104 1) ) ∧ (S_X9_beat_b95c (sb2 σ 35 104 1 17 (P_X3_record (sel σ 35 104 1))) v3 v4))) ∧ (¬ ((σ 1 6) < v3) → (True)))))) := rfl
noncomputable def P_X9_beat_b37n (σ : T2) (v2 : Int32) (v3 : Int32) : Int32 × T2 := P_X9_beat_b51n σ v3 ((P_X5_nextNumber (fun j => σ (3 + j))) + v2)
def S_X9_beat_b37n (σ : T2) (v2 : Int32) (v3 : Int32) : Prop := (S_X5_nextNumber (fun j => σ (3 + j)) ) ∧ (S_X9_beat_b51n σ v3 ((P_X5_nextNumber (fun j => σ (3 + j))) + v2))
theorem P_X9_beat_b37n_e (σ : T2) (v2 : Int32) (v3 : Int32) : P_X9_beat_b37n σ v2 v3 = P_X9_beat_b51n σ v3 ((P_X5_nextNumber (fun j => σ (3 + j))) + v2) := rfl
theorem S_X9_beat_b37n_e (σ : T2) (v2 : Int32) (v3 : Int32) : S_X9_beat_b37n σ v2 v3 = ((S_X5_nextNumber (fun j => σ (3 + j)) ) ∧ (S_X9_beat_b51n σ v3 ((P_X5_nextNumber (fun j => σ (3 + j))) + v2))) := rfl
noncomputable def P_X9_beat_b0 (σ : T2) (v1 : Int32) (v2 : Int32) : Int32 × T2 := if (P_X9_isIn v1 (1 : Int32) (9999 : Int32)) = 0 then (((-2 : Int32), σ)) else (if (P_X9_isIn v2 (0 : Int32) (99 : Int32)) = 0 then (((-2 : Int32), σ)) else (P_X9_beat_b37n σ v2 ((P_X5_lastTime (fun j => σ (3 + j))) + v1)))
def S_X9_beat_b0 (σ : T2) (v1 : Int32) (v2 : Int32) : Prop := (S_X9_isIn v1 (1 : Int32) (9999 : Int32)) ∧ (((P_X9_isIn v1 (1 : Int32) (9999 : Int32)) = 0 → (True)) ∧ (¬ ((P_X9_isIn v1 (1 : Int32) (9999 : Int32)) = 0) → ((S_X9_isIn v2 (0 : Int32) (99 : Int32)) ∧ (((P_X9_isIn v2 (0 : Int32) (99 : Int32)) = 0 → (True)) ∧ (¬ ((P_X9_isIn v2 (0 : Int32) (99 : Int32)) = 0) → ((S_X5_lastTime (fun j => σ (3 + j)) ) ∧ (S_X9_beat_b37n σ v2 ((P_X5_lastTime (fun j => σ (3 + j))) + v1))))))))
theorem P_X9_beat_b0_e (σ : T2) (v1 : Int32) (v2 : Int32) : P_X9_beat_b0 σ v1 v2 = if (P_X9_isIn v1 (1 : Int32) (9999 : Int32)) = 0 then (((-2 : Int32), σ)) else (if (P_X9_isIn v2 (0 : Int32) (99 : Int32)) = 0 then (((-2 : Int32), σ)) else (P_X9_beat_b37n σ v2 ((P_X5_lastTime (fun j => σ (3 + j))) + v1))) := rfl
theorem S_X9_beat_b0_e (σ : T2) (v1 : Int32) (v2 : Int32) : S_X9_beat_b0 σ v1 v2 = ((S_X9_isIn v1 (1 : Int32) (9999 : Int32)) ∧ (((P_X9_isIn v1 (1 : Int32) (9999 : Int32)) = 0 → (True)) ∧ (¬ ((P_X9_isIn v1 (1 : Int32) (9999 : Int32)) = 0) → ((S_X9_isIn v2 (0 : Int32) (99 : Int32)) ∧ (((P_X9_isIn v2 (0 : Int32) (99 : Int32)) = 0 → (True)) ∧ (¬ ((P_X9_isIn v2 (0 : Int32) (99 : Int32)) = 0) → ((S_X5_lastTime (fun j => σ (3 + j)) ) ∧ (S_X9_beat_b37n σ v2 ((P_X5_lastTime (fun j => σ (3 + j))) + v1))))))))) := rfl
noncomputable def P_X9_beat (σ : T2) (p0 : Int32) (p1 : Int32) : Int32 × T2 := P_X9_beat_b0 σ p0 p1
def S_X9_beat (σ : T2) (p0 : Int32) (p1 : Int32) : Prop := S_X9_beat_b0 σ p0 p1
set_option maxHeartbeats 400000 in
set_option maxRecDepth 100000 in
theorem b_X9_beat_b108c {p : Program} {e : Env} {s : State} {m : MethodId} {args : Array Value} {below : List Frame} {meth : Method} {c : Code} (l : Launch) (D : va_G) (k : Nat → ClassId) (a : Nat → Nat) (A : Nat → Prop) (C0 : q_C p s m meth c args RX9 cX9_beat 5 (some .int) wsX9_beat D (tyL k) A) (R : Int32 × T2) : ∀ (σ : T2), S_X9_beat_b108c σ → P_X9_beat_b108c σ = R → ∀ (H : Heap) (locs : List Loc) (ls : Array Slot), q_W D A s.heap (wX9 k a σ) H locs → lv_has ls 5 [(0, .ref (a 0))] → W p l e { frames := 4, cells := 0, slots := 0, locals := 103 } s m args below meth c H locs 0 0 (MQ below (va_Qi (fun r u => (r, u) = R) (fun u => q_E D (tyL k) A (wX9 k a u)) A) args s 0 0 A) (F0 m 108 ls []) := by
  intro σ hs hR H locs ls hW hl
  rw [P_X9_beat_b108c_e] at hR
  rw [S_X9_beat_b108c_e] at hs
  obtain ⟨hx, hb, hr, hml, hts, hown, hlocks, hK, hA⟩ := id C0
  have hf10 := hts (.fieldLink RX9 10 "BeatFollower" "scene" "LBeatFollower$Scene;") (by decide +kernel)
  have hf87 := hts (.fieldLink RX9 87 "BeatFollower$Scene" "plan" "LBeatFollower$Plan;") (by decide +kernel)
  have hf110 := hts (.fieldLink RX9 110 "BeatFollower$Plan" "many" "I") (by decide +kernel)
  have hinX5 : ∀ w ∈ u_ws RX5 TX5 3, w ∈ wsX9_beat := hin_X9_beat_X5
  have hinX7 : ∀ w ∈ u_ws RX7 TX7 7, w ∈ wsX9_beat := hin_X9_beat_X7
  have hinX9 : ∀ w ∈ u_ws RX9 TX9 7, w ∈ wsX9_beat := hin_X9_beat_X9
  refine lv_aload_n hx hb dX9_beat_108 rfl (lv_at hl 0 rfl) ?_
  refine va_get (v := .ref (a 1)) (C := RX9) (T := TX9) (N := 7) hx hb hts hinX9 hown hK hW.1 0 (q_w_get 0 (Nat.le_of_ble_eq_true rfl)) rfl 0 (by decide) hf10 (fun _ h9 => h9) rfl dX9_beat_109 ?_
  refine va_get (v := .ref (a 3)) (C := RX7) (T := TX7) (N := 7) hx hb hts hinX7 hown hK hW.1 1 (q_w_get 1 (Nat.le_of_ble_eq_true rfl)) rfl 1 (by decide) hf87 (fun _ h9 => h9) rfl dX9_beat_112 ?_
  refine va_get (v := .int (σ 3 2)) (C := RX5) (T := TX5) (N := 3) hx hb hts hinX5 hown hK hW.1 3 (q_w_get 3 (Nat.le_of_ble_eq_true rfl)) rfl 2 (by decide) hf110 (fun _ h9 => h9) rfl dX9_beat_115 ?_
  exact q_iret C0 hW hR dX9_beat_118
set_option maxHeartbeats 400000 in
set_option maxRecDepth 100000 in
theorem b_X9_beat_b95c {p : Program} {e : Env} {s : State} {m : MethodId} {args : Array Value} {below : List Frame} {meth : Method} {c : Code} (l : Launch) (D : va_G) (k : Nat → ClassId) (a : Nat → Nat) (A : Nat → Prop) (C0 : q_C p s m meth c args RX9 cX9_beat 5 (some .int) wsX9_beat D (tyL k) A) (R : Int32 × T2) : ∀ (σ : T2) (v3 : Int32) (v4 : Int32), S_X9_beat_b95c σ v3 v4 → P_X9_beat_b95c σ v3 v4 = R → ∀ (H : Heap) (locs : List Loc) (ls : Array Slot), q_W D A s.heap (wX9 k a σ) H locs → lv_has ls 5 [(0, .ref (a 0)), (3, .int v3), (4, .int v4)] → W p l e { frames := 4, cells := 0, slots := 0, locals := 103 } s m args below meth c H locs 0 0 (MQ below (va_Qi (fun r u => (r, u) = R) (fun u => q_E D (tyL k) A (wX9 k a u)) A) args s 0 0 A) (F0 m 95 ls []) := by
  intro σ v3 v4 hs hR H locs ls hW hl
  rw [P_X9_beat_b95c_e] at hR
  rw [S_X9_beat_b95c_e] at hs
  obtain ⟨hx, hb, hr, hml, hts, hown, hlocks, hK, hA⟩ := id C0
  have hf10 := hts (.fieldLink RX9 10 "BeatFollower" "scene" "LBeatFollower$Scene;") (by decide +kernel)
  have hf87 := hts (.fieldLink RX9 87 "BeatFollower$Scene" "plan" "LBeatFollower$Plan;") (by decide +kernel)
  have hinX7 : ∀ w ∈ u_ws RX7 TX7 7, w ∈ wsX9_beat := hin_X9_beat_X7
  have hinX9 : ∀ w ∈ u_ws RX9 TX9 7, w ∈ wsX9_beat := hin_X9_beat_X9
  refine lv_aload_n hx hb dX9_beat_95 rfl (lv_at hl 0 rfl) ?_
  refine va_get (v := .ref (a 1)) (C := RX9) (T := TX9) (N := 7) hx hb hts hinX9 hown hK hW.1 0 (q_w_get 0 (Nat.le_of_ble_eq_true rfl)) rfl 0 (by decide) hf10 (fun _ h9 => h9) rfl dX9_beat_96 ?_
  refine va_get (v := .ref (a 3)) (C := RX7) (T := TX7) (N := 7) hx hb hts hinX7 hown hK hW.1 1 (q_w_get 1 (Nat.le_of_ble_eq_true rfl)) rfl 1 (by decide) hf87 (fun _ h9 => h9) rfl dX9_beat_99 ?_
  refine lv_iload_n hx hb dX9_beat_102 rfl (lv_at hl 1 rfl) ?_
  refine lv_iload hx hb dX9_beat_103 (lv_at hl 2 rfl) ?_
  have hs11 := hs.1
  have hs := hs.2
  refine q_Vv (As := [.int v3, .int v4]) (rest := []) (wf := wX5 k (fun j => a (3 + j))) (R := P_X5_append (fun j => σ (3 + j)) v3 v4) (wd' := wX9 k a (sb σ 3 3 (P_X5_append (fun j => σ (3 + j)) v3 v4))) (wX9_X5_3_is) [0, 1, 2, 3] 3 5 C0 hW (m_X5_append l D k (fun j => a (3 + j)) H.size (fun j => σ (3 + j)) v3 v4 hs11) (cwV 2 hts gX9_beat_X5_append rfl rfl rfl hd_X5_append ⟨Nat.le_of_ble_eq_true rfl, Nat.le_of_ble_eq_true rfl⟩) (wX9_X5_3_nd) (wX9_X5_3_pl k a _) rfl (q_w_get 3 (Nat.le_of_ble_eq_true rfl)) rfl (wX5_fst k _ _ _) (wX9_X5_3_pt k a _ _) hl rfl rfl (Nat.le_of_ble_eq_true rfl) dX9_beat_105 ⟨Nat.le_refl 0, Nat.le_refl 0⟩ (fun H locs hW => ?_)
  exact b_X9_beat_b108c l D k a A C0 R (sb σ 3 3 (P_X5_append (fun j => σ (3 + j)) v3 v4)) hs hR H locs ls hW (lv_sub hl [0] rfl)
set_option maxHeartbeats 400000 in
set_option maxRecDepth 100000 in
theorem b_X9_beat_b51n {p : Program} {e : Env} {s : State} {m : MethodId} {args : Array Value} {below : List Frame} {meth : Method} {c : Code} (l : Launch) (D : va_G) (k : Nat → ClassId) (a : Nat → Nat) (A : Nat → Prop) (C0 : q_C p s m meth c args RX9 cX9_beat 5 (some .int) wsX9_beat D (tyL k) A) (R : Int32 × T2) : ∀ (σ : T2) (v3 : Int32) (v4 : Int32), S_X9_beat_b51n σ v3 v4 → P_X9_beat_b51n σ v3 v4 = R → ∀ (H : Heap) (locs : List Loc) (ls : Array Slot), q_W D A s.heap (wX9 k a σ) H locs → lv_has ls 5 [(0, .ref (a 0)), (3, .int v3), (4, .int v4)] → W p l e { frames := 4, cells := 0, slots := 0, locals := 103 } s m args below meth c H locs 0 0 (MQ below (va_Qi (fun r u => (r, u) = R) (fun u => q_E D (tyL k) A (wX9 k a u)) A) args s 0 0 A) (F0 m 51 ls []) := by
  intro σ v3 v4 hs hR H locs ls hW hl
  rw [P_X9_beat_b51n_e] at hR
  rw [S_X9_beat_b51n_e] at hs
  obtain ⟨hx, hb, hr, hml, hts, hown, hlocks, hK, hA⟩ := id C0
  have hf10 := hts (.fieldLink RX9 10 "BeatFollower" "scene" "LBeatFollower$Scene;") (by decide +kernel)
  have hf22 := hts (.fieldLink RX9 22 "BeatFollower" "history" "LBeatFollower$History;") (by decide +kernel)
  have hf87 := hts (.fieldLink RX9 87 "BeatFollower$Scene" "plan" "LBeatFollower$Plan;") (by decide +kernel)
  have hf103 := hts (.fieldLink RX9 103 "BeatFollower$Scene" "time" "I") (by decide +kernel)
  have hinX7 : ∀ w ∈ u_ws RX7 TX7 7, w ∈ wsX9_beat := hin_X9_beat_X7
  have hinX9 : ∀ w ∈ u_ws RX9 TX9 7, w ∈ wsX9_beat := hin_X9_beat_X9
  refine lv_aload_n hx hb dX9_beat_51 rfl (lv_at hl 0 rfl) ?_
  refine va_get (v := .ref (a 1)) (C := RX9) (T := TX9) (N := 7) hx hb hts hinX9 hown hK hW.1 0 (q_w_get 0 (Nat.le_of_ble_eq_true rfl)) rfl 0 (by decide) hf10 (fun _ h9 => h9) rfl dX9_beat_52 ?_
  refine va_get (v := .ref (a 3)) (C := RX7) (T := TX7) (N := 7) hx hb hts hinX7 hown hK hW.1 1 (q_w_get 1 (Nat.le_of_ble_eq_true rfl)) rfl 1 (by decide) hf87 (fun _ h9 => h9) rfl dX9_beat_55 ?_
  refine lv_iload_n hx hb dX9_beat_58 rfl (lv_at hl 1 rfl) ?_
  refine lv_iload hx hb dX9_beat_59 (lv_at hl 2 rfl) ?_
  have hs7 := hs.1
  have hs := hs.2
  refine q_Vi (As := [.int v3, .int v4]) (rest := []) (R := P_X5_canHold (fun j => σ (3 + j)) v3 v4) (wX9_X5_3_is) [0, 1, 2, 3] 3 5 C0 hW (m_X5_canHold l D k (fun j => a (3 + j)) _ (fun j => σ (3 + j)) v3 v4 hs7) (cwV 2 hts gX9_beat_X5_canHold rfl rfl rfl hd_X5_canHold ⟨Nat.le_of_ble_eq_true rfl, Nat.le_of_ble_eq_true rfl⟩) (wX9_X5_3_nd) (wX9_X5_3_pl k a _) rfl (q_w_get 3 (Nat.le_of_ble_eq_true rfl)) rfl hl rfl rfl (Nat.le_of_ble_eq_true rfl) dX9_beat_61 ⟨Nat.le_refl 0, Nat.le_refl 0⟩ ?_
  refine lv_if_ne (tgt := 70) hx hb dX9_beat_64 (by decide) (fun c_8 => ?_) (fun c_8 => ?_)
  · have hs := hs.2 c_8
    rw [if_neg c_8] at hR
    refine lv_iload_n hx hb dX9_beat_70 rfl (lv_at hl 1 rfl) ?_
    refine lv_aload_n hx hb dX9_beat_71 rfl (lv_at hl 0 rfl) ?_
    refine va_get (v := .ref (a 1)) (C := RX9) (T := TX9) (N := 7) hx hb hts hinX9 hown hK hW.1 0 (q_w_get 0 (Nat.le_of_ble_eq_true rfl)) rfl 0 (by decide) hf10 (fun _ h9 => h9) rfl dX9_beat_72 ?_
    refine va_get (v := .int (σ 1 6)) (C := RX7) (T := TX7) (N := 7) hx hb hts hinX7 hown hK hW.1 1 (q_w_get 1 (Nat.le_of_ble_eq_true rfl)) rfl 6 (by decide) hf103 (fun _ h9 => h9) rfl dX9_beat_75 ?_
    refine lv_icmp_gt (tgt := 84) hx hb dX9_beat_78 (by decide) (fun c_9 => ?_) (fun c_9 => ?_)
    · have hs := hs.1 c_9
      rw [if_pos c_9] at hR
      refine lv_aload_n hx hb dX9_beat_84 rfl (lv_at hl 0 rfl) ?_
      refine va_get (v := .ref (a 35)) (C := RX9) (T := TX9) (N := 7) hx hb hts hinX9 hown hK hW.1 0 (q_w_get 0 (Nat.le_of_ble_eq_true rfl)) rfl 2 (by decide) hf22 (fun _ h9 => h9) rfl dX9_beat_85 ?_
      refine lv_aload_n hx hb dX9_beat_88 rfl (lv_at hl 0 rfl) ?_
      refine va_get (v := .ref (a 1)) (C := RX9) (T := TX9) (N := 7) hx hb hts hinX9 hown hK hW.1 0 (q_w_get 0 (Nat.le_of_ble_eq_true rfl)) rfl 0 (by decide) hf10 (fun _ h9 => h9) rfl dX9_beat_89 ?_
      have hs10 := hs.1
      have hs := hs.2
      refine q_Vv (As := [.ref (a 1)]) (rest := []) (wf := wX3_X7 k (sel a 35 104 1)) (R := P_X3_record (sel σ 35 104 1)) (wd' := wX9 k a (sb2 σ 35 104 1 17 (P_X3_record (sel σ 35 104 1)))) (wX9_X3_X7_35_1_is) [0, 1, 2, 3] 35 3 C0 hW (m_X3_record l D k (sel a 35 104 1) H.size (sel σ 35 104 1)  hs10) (cwV 1 hts gX9_beat_X3_record rfl rfl rfl hd_X3_record ⟨Nat.le_of_ble_eq_true rfl, Nat.le_of_ble_eq_true rfl⟩) (wX9_X3_X7_35_1_nd) (wX9_X3_X7_35_1_pl k a _) rfl (q_w_get 35 (Nat.le_of_ble_eq_true rfl)) rfl (wX3_X7_fst k _ _ _) (wX9_X3_X7_35_1_pt k a _ _) hl rfl rfl (Nat.le_of_ble_eq_true rfl) dX9_beat_92 ⟨Nat.le_refl 0, Nat.le_refl 0⟩ (fun H locs hW => ?_)
      exact b_X9_beat_b95c l D k a A C0 R (sb2 σ 35 104 1 17 (P_X3_record (sel σ 35 104 1))) v3 v4 hs hR H locs ls hW (lv_sub hl [0, 1, 2] rfl)
    · have hs := hs.2 c_9
      rw [if_neg c_9] at hR
      refine lv_bipush (v := (-5 : Int32)) hx hb dX9_beat_81 (by decide) ?_
      exact q_iret C0 hW hR dX9_beat_83
  · have hs := hs.1 c_8
    rw [if_pos c_8] at hR
    refine lv_bipush (v := (-4 : Int32)) hx hb dX9_beat_67 (by decide) ?_
    exact q_iret C0 hW hR dX9_beat_69
set_option maxHeartbeats 400000 in
set_option maxRecDepth 100000 in
theorem b_X9_beat_b37n {p : Program} {e : Env} {s : State} {m : MethodId} {args : Array Value} {below : List Frame} {meth : Method} {c : Code} (l : Launch) (D : va_G) (k : Nat → ClassId) (a : Nat → Nat) (A : Nat → Prop) (C0 : q_C p s m meth c args RX9 cX9_beat 5 (some .int) wsX9_beat D (tyL k) A) (R : Int32 × T2) : ∀ (σ : T2) (v2 : Int32) (v3 : Int32), S_X9_beat_b37n σ v2 v3 → P_X9_beat_b37n σ v2 v3 = R → ∀ (H : Heap) (locs : List Loc) (ls : Array Slot), q_W D A s.heap (wX9 k a σ) H locs → lv_has ls 5 [(0, .ref (a 0)), (2, .int v2), (3, .int v3)] → W p l e { frames := 4, cells := 0, slots := 0, locals := 103 } s m args below meth c H locs 0 0 (MQ below (va_Qi (fun r u => (r, u) = R) (fun u => q_E D (tyL k) A (wX9 k a u)) A) args s 0 0 A) (F0 m 37 ls []) := by
  intro σ v2 v3 hs hR H locs ls hW hl
  rw [P_X9_beat_b37n_e] at hR
  rw [S_X9_beat_b37n_e] at hs
  obtain ⟨hx, hb, hr, hml, hts, hown, hlocks, hK, hA⟩ := id C0
  have hf10 := hts (.fieldLink RX9 10 "BeatFollower" "scene" "LBeatFollower$Scene;") (by decide +kernel)
  have hf87 := hts (.fieldLink RX9 87 "BeatFollower$Scene" "plan" "LBeatFollower$Plan;") (by decide +kernel)
  have hinX7 : ∀ w ∈ u_ws RX7 TX7 7, w ∈ wsX9_beat := hin_X9_beat_X7
  have hinX9 : ∀ w ∈ u_ws RX9 TX9 7, w ∈ wsX9_beat := hin_X9_beat_X9
  refine lv_aload_n hx hb dX9_beat_37 rfl (lv_at hl 0 rfl) ?_
  refine va_get (v := .ref (a 1)) (C := RX9) (T := TX9) (N := 7) hx hb hts hinX9 hown hK hW.1 0 (q_w_get 0 (Nat.le_of_ble_eq_true rfl)) rfl 0 (by decide) hf10 (fun _ h9 => h9) rfl dX9_beat_38 ?_
  refine va_get (v := .ref (a 3)) (C := RX7) (T := TX7) (N := 7) hx hb hts hinX7 hown hK hW.1 1 (q_w_get 1 (Nat.le_of_ble_eq_true rfl)) rfl 1 (by decide) hf87 (fun _ h9 => h9) rfl dX9_beat_41 ?_
  have hs6 := hs.1
  have hs := hs.2
  refine q_Vi (As := []) (rest := []) (R := P_X5_nextNumber (fun j => σ (3 + j))) (wX9_X5_3_is) [0, 1, 2, 3] 3 5 C0 hW (m_X5_nextNumber l D k (fun j => a (3 + j)) _ (fun j => σ (3 + j))  hs6) (cwV 0 hts gX9_beat_X5_nextNumber rfl rfl rfl hd_X5_nextNumber ⟨Nat.le_of_ble_eq_true rfl, Nat.le_of_ble_eq_true rfl⟩) (wX9_X5_3_nd) (wX9_X5_3_pl k a _) rfl (q_w_get 3 (Nat.le_of_ble_eq_true rfl)) rfl hl rfl rfl (Nat.le_of_ble_eq_true rfl) dX9_beat_44 ⟨Nat.le_refl 0, Nat.le_refl 0⟩ ?_
  refine lv_iload_n hx hb dX9_beat_47 rfl (lv_at hl 1 rfl) ?_
  refine lv_iadd hx hb dX9_beat_48 ?_
  refine lv_istore (lv' := [(4, .int ((P_X5_nextNumber (fun j => σ (3 + j))) + v2)), (0, .ref (a 0)), (2, .int v2), (3, .int v3)]) hx hb dX9_beat_49 hl (by decide) rfl (fun ls hl => ?_)
  exact b_X9_beat_b51n l D k a A C0 R σ v3 ((P_X5_nextNumber (fun j => σ (3 + j))) + v2) hs hR H locs ls hW (lv_sub hl [1, 3, 0] rfl)
set_option maxHeartbeats 400000 in
set_option maxRecDepth 100000 in
theorem b_X9_beat_b0 {p : Program} {e : Env} {s : State} {m : MethodId} {args : Array Value} {below : List Frame} {meth : Method} {c : Code} (l : Launch) (D : va_G) (k : Nat → ClassId) (a : Nat → Nat) (A : Nat → Prop) (C0 : q_C p s m meth c args RX9 cX9_beat 5 (some .int) wsX9_beat D (tyL k) A) (R : Int32 × T2) : ∀ (σ : T2) (v1 : Int32) (v2 : Int32), S_X9_beat_b0 σ v1 v2 → P_X9_beat_b0 σ v1 v2 = R → ∀ (H : Heap) (locs : List Loc) (ls : Array Slot), q_W D A s.heap (wX9 k a σ) H locs → lv_has ls 5 [(0, .ref (a 0)), (1, .int v1), (2, .int v2)] → W p l e { frames := 4, cells := 0, slots := 0, locals := 103 } s m args below meth c H locs 0 0 (MQ below (va_Qi (fun r u => (r, u) = R) (fun u => q_E D (tyL k) A (wX9 k a u)) A) args s 0 0 A) (F0 m 0 ls []) := by
  intro σ v1 v2 hs hR H locs ls hW hl
  rw [P_X9_beat_b0_e] at hR
  rw [S_X9_beat_b0_e] at hs
  obtain ⟨hx, hb, hr, hml, hts, hown, hlocks, hK, hA⟩ := id C0
  have hf10 := hts (.fieldLink RX9 10 "BeatFollower" "scene" "LBeatFollower$Scene;") (by decide +kernel)
  have hf87 := hts (.fieldLink RX9 87 "BeatFollower$Scene" "plan" "LBeatFollower$Plan;") (by decide +kernel)
  have hinX7 : ∀ w ∈ u_ws RX7 TX7 7, w ∈ wsX9_beat := hin_X9_beat_X7
  have hinX9 : ∀ w ∈ u_ws RX9 TX9 7, w ∈ wsX9_beat := hin_X9_beat_X9
  refine lv_iload_n hx hb dX9_beat_0 rfl (lv_at hl 1 rfl) ?_
  refine lv_iconst (v := (1 : Int32)) hx hb dX9_beat_1 (by decide) ?_
  refine lv_sipush (v := (9999 : Int32)) hx hb dX9_beat_2 (by decide) ?_
  have hs1 := hs.1
  have hs := hs.2
  refine q_Si (As := [.int v1, .int (1 : Int32), .int (9999 : Int32)]) (rest := []) (R := P_X9_isIn v1 (1 : Int32) (9999 : Int32)) ⟨hx, hb, hml, hown, hts⟩ (m_X9_isIn l v1 (1 : Int32) (9999 : Int32) hs1) (va_cwS 3 hts gX9_beat_X9_isIn rfl rfl rfl hd_X9_isIn ⟨Nat.le_of_ble_eq_true rfl, Nat.le_of_ble_eq_true rfl⟩) hl rfl rfl (Nat.le_of_ble_eq_true rfl) dX9_beat_5 ⟨Nat.le_refl 0, Nat.le_refl 0⟩ ?_
  refine lv_if_eq (tgt := 21) hx hb dX9_beat_8 (by decide) (fun c_2 => ?_) (fun c_2 => ?_)
  · have hs := hs.1 c_2
    rw [if_pos c_2] at hR
    refine lv_bipush (v := (-2 : Int32)) hx hb dX9_beat_21 (by decide) ?_
    exact q_iret C0 hW hR dX9_beat_23
  · have hs := hs.2 c_2
    rw [if_neg c_2] at hR
    refine lv_iload_n hx hb dX9_beat_11 rfl (lv_at hl 2 rfl) ?_
    refine lv_iconst (v := (0 : Int32)) hx hb dX9_beat_12 (by decide) ?_
    refine lv_bipush (v := (99 : Int32)) hx hb dX9_beat_13 (by decide) ?_
    have hs3 := hs.1
    have hs := hs.2
    refine q_Si (As := [.int v2, .int (0 : Int32), .int (99 : Int32)]) (rest := []) (R := P_X9_isIn v2 (0 : Int32) (99 : Int32)) ⟨hx, hb, hml, hown, hts⟩ (m_X9_isIn l v2 (0 : Int32) (99 : Int32) hs3) (va_cwS 3 hts gX9_beat_X9_isIn rfl rfl rfl hd_X9_isIn ⟨Nat.le_of_ble_eq_true rfl, Nat.le_of_ble_eq_true rfl⟩) hl rfl rfl (Nat.le_of_ble_eq_true rfl) dX9_beat_15 ⟨Nat.le_refl 0, Nat.le_refl 0⟩ ?_
    refine lv_if_ne (tgt := 24) hx hb dX9_beat_18 (by decide) (fun c_4 => ?_) (fun c_4 => ?_)
    · have hs := hs.2 c_4
      rw [if_neg c_4] at hR
      refine lv_aload_n hx hb dX9_beat_24 rfl (lv_at hl 0 rfl) ?_
      refine va_get (v := .ref (a 1)) (C := RX9) (T := TX9) (N := 7) hx hb hts hinX9 hown hK hW.1 0 (q_w_get 0 (Nat.le_of_ble_eq_true rfl)) rfl 0 (by decide) hf10 (fun _ h9 => h9) rfl dX9_beat_25 ?_
      refine va_get (v := .ref (a 3)) (C := RX7) (T := TX7) (N := 7) hx hb hts hinX7 hown hK hW.1 1 (q_w_get 1 (Nat.le_of_ble_eq_true rfl)) rfl 1 (by decide) hf87 (fun _ h9 => h9) rfl dX9_beat_28 ?_
      have hs5 := hs.1
      have hs := hs.2
      refine q_Vi (As := []) (rest := []) (R := P_X5_lastTime (fun j => σ (3 + j))) (wX9_X5_3_is) [0, 1, 2, 3] 3 5 C0 hW (m_X5_lastTime l D k (fun j => a (3 + j)) _ (fun j => σ (3 + j))  hs5) (cwV 0 hts gX9_beat_X5_lastTime rfl rfl rfl hd_X5_lastTime ⟨Nat.le_of_ble_eq_true rfl, Nat.le_of_ble_eq_true rfl⟩) (wX9_X5_3_nd) (wX9_X5_3_pl k a _) rfl (q_w_get 3 (Nat.le_of_ble_eq_true rfl)) rfl hl rfl rfl (Nat.le_of_ble_eq_true rfl) dX9_beat_31 ⟨Nat.le_refl 0, Nat.le_refl 0⟩ ?_
      refine lv_iload_n hx hb dX9_beat_34 rfl (lv_at hl 1 rfl) ?_
      refine lv_iadd hx hb dX9_beat_35 ?_
      refine lv_istore_n (lv' := [(3, .int ((P_X5_lastTime (fun j => σ (3 + j))) + v1)), (0, .ref (a 0)), (1, .int v1), (2, .int v2)]) hx hb dX9_beat_36 rfl hl (by decide) rfl (fun ls hl => ?_)
      exact b_X9_beat_b37n l D k a A C0 R σ v2 ((P_X5_lastTime (fun j => σ (3 + j))) + v1) hs hR H locs ls hW (lv_sub hl [1, 3, 0] rfl)
    · have hs := hs.1 c_4
      rw [if_pos c_4] at hR
      refine lv_bipush (v := (-2 : Int32)) hx hb dX9_beat_21 (by decide) ?_
      exact q_iret C0 hW hR dX9_beat_23
set_option maxHeartbeats 400000 in
set_option maxRecDepth 100000 in
theorem m_X9_beat (l : Launch) (D : va_G) (k : Nat → ClassId) (a : Nat → Nat) (sz : Nat) (σ : T2) (p0 : Int32) (p1 : Int32) (hs : S_X9_beat σ p0 p1) : Met l yX9_beat wsX9_beat { frames := 4, cells := 0, slots := 0, locals := 103 } (va_Pc [.ref (a 0), .int p0, .int p1] (q_B D (tyL k) (wX9 k a σ) sz)) (va_Qi (fun r u => (r, u) = P_X9_beat σ p0 p1) (fun u => q_E D (tyL k) (va_A (wX9 k a σ) sz) (wX9 k a u)) (va_A (wX9 k a σ) sz)) 0 0 (va_A (wX9 k a σ) sz) := by
  refine q_met [.ref (a 0), .int p0, .int p1] (wX9 k a σ) sz (cc := cX9_beat) (maxL := 5) (ret := (some .int)) (by decide) rfl (Nat.le_of_ble_eq_true rfl) ?_
  intro p e s m args below meth c ls hsz C0 hW hl hin
  subst hsz
  exact b_X9_beat_b0 l D k a _ C0 _ σ p0 p1 hs rfl s.heap [] ls hW (lv_sub hl [0, 1, 2] rfl)
theorem hin_X9_cut_X5 : ∀ w ∈ u_ws RX5 TX5 3, w ∈ wsX9_cut := by decide +kernel
theorem hin_X9_cut_X7 : ∀ w ∈ u_ws RX7 TX7 7, w ∈ wsX9_cut := by decide +kernel
theorem hin_X9_cut_X8 : ∀ w ∈ u_ws RX8 TX8 10, w ∈ wsX9_cut := by decide +kernel
theorem hin_X9_cut_X9 : ∀ w ∈ u_ws RX9 TX9 7, w ∈ wsX9_cut := by decide +kernel
theorem hd_X9_cut : yX9_cut.cls = RX9 ∧ yX9_cut.cls ≠ "java/lang/invoke/MethodHandle" ∧ yX9_cut.cls ≠ "java/lang/invoke/VarHandle" ∧ (parseMethodDescriptor yX9_cut.desc).map (fun d => d.parameters.length) = some 1 := by decide +kernel
noncomputable def P_X9_cut_b52c (σ : T2) (v1 : Int32) : Int32 × T2 := ((σ 3 2) - v1, u2 σ 3 (upd (σ 3) 2 ((σ 3 2) - v1)))
def S_X9_cut_b52c (σ : T2) (v1 : Int32) : Prop := True
theorem P_X9_cut_b52c_e (σ : T2) (v1 : Int32) : P_X9_cut_b52c σ v1 = ((σ 3 2) - v1, u2 σ 3 (upd (σ 3) 2 ((σ 3 2) - v1))) := rfl
theorem S_X9_cut_b52c_e (σ : T2) (v1 : Int32) : S_X9_cut_b52c σ v1 = (True) := rfl
noncomputable def P_X9_cut_b0 (σ : T2) (v1 : Int32) : Int32 × T2 := if (P_X9_isIn v1 (1 : Int32) (64 : Int32)) = 0 then (((-2 : Int32), σ)) else (if v1 ≤ ((σ 3 2) - (σ 17 0)) then (P_X9_cut_b52c (sb2 σ 35 104 1 17 (P_X3_record (sel σ 35 104 1))) v1) else (((-5 : Int32), σ)))
def S_X9_cut_b0 (σ : T2) (v1 : Int32) : Prop := (S_X9_isIn v1 (1 : Int32) (64 : Int32)) ∧ (((P_X9_isIn v1 (1 : Int32) (64 : Int32)) = 0 → (True)) ∧ (¬ ((P_X9_isIn v1 (1 : Int32) (64 : Int32)) = 0) → ((v1 ≤ ((σ 3 2) - (σ 17 0)) → ((S_X3_record (sel σ 35 104 1) ) ∧ (S_X9_cut_b52c (sb2 σ 35 104 1 17 (P_X3_record (sel σ 35 104 1))) v1))) ∧ (¬ (v1 ≤ ((σ 3 2) - (σ 17 0))) → (True)))))
theorem P_X9_cut_b0_e (σ : T2) (v1 : Int32) : P_X9_cut_b0 σ v1 = if (P_X9_isIn v1 (1 : Int32) (64 : Int32)) = 0 then (((-2 : Int32), σ)) else (if v1 ≤ ((σ 3 2) - (σ 17 0)) then (P_X9_cut_b52c (sb2 σ 35 104 1 17 (P_X3_record (sel σ 35 104 1))) v1) else (((-5 : Int32), σ))) := rfl
theorem S_X9_cut_b0_e (σ : T2) (v1 : Int32) : S_X9_cut_b0 σ v1 = ((S_X9_isIn v1 (1 : Int32) (64 : Int32)) ∧ (((P_X9_isIn v1 (1 : Int32) (64 : Int32)) = 0 → (True)) ∧ (¬ ((P_X9_isIn v1 (1 : Int32) (64 : Int32)) = 0) → ((v1 ≤ ((σ 3 2) - (σ 17 0)) → ((S_X3_record (sel σ 35 104 1) ) ∧ (S_X9_cut_b52c (sb2 σ 35 104 1 17 (P_X3_record (sel σ 35 104 1))) v1))) ∧ (¬ (v1 ≤ ((σ 3 2) - (σ 17 0))) → (True)))))) := rfl
noncomputable def P_X9_cut (σ : T2) (p0 : Int32) : Int32 × T2 := P_X9_cut_b0 σ p0
def S_X9_cut (σ : T2) (p0 : Int32) : Prop := S_X9_cut_b0 σ p0
set_option maxHeartbeats 400000 in
set_option maxRecDepth 100000 in
theorem b_X9_cut_b52c {p : Program} {e : Env} {s : State} {m : MethodId} {args : Array Value} {below : List Frame} {meth : Method} {c : Code} (l : Launch) (D : va_G) (k : Nat → ClassId) (a : Nat → Nat) (A : Nat → Prop) (C0 : q_C p s m meth c args RX9 cX9_cut 2 (some .int) wsX9_cut D (tyL k) A) (R : Int32 × T2) : ∀ (σ : T2) (v1 : Int32), S_X9_cut_b52c σ v1 → P_X9_cut_b52c σ v1 = R → ∀ (H : Heap) (locs : List Loc) (ls : Array Slot), q_W D A s.heap (wX9 k a σ) H locs → lv_has ls 2 [(0, .ref (a 0)), (1, .int v1)] → W p l e { frames := 4, cells := 0, slots := 0, locals := 103 } s m args below meth c H locs 0 0 (MQ below (va_Qi (fun r u => (r, u) = R) (fun u => q_E D (tyL k) A (wX9 k a u)) A) args s 0 0 A) (F0 m 52 ls []) := by
  intro σ v1 hs hR H locs ls hW hl
  rw [P_X9_cut_b52c_e] at hR
  rw [S_X9_cut_b52c_e] at hs
  obtain ⟨hx, hb, hr, hml, hts, hown, hlocks, hK, hA⟩ := id C0
  have hf10 := hts (.fieldLink RX9 10 "BeatFollower" "scene" "LBeatFollower$Scene;") (by decide +kernel)
  have hf87 := hts (.fieldLink RX9 87 "BeatFollower$Scene" "plan" "LBeatFollower$Plan;") (by decide +kernel)
  have hf110 := hts (.fieldLink RX9 110 "BeatFollower$Plan" "many" "I") (by decide +kernel)
  have hinX5 : ∀ w ∈ u_ws RX5 TX5 3, w ∈ wsX9_cut := hin_X9_cut_X5
  have hinX7 : ∀ w ∈ u_ws RX7 TX7 7, w ∈ wsX9_cut := hin_X9_cut_X7
  have hinX9 : ∀ w ∈ u_ws RX9 TX9 7, w ∈ wsX9_cut := hin_X9_cut_X9
  refine lv_aload_n hx hb dX9_cut_52 rfl (lv_at hl 0 rfl) ?_
  refine va_get (v := .ref (a 1)) (C := RX9) (T := TX9) (N := 7) hx hb hts hinX9 hown hK hW.1 0 (q_w_get 0 (Nat.le_of_ble_eq_true rfl)) rfl 0 (by decide) hf10 (fun _ h9 => h9) rfl dX9_cut_53 ?_
  refine va_get (v := .ref (a 3)) (C := RX7) (T := TX7) (N := 7) hx hb hts hinX7 hown hK hW.1 1 (q_w_get 1 (Nat.le_of_ble_eq_true rfl)) rfl 1 (by decide) hf87 (fun _ h9 => h9) rfl dX9_cut_56 ?_
  refine lv_dup hx hb dX9_cut_59 rfl ?_
  refine va_get (v := .int (σ 3 2)) (C := RX5) (T := TX5) (N := 3) hx hb hts hinX5 hown hK hW.1 3 (q_w_get 3 (Nat.le_of_ble_eq_true rfl)) rfl 2 (by decide) hf110 (fun _ h9 => h9) rfl dX9_cut_60 ?_
  refine lv_iload_n hx hb dX9_cut_63 rfl (lv_at hl 1 rfl) ?_
  refine lv_isub hx hb dX9_cut_64 ?_
  refine q_putf (ty := .int) (wd' := wX9 k a (u2 σ 3 (upd (σ 3) 2 ((σ 3 2) - v1)))) C0 hW hinX5 tyX5 tyX5_ok nmX5 3 (q_w_get 3 (Nat.le_of_ble_eq_true rfl)) rfl 2 (by decide) hf110 rfl (by decide +kernel) rfl rfl (Nat.le_of_ble_eq_true rfl) dX9_cut_65 (fX5_s2 _ _ _) (wX9_s3 k a _ _) (fun H locs hW => ?_)
  refine lv_aload_n hx hb dX9_cut_68 rfl (lv_at hl 0 rfl) ?_
  refine va_get (v := .ref (a 1)) (C := RX9) (T := TX9) (N := 7) hx hb hts hinX9 hown hK hW.1 0 (q_w_get 0 (Nat.le_of_ble_eq_true rfl)) rfl 0 (by decide) hf10 (fun _ h9 => h9) rfl dX9_cut_69 ?_
  refine va_get (v := .ref (a 3)) (C := RX7) (T := TX7) (N := 7) hx hb hts hinX7 hown hK hW.1 1 (q_w_get 1 (Nat.le_of_ble_eq_true rfl)) rfl 1 (by decide) hf87 (fun _ h9 => h9) rfl dX9_cut_72 ?_
  refine va_get (v := .int ((σ 3 2) - v1)) (C := RX5) (T := TX5) (N := 3) hx hb hts hinX5 hown hK hW.1 3 (q_w_get 3 (Nat.le_of_ble_eq_true rfl)) rfl 2 (by decide) hf110 (fun _ h9 => h9) rfl dX9_cut_75 ?_
  exact q_iret C0 hW hR dX9_cut_78
set_option maxHeartbeats 400000 in
set_option maxRecDepth 100000 in
theorem b_X9_cut_b0 {p : Program} {e : Env} {s : State} {m : MethodId} {args : Array Value} {below : List Frame} {meth : Method} {c : Code} (l : Launch) (D : va_G) (k : Nat → ClassId) (a : Nat → Nat) (A : Nat → Prop) (C0 : q_C p s m meth c args RX9 cX9_cut 2 (some .int) wsX9_cut D (tyL k) A) (R : Int32 × T2) : ∀ (σ : T2) (v1 : Int32), S_X9_cut_b0 σ v1 → P_X9_cut_b0 σ v1 = R → ∀ (H : Heap) (locs : List Loc) (ls : Array Slot), q_W D A s.heap (wX9 k a σ) H locs → lv_has ls 2 [(0, .ref (a 0)), (1, .int v1)] → W p l e { frames := 4, cells := 0, slots := 0, locals := 103 } s m args below meth c H locs 0 0 (MQ below (va_Qi (fun r u => (r, u) = R) (fun u => q_E D (tyL k) A (wX9 k a u)) A) args s 0 0 A) (F0 m 0 ls []) := by
  intro σ v1 hs hR H locs ls hW hl
  rw [P_X9_cut_b0_e] at hR
  rw [S_X9_cut_b0_e] at hs
  obtain ⟨hx, hb, hr, hml, hts, hown, hlocks, hK, hA⟩ := id C0
  have hf10 := hts (.fieldLink RX9 10 "BeatFollower" "scene" "LBeatFollower$Scene;") (by decide +kernel)
  have hf22 := hts (.fieldLink RX9 22 "BeatFollower" "history" "LBeatFollower$History;") (by decide +kernel)
  have hf87 := hts (.fieldLink RX9 87 "BeatFollower$Scene" "plan" "LBeatFollower$Plan;") (by decide +kernel)
  have hf110 := hts (.fieldLink RX9 110 "BeatFollower$Plan" "many" "I") (by decide +kernel)
  have hf113 := hts (.fieldLink RX9 113 "BeatFollower$Scene" "tally" "LBeatFollower$Tally;") (by decide +kernel)
  have hf117 := hts (.fieldLink RX9 117 "BeatFollower$Tally" "heard" "I") (by decide +kernel)
  have hinX5 : ∀ w ∈ u_ws RX5 TX5 3, w ∈ wsX9_cut := hin_X9_cut_X5
  have hinX7 : ∀ w ∈ u_ws RX7 TX7 7, w ∈ wsX9_cut := hin_X9_cut_X7
  have hinX8 : ∀ w ∈ u_ws RX8 TX8 10, w ∈ wsX9_cut := hin_X9_cut_X8
  have hinX9 : ∀ w ∈ u_ws RX9 TX9 7, w ∈ wsX9_cut := hin_X9_cut_X9
  refine lv_iload_n hx hb dX9_cut_0 rfl (lv_at hl 1 rfl) ?_
  refine lv_iconst (v := (1 : Int32)) hx hb dX9_cut_1 (by decide) ?_
  refine lv_bipush (v := (64 : Int32)) hx hb dX9_cut_2 (by decide) ?_
  have hs1 := hs.1
  have hs := hs.2
  refine q_Si (As := [.int v1, .int (1 : Int32), .int (64 : Int32)]) (rest := []) (R := P_X9_isIn v1 (1 : Int32) (64 : Int32)) ⟨hx, hb, hml, hown, hts⟩ (m_X9_isIn l v1 (1 : Int32) (64 : Int32) hs1) (va_cwS 3 hts gX9_cut_X9_isIn rfl rfl rfl hd_X9_isIn ⟨Nat.le_of_ble_eq_true rfl, Nat.le_of_ble_eq_true rfl⟩) hl rfl rfl (Nat.le_of_ble_eq_true rfl) dX9_cut_4 ⟨Nat.le_refl 0, Nat.le_refl 0⟩ ?_
  refine lv_if_ne (tgt := 13) hx hb dX9_cut_7 (by decide) (fun c_2 => ?_) (fun c_2 => ?_)
  · have hs := hs.2 c_2
    rw [if_neg c_2] at hR
    refine lv_iload_n hx hb dX9_cut_13 rfl (lv_at hl 1 rfl) ?_
    refine lv_aload_n hx hb dX9_cut_14 rfl (lv_at hl 0 rfl) ?_
    refine va_get (v := .ref (a 1)) (C := RX9) (T := TX9) (N := 7) hx hb hts hinX9 hown hK hW.1 0 (q_w_get 0 (Nat.le_of_ble_eq_true rfl)) rfl 0 (by decide) hf10 (fun _ h9 => h9) rfl dX9_cut_15 ?_
    refine va_get (v := .ref (a 3)) (C := RX7) (T := TX7) (N := 7) hx hb hts hinX7 hown hK hW.1 1 (q_w_get 1 (Nat.le_of_ble_eq_true rfl)) rfl 1 (by decide) hf87 (fun _ h9 => h9) rfl dX9_cut_18 ?_
    refine va_get (v := .int (σ 3 2)) (C := RX5) (T := TX5) (N := 3) hx hb hts hinX5 hown hK hW.1 3 (q_w_get 3 (Nat.le_of_ble_eq_true rfl)) rfl 2 (by decide) hf110 (fun _ h9 => h9) rfl dX9_cut_21 ?_
    refine lv_aload_n hx hb dX9_cut_24 rfl (lv_at hl 0 rfl) ?_
    refine va_get (v := .ref (a 1)) (C := RX9) (T := TX9) (N := 7) hx hb hts hinX9 hown hK hW.1 0 (q_w_get 0 (Nat.le_of_ble_eq_true rfl)) rfl 0 (by decide) hf10 (fun _ h9 => h9) rfl dX9_cut_25 ?_
    refine va_get (v := .ref (a 17)) (C := RX7) (T := TX7) (N := 7) hx hb hts hinX7 hown hK hW.1 1 (q_w_get 1 (Nat.le_of_ble_eq_true rfl)) rfl 5 (by decide) hf113 (fun _ h9 => h9) rfl dX9_cut_28 ?_
    refine va_get (v := .int (σ 17 0)) (C := RX8) (T := TX8) (N := 10) hx hb hts hinX8 hown hK hW.1 17 (q_w_get 17 (Nat.le_of_ble_eq_true rfl)) rfl 0 (by decide) hf117 (fun _ h9 => h9) rfl dX9_cut_31 ?_
    refine lv_isub hx hb dX9_cut_34 ?_
    refine lv_icmp_le (tgt := 41) hx hb dX9_cut_35 (by decide) (fun c_3 => ?_) (fun c_3 => ?_)
    · have hs := hs.1 c_3
      rw [if_pos c_3] at hR
      refine lv_aload_n hx hb dX9_cut_41 rfl (lv_at hl 0 rfl) ?_
      refine va_get (v := .ref (a 35)) (C := RX9) (T := TX9) (N := 7) hx hb hts hinX9 hown hK hW.1 0 (q_w_get 0 (Nat.le_of_ble_eq_true rfl)) rfl 2 (by decide) hf22 (fun _ h9 => h9) rfl dX9_cut_42 ?_
      refine lv_aload_n hx hb dX9_cut_45 rfl (lv_at hl 0 rfl) ?_
      refine va_get (v := .ref (a 1)) (C := RX9) (T := TX9) (N := 7) hx hb hts hinX9 hown hK hW.1 0 (q_w_get 0 (Nat.le_of_ble_eq_true rfl)) rfl 0 (by decide) hf10 (fun _ h9 => h9) rfl dX9_cut_46 ?_
      have hs4 := hs.1
      have hs := hs.2
      refine q_Vv (As := [.ref (a 1)]) (rest := []) (wf := wX3_X7 k (sel a 35 104 1)) (R := P_X3_record (sel σ 35 104 1)) (wd' := wX9 k a (sb2 σ 35 104 1 17 (P_X3_record (sel σ 35 104 1)))) (wX9_X3_X7_35_1_is) [0, 1, 2, 3] 35 3 C0 hW (m_X3_record l D k (sel a 35 104 1) H.size (sel σ 35 104 1)  hs4) (cwV 1 hts gX9_cut_X3_record rfl rfl rfl hd_X3_record ⟨Nat.le_of_ble_eq_true rfl, Nat.le_of_ble_eq_true rfl⟩) (wX9_X3_X7_35_1_nd) (wX9_X3_X7_35_1_pl k a _) rfl (q_w_get 35 (Nat.le_of_ble_eq_true rfl)) rfl (wX3_X7_fst k _ _ _) (wX9_X3_X7_35_1_pt k a _ _) hl rfl rfl (Nat.le_of_ble_eq_true rfl) dX9_cut_49 ⟨Nat.le_refl 0, Nat.le_refl 0⟩ (fun H locs hW => ?_)
      exact b_X9_cut_b52c l D k a A C0 R (sb2 σ 35 104 1 17 (P_X3_record (sel σ 35 104 1))) v1 hs hR H locs ls hW (lv_sub hl [0, 1] rfl)
    · have hs := hs.2 c_3
      rw [if_neg c_3] at hR
      refine lv_bipush (v := (-5 : Int32)) hx hb dX9_cut_38 (by decide) ?_
      exact q_iret C0 hW hR dX9_cut_40
  · have hs := hs.1 c_2
    rw [if_pos c_2] at hR
    refine lv_bipush (v := (-2 : Int32)) hx hb dX9_cut_10 (by decide) ?_
    exact q_iret C0 hW hR dX9_cut_12
set_option maxHeartbeats 400000 in
set_option maxRecDepth 100000 in
theorem m_X9_cut (l : Launch) (D : va_G) (k : Nat → ClassId) (a : Nat → Nat) (sz : Nat) (σ : T2) (p0 : Int32) (hs : S_X9_cut σ p0) : Met l yX9_cut wsX9_cut { frames := 4, cells := 0, slots := 0, locals := 103 } (va_Pc [.ref (a 0), .int p0] (q_B D (tyL k) (wX9 k a σ) sz)) (va_Qi (fun r u => (r, u) = P_X9_cut σ p0) (fun u => q_E D (tyL k) (va_A (wX9 k a σ) sz) (wX9 k a u)) (va_A (wX9 k a σ) sz)) 0 0 (va_A (wX9 k a σ) sz) := by
  refine q_met [.ref (a 0), .int p0] (wX9 k a σ) sz (cc := cX9_cut) (maxL := 2) (ret := (some .int)) (by decide) rfl (Nat.le_of_ble_eq_true rfl) ?_
  intro p e s m args below meth c ls hsz C0 hW hl hin
  subst hsz
  exact b_X9_cut_b0 l D k a _ C0 _ σ p0 hs rfl s.heap [] ls hW (lv_sub hl [0, 1] rfl)
theorem hin_X9_pass_X7 : ∀ w ∈ u_ws RX7 TX7 7, w ∈ wsX9_pass := by decide +kernel
theorem hin_X9_pass_X9 : ∀ w ∈ u_ws RX9 TX9 7, w ∈ wsX9_pass := by decide +kernel
theorem hd_X9_pass : yX9_pass.cls = RX9 ∧ yX9_pass.cls ≠ "java/lang/invoke/MethodHandle" ∧ yX9_pass.cls ≠ "java/lang/invoke/VarHandle" ∧ (parseMethodDescriptor yX9_pass.desc).map (fun d => d.parameters.length) = some 1 := by decide +kernel
noncomputable def P_X9_pass_b42c (σ : T2) (v1 : Int32) : Int32 × T2 := ((sb σ 1 17 (P_X7_runTo (fun j => σ (1 + j)) ((σ 1 6) + v1))) 1 6, sb σ 1 17 (P_X7_runTo (fun j => σ (1 + j)) ((σ 1 6) + v1)))
def S_X9_pass_b42c (σ : T2) (v1 : Int32) : Prop := (S_X7_runTo (fun j => σ (1 + j)) ((σ 1 6) + v1)) ∧ (True)
theorem P_X9_pass_b42c_e (σ : T2) (v1 : Int32) : P_X9_pass_b42c σ v1 = ((sb σ 1 17 (P_X7_runTo (fun j => σ (1 + j)) ((σ 1 6) + v1))) 1 6, sb σ 1 17 (P_X7_runTo (fun j => σ (1 + j)) ((σ 1 6) + v1))) := rfl
theorem S_X9_pass_b42c_e (σ : T2) (v1 : Int32) : S_X9_pass_b42c σ v1 = ((S_X7_runTo (fun j => σ (1 + j)) ((σ 1 6) + v1)) ∧ (True)) := rfl
noncomputable def P_X9_pass_b0 (σ : T2) (v1 : Int32) : Int32 × T2 := if (P_X9_isIn v1 (1 : Int32) (10000 : Int32)) = 0 then (((-2 : Int32), σ)) else (if ((σ 1 6) + v1) ≤ (120000 : Int32) then (P_X9_pass_b42c (sb2 σ 35 104 1 17 (P_X3_record (sel σ 35 104 1))) v1) else (((-4 : Int32), σ)))
def S_X9_pass_b0 (σ : T2) (v1 : Int32) : Prop := (S_X9_isIn v1 (1 : Int32) (10000 : Int32)) ∧ (((P_X9_isIn v1 (1 : Int32) (10000 : Int32)) = 0 → (True)) ∧ (¬ ((P_X9_isIn v1 (1 : Int32) (10000 : Int32)) = 0) → ((((σ 1 6) + v1) ≤ (120000 : Int32) → ((S_X3_record (sel σ 35 104 1) ) ∧ (S_X9_pass_b42c (sb2 σ 35 104 1 17 (P_X3_record (sel σ 35 104 1))) v1))) ∧ (¬ (((σ 1 6) + v1) ≤ (120000 : Int32)) → (True)))))
theorem P_X9_pass_b0_e (σ : T2) (v1 : Int32) : P_X9_pass_b0 σ v1 = if (P_X9_isIn v1 (1 : Int32) (10000 : Int32)) = 0 then (((-2 : Int32), σ)) else (if ((σ 1 6) + v1) ≤ (120000 : Int32) then (P_X9_pass_b42c (sb2 σ 35 104 1 17 (P_X3_record (sel σ 35 104 1))) v1) else (((-4 : Int32), σ))) := rfl
theorem S_X9_pass_b0_e (σ : T2) (v1 : Int32) : S_X9_pass_b0 σ v1 = ((S_X9_isIn v1 (1 : Int32) (10000 : Int32)) ∧ (((P_X9_isIn v1 (1 : Int32) (10000 : Int32)) = 0 → (True)) ∧ (¬ ((P_X9_isIn v1 (1 : Int32) (10000 : Int32)) = 0) → ((((σ 1 6) + v1) ≤ (120000 : Int32) → ((S_X3_record (sel σ 35 104 1) ) ∧ (S_X9_pass_b42c (sb2 σ 35 104 1 17 (P_X3_record (sel σ 35 104 1))) v1))) ∧ (¬ (((σ 1 6) + v1) ≤ (120000 : Int32)) → (True)))))) := rfl
noncomputable def P_X9_pass (σ : T2) (p0 : Int32) : Int32 × T2 := P_X9_pass_b0 σ p0
def S_X9_pass (σ : T2) (p0 : Int32) : Prop := S_X9_pass_b0 σ p0
set_option maxHeartbeats 400000 in
set_option maxRecDepth 100000 in
theorem b_X9_pass_b42c {p : Program} {e : Env} {s : State} {m : MethodId} {args : Array Value} {below : List Frame} {meth : Method} {c : Code} (l : Launch) (D : va_G) (k : Nat → ClassId) (a : Nat → Nat) (A : Nat → Prop) (C0 : q_C p s m meth c args RX9 cX9_pass 2 (some .int) wsX9_pass D (tyL k) A) (R : Int32 × T2) : ∀ (σ : T2) (v1 : Int32), S_X9_pass_b42c σ v1 → P_X9_pass_b42c σ v1 = R → ∀ (H : Heap) (locs : List Loc) (ls : Array Slot), q_W D A s.heap (wX9 k a σ) H locs → lv_has ls 2 [(0, .ref (a 0)), (1, .int v1)] → W p l e { frames := 5, cells := 0, slots := 0, locals := 133 } s m args below meth c H locs 0 0 (MQ below (va_Qi (fun r u => (r, u) = R) (fun u => q_E D (tyL k) A (wX9 k a u)) A) args s 0 0 A) (F0 m 42 ls []) := by
  intro σ v1 hs hR H locs ls hW hl
  rw [P_X9_pass_b42c_e] at hR
  rw [S_X9_pass_b42c_e] at hs
  obtain ⟨hx, hb, hr, hml, hts, hown, hlocks, hK, hA⟩ := id C0
  have hf10 := hts (.fieldLink RX9 10 "BeatFollower" "scene" "LBeatFollower$Scene;") (by decide +kernel)
  have hf103 := hts (.fieldLink RX9 103 "BeatFollower$Scene" "time" "I") (by decide +kernel)
  have hinX7 : ∀ w ∈ u_ws RX7 TX7 7, w ∈ wsX9_pass := hin_X9_pass_X7
  have hinX9 : ∀ w ∈ u_ws RX9 TX9 7, w ∈ wsX9_pass := hin_X9_pass_X9
  refine lv_aload_n hx hb dX9_pass_42 rfl (lv_at hl 0 rfl) ?_
  refine va_get (v := .ref (a 1)) (C := RX9) (T := TX9) (N := 7) hx hb hts hinX9 hown hK hW.1 0 (q_w_get 0 (Nat.le_of_ble_eq_true rfl)) rfl 0 (by decide) hf10 (fun _ h9 => h9) rfl dX9_pass_43 ?_
  refine lv_aload_n hx hb dX9_pass_46 rfl (lv_at hl 0 rfl) ?_
  refine va_get (v := .ref (a 1)) (C := RX9) (T := TX9) (N := 7) hx hb hts hinX9 hown hK hW.1 0 (q_w_get 0 (Nat.le_of_ble_eq_true rfl)) rfl 0 (by decide) hf10 (fun _ h9 => h9) rfl dX9_pass_47 ?_
  refine va_get (v := .int (σ 1 6)) (C := RX7) (T := TX7) (N := 7) hx hb hts hinX7 hown hK hW.1 1 (q_w_get 1 (Nat.le_of_ble_eq_true rfl)) rfl 6 (by decide) hf103 (fun _ h9 => h9) rfl dX9_pass_50 ?_
  refine lv_iload_n hx hb dX9_pass_53 rfl (lv_at hl 1 rfl) ?_
  refine lv_iadd hx hb dX9_pass_54 ?_
  have hs5 := hs.1
  have hs := hs.2
  refine q_Vv (As := [.int ((σ 1 6) + v1)]) (rest := []) (wf := wX7 k (fun j => a (1 + j))) (R := P_X7_runTo (fun j => σ (1 + j)) ((σ 1 6) + v1)) (wd' := wX9 k a (sb σ 1 17 (P_X7_runTo (fun j => σ (1 + j)) ((σ 1 6) + v1)))) (wX9_X7_1_is) [0, 1, 2, 3] 1 7 C0 hW (m_X7_runTo l D k (fun j => a (1 + j)) H.size (fun j => σ (1 + j)) ((σ 1 6) + v1) hs5) (cwV 1 hts gX9_pass_X7_runTo rfl rfl rfl hd_X7_runTo ⟨Nat.le_of_ble_eq_true rfl, Nat.le_of_ble_eq_true rfl⟩) (wX9_X7_1_nd) (wX9_X7_1_pl k a _) rfl (q_w_get 1 (Nat.le_of_ble_eq_true rfl)) rfl (wX7_fst k _ _ _) (wX9_X7_1_pt k a _ _) hl rfl rfl (Nat.le_of_ble_eq_true rfl) dX9_pass_55 ⟨Nat.le_refl 0, Nat.le_refl 0⟩ (fun H locs hW => ?_)
  refine lv_aload_n hx hb dX9_pass_58 rfl (lv_at hl 0 rfl) ?_
  refine va_get (v := .ref (a 1)) (C := RX9) (T := TX9) (N := 7) hx hb hts hinX9 hown hK hW.1 0 (q_w_get 0 (Nat.le_of_ble_eq_true rfl)) rfl 0 (by decide) hf10 (fun _ h9 => h9) rfl dX9_pass_59 ?_
  refine va_get (v := .int ((sb σ 1 17 (P_X7_runTo (fun j => σ (1 + j)) ((σ 1 6) + v1))) 1 6)) (C := RX7) (T := TX7) (N := 7) hx hb hts hinX7 hown hK hW.1 1 (q_w_get 1 (Nat.le_of_ble_eq_true rfl)) rfl 6 (by decide) hf103 (fun _ h9 => h9) rfl dX9_pass_62 ?_
  exact q_iret C0 hW hR dX9_pass_65
set_option maxHeartbeats 400000 in
set_option maxRecDepth 100000 in
theorem b_X9_pass_b0 {p : Program} {e : Env} {s : State} {m : MethodId} {args : Array Value} {below : List Frame} {meth : Method} {c : Code} (l : Launch) (D : va_G) (k : Nat → ClassId) (a : Nat → Nat) (A : Nat → Prop) (C0 : q_C p s m meth c args RX9 cX9_pass 2 (some .int) wsX9_pass D (tyL k) A) (R : Int32 × T2) : ∀ (σ : T2) (v1 : Int32), S_X9_pass_b0 σ v1 → P_X9_pass_b0 σ v1 = R → ∀ (H : Heap) (locs : List Loc) (ls : Array Slot), q_W D A s.heap (wX9 k a σ) H locs → lv_has ls 2 [(0, .ref (a 0)), (1, .int v1)] → W p l e { frames := 5, cells := 0, slots := 0, locals := 133 } s m args below meth c H locs 0 0 (MQ below (va_Qi (fun r u => (r, u) = R) (fun u => q_E D (tyL k) A (wX9 k a u)) A) args s 0 0 A) (F0 m 0 ls []) := by
  intro σ v1 hs hR H locs ls hW hl
  rw [P_X9_pass_b0_e] at hR
  rw [S_X9_pass_b0_e] at hs
  obtain ⟨hx, hb, hr, hml, hts, hown, hlocks, hK, hA⟩ := id C0
  have hf10 := hts (.fieldLink RX9 10 "BeatFollower" "scene" "LBeatFollower$Scene;") (by decide +kernel)
  have hf22 := hts (.fieldLink RX9 22 "BeatFollower" "history" "LBeatFollower$History;") (by decide +kernel)
  have hf103 := hts (.fieldLink RX9 103 "BeatFollower$Scene" "time" "I") (by decide +kernel)
  have hinX7 : ∀ w ∈ u_ws RX7 TX7 7, w ∈ wsX9_pass := hin_X9_pass_X7
  have hinX9 : ∀ w ∈ u_ws RX9 TX9 7, w ∈ wsX9_pass := hin_X9_pass_X9
  refine lv_iload_n hx hb dX9_pass_0 rfl (lv_at hl 1 rfl) ?_
  refine lv_iconst (v := (1 : Int32)) hx hb dX9_pass_1 (by decide) ?_
  refine lv_sipush (v := (10000 : Int32)) hx hb dX9_pass_2 (by decide) ?_
  have hs1 := hs.1
  have hs := hs.2
  refine q_Si (As := [.int v1, .int (1 : Int32), .int (10000 : Int32)]) (rest := []) (R := P_X9_isIn v1 (1 : Int32) (10000 : Int32)) ⟨hx, hb, hml, hown, hts⟩ (m_X9_isIn l v1 (1 : Int32) (10000 : Int32) hs1) (va_cwS 3 hts gX9_pass_X9_isIn rfl rfl rfl hd_X9_isIn ⟨Nat.le_of_ble_eq_true rfl, Nat.le_of_ble_eq_true rfl⟩) hl rfl rfl (Nat.le_of_ble_eq_true rfl) dX9_pass_5 ⟨Nat.le_refl 0, Nat.le_refl 0⟩ ?_
  refine lv_if_ne (tgt := 14) hx hb dX9_pass_8 (by decide) (fun c_2 => ?_) (fun c_2 => ?_)
  · have hs := hs.2 c_2
    rw [if_neg c_2] at hR
    refine lv_aload_n hx hb dX9_pass_14 rfl (lv_at hl 0 rfl) ?_
    refine va_get (v := .ref (a 1)) (C := RX9) (T := TX9) (N := 7) hx hb hts hinX9 hown hK hW.1 0 (q_w_get 0 (Nat.le_of_ble_eq_true rfl)) rfl 0 (by decide) hf10 (fun _ h9 => h9) rfl dX9_pass_15 ?_
    refine va_get (v := .int (σ 1 6)) (C := RX7) (T := TX7) (N := 7) hx hb hts hinX7 hown hK hW.1 1 (q_w_get 1 (Nat.le_of_ble_eq_true rfl)) rfl 6 (by decide) hf103 (fun _ h9 => h9) rfl dX9_pass_18 ?_
    refine lv_iload_n hx hb dX9_pass_21 rfl (lv_at hl 1 rfl) ?_
    refine lv_iadd hx hb dX9_pass_22 ?_
    refine lv_ldc (v := (120000 : Int32)) hx hb hown (hts (.constant RX9 122 (120000 : Int32)) (by decide +kernel)) dX9_pass_23 ?_
    refine lv_icmp_le (tgt := 31) hx hb dX9_pass_25 (by decide) (fun c_3 => ?_) (fun c_3 => ?_)
    · have hs := hs.1 c_3
      rw [if_pos c_3] at hR
      refine lv_aload_n hx hb dX9_pass_31 rfl (lv_at hl 0 rfl) ?_
      refine va_get (v := .ref (a 35)) (C := RX9) (T := TX9) (N := 7) hx hb hts hinX9 hown hK hW.1 0 (q_w_get 0 (Nat.le_of_ble_eq_true rfl)) rfl 2 (by decide) hf22 (fun _ h9 => h9) rfl dX9_pass_32 ?_
      refine lv_aload_n hx hb dX9_pass_35 rfl (lv_at hl 0 rfl) ?_
      refine va_get (v := .ref (a 1)) (C := RX9) (T := TX9) (N := 7) hx hb hts hinX9 hown hK hW.1 0 (q_w_get 0 (Nat.le_of_ble_eq_true rfl)) rfl 0 (by decide) hf10 (fun _ h9 => h9) rfl dX9_pass_36 ?_
      have hs4 := hs.1
      have hs := hs.2
      refine q_Vv (As := [.ref (a 1)]) (rest := []) (wf := wX3_X7 k (sel a 35 104 1)) (R := P_X3_record (sel σ 35 104 1)) (wd' := wX9 k a (sb2 σ 35 104 1 17 (P_X3_record (sel σ 35 104 1)))) (wX9_X3_X7_35_1_is) [0, 1, 2, 3] 35 3 C0 hW (m_X3_record l D k (sel a 35 104 1) H.size (sel σ 35 104 1)  hs4) (cwV 1 hts gX9_pass_X3_record rfl rfl rfl hd_X3_record ⟨Nat.le_of_ble_eq_true rfl, Nat.le_of_ble_eq_true rfl⟩) (wX9_X3_X7_35_1_nd) (wX9_X3_X7_35_1_pl k a _) rfl (q_w_get 35 (Nat.le_of_ble_eq_true rfl)) rfl (wX3_X7_fst k _ _ _) (wX9_X3_X7_35_1_pt k a _ _) hl rfl rfl (Nat.le_of_ble_eq_true rfl) dX9_pass_39 ⟨Nat.le_refl 0, Nat.le_refl 0⟩ (fun H locs hW => ?_)
      exact b_X9_pass_b42c l D k a A C0 R (sb2 σ 35 104 1 17 (P_X3_record (sel σ 35 104 1))) v1 hs hR H locs ls hW (lv_sub hl [0, 1] rfl)
    · have hs := hs.2 c_3
      rw [if_neg c_3] at hR
      refine lv_bipush (v := (-4 : Int32)) hx hb dX9_pass_28 (by decide) ?_
      exact q_iret C0 hW hR dX9_pass_30
  · have hs := hs.1 c_2
    rw [if_pos c_2] at hR
    refine lv_bipush (v := (-2 : Int32)) hx hb dX9_pass_11 (by decide) ?_
    exact q_iret C0 hW hR dX9_pass_13
set_option maxHeartbeats 400000 in
set_option maxRecDepth 100000 in
theorem m_X9_pass (l : Launch) (D : va_G) (k : Nat → ClassId) (a : Nat → Nat) (sz : Nat) (σ : T2) (p0 : Int32) (hs : S_X9_pass σ p0) : Met l yX9_pass wsX9_pass { frames := 5, cells := 0, slots := 0, locals := 133 } (va_Pc [.ref (a 0), .int p0] (q_B D (tyL k) (wX9 k a σ) sz)) (va_Qi (fun r u => (r, u) = P_X9_pass σ p0) (fun u => q_E D (tyL k) (va_A (wX9 k a σ) sz) (wX9 k a u)) (va_A (wX9 k a σ) sz)) 0 0 (va_A (wX9 k a σ) sz) := by
  refine q_met [.ref (a 0), .int p0] (wX9 k a σ) sz (cc := cX9_pass) (maxL := 2) (ret := (some .int)) (by decide) rfl (Nat.le_of_ble_eq_true rfl) ?_
  intro p e s m args below meth c ls hsz C0 hW hl hin
  subst hsz
  exact b_X9_pass_b0 l D k a _ C0 _ σ p0 hs rfl s.heap [] ls hW (lv_sub hl [0, 1] rfl)
theorem hin_X9_anew_X5 : ∀ w ∈ u_ws RX5 TX5 3, w ∈ wsX9_anew := by decide +kernel
theorem hin_X9_anew_X7 : ∀ w ∈ u_ws RX7 TX7 7, w ∈ wsX9_anew := by decide +kernel
theorem hin_X9_anew_X9 : ∀ w ∈ u_ws RX9 TX9 7, w ∈ wsX9_anew := by decide +kernel
theorem hd_X9_anew : yX9_anew.cls = RX9 ∧ yX9_anew.cls ≠ "java/lang/invoke/MethodHandle" ∧ yX9_anew.cls ≠ "java/lang/invoke/VarHandle" ∧ (parseMethodDescriptor yX9_anew.desc).map (fun d => d.parameters.length) = some 0 := by decide +kernel
noncomputable def P_X9_anew_b18c (σ : T2) : Int32 × T2 := (σ 3 2, σ)
def S_X9_anew_b18c (σ : T2) : Prop := True
theorem P_X9_anew_b18c_e (σ : T2) : P_X9_anew_b18c σ = (σ 3 2, σ) := rfl
theorem S_X9_anew_b18c_e (σ : T2) : S_X9_anew_b18c σ = (True) := rfl
noncomputable def P_X9_anew_b11c (σ : T2) : Int32 × T2 := P_X9_anew_b18c (sb σ 1 17 (P_X7_begin (fun j => σ (1 + j))))
def S_X9_anew_b11c (σ : T2) : Prop := (S_X7_begin (fun j => σ (1 + j)) ) ∧ (S_X9_anew_b18c (sb σ 1 17 (P_X7_begin (fun j => σ (1 + j)))))
theorem P_X9_anew_b11c_e (σ : T2) : P_X9_anew_b11c σ = P_X9_anew_b18c (sb σ 1 17 (P_X7_begin (fun j => σ (1 + j)))) := rfl
theorem S_X9_anew_b11c_e (σ : T2) : S_X9_anew_b11c σ = ((S_X7_begin (fun j => σ (1 + j)) ) ∧ (S_X9_anew_b18c (sb σ 1 17 (P_X7_begin (fun j => σ (1 + j)))))) := rfl
noncomputable def P_X9_anew_b0 (σ : T2) : Int32 × T2 := P_X9_anew_b11c (sb2 σ 35 104 1 17 (P_X3_record (sel σ 35 104 1)))
def S_X9_anew_b0 (σ : T2) : Prop := (S_X3_record (sel σ 35 104 1) ) ∧ (S_X9_anew_b11c (sb2 σ 35 104 1 17 (P_X3_record (sel σ 35 104 1))))
theorem P_X9_anew_b0_e (σ : T2) : P_X9_anew_b0 σ = P_X9_anew_b11c (sb2 σ 35 104 1 17 (P_X3_record (sel σ 35 104 1))) := rfl
theorem S_X9_anew_b0_e (σ : T2) : S_X9_anew_b0 σ = ((S_X3_record (sel σ 35 104 1) ) ∧ (S_X9_anew_b11c (sb2 σ 35 104 1 17 (P_X3_record (sel σ 35 104 1))))) := rfl
noncomputable def P_X9_anew (σ : T2) : Int32 × T2 := P_X9_anew_b0 σ
def S_X9_anew (σ : T2) : Prop := S_X9_anew_b0 σ
set_option maxHeartbeats 400000 in
set_option maxRecDepth 100000 in
theorem b_X9_anew_b18c {p : Program} {e : Env} {s : State} {m : MethodId} {args : Array Value} {below : List Frame} {meth : Method} {c : Code} (l : Launch) (D : va_G) (k : Nat → ClassId) (a : Nat → Nat) (A : Nat → Prop) (C0 : q_C p s m meth c args RX9 cX9_anew 1 (some .int) wsX9_anew D (tyL k) A) (R : Int32 × T2) : ∀ (σ : T2), S_X9_anew_b18c σ → P_X9_anew_b18c σ = R → ∀ (H : Heap) (locs : List Loc) (ls : Array Slot), q_W D A s.heap (wX9 k a σ) H locs → lv_has ls 1 [(0, .ref (a 0))] → W p l e { frames := 4, cells := 0, slots := 0, locals := 103 } s m args below meth c H locs 0 0 (MQ below (va_Qi (fun r u => (r, u) = R) (fun u => q_E D (tyL k) A (wX9 k a u)) A) args s 0 0 A) (F0 m 18 ls []) := by
  intro σ hs hR H locs ls hW hl
  rw [P_X9_anew_b18c_e] at hR
  rw [S_X9_anew_b18c_e] at hs
  obtain ⟨hx, hb, hr, hml, hts, hown, hlocks, hK, hA⟩ := id C0
  have hf10 := hts (.fieldLink RX9 10 "BeatFollower" "scene" "LBeatFollower$Scene;") (by decide +kernel)
  have hf87 := hts (.fieldLink RX9 87 "BeatFollower$Scene" "plan" "LBeatFollower$Plan;") (by decide +kernel)
  have hf110 := hts (.fieldLink RX9 110 "BeatFollower$Plan" "many" "I") (by decide +kernel)
  have hinX5 : ∀ w ∈ u_ws RX5 TX5 3, w ∈ wsX9_anew := hin_X9_anew_X5
  have hinX7 : ∀ w ∈ u_ws RX7 TX7 7, w ∈ wsX9_anew := hin_X9_anew_X7
  have hinX9 : ∀ w ∈ u_ws RX9 TX9 7, w ∈ wsX9_anew := hin_X9_anew_X9
  refine lv_aload_n hx hb dX9_anew_18 rfl (lv_at hl 0 rfl) ?_
  refine va_get (v := .ref (a 1)) (C := RX9) (T := TX9) (N := 7) hx hb hts hinX9 hown hK hW.1 0 (q_w_get 0 (Nat.le_of_ble_eq_true rfl)) rfl 0 (by decide) hf10 (fun _ h9 => h9) rfl dX9_anew_19 ?_
  refine va_get (v := .ref (a 3)) (C := RX7) (T := TX7) (N := 7) hx hb hts hinX7 hown hK hW.1 1 (q_w_get 1 (Nat.le_of_ble_eq_true rfl)) rfl 1 (by decide) hf87 (fun _ h9 => h9) rfl dX9_anew_22 ?_
  refine va_get (v := .int (σ 3 2)) (C := RX5) (T := TX5) (N := 3) hx hb hts hinX5 hown hK hW.1 3 (q_w_get 3 (Nat.le_of_ble_eq_true rfl)) rfl 2 (by decide) hf110 (fun _ h9 => h9) rfl dX9_anew_25 ?_
  exact q_iret C0 hW hR dX9_anew_28
set_option maxHeartbeats 400000 in
set_option maxRecDepth 100000 in
theorem b_X9_anew_b11c {p : Program} {e : Env} {s : State} {m : MethodId} {args : Array Value} {below : List Frame} {meth : Method} {c : Code} (l : Launch) (D : va_G) (k : Nat → ClassId) (a : Nat → Nat) (A : Nat → Prop) (C0 : q_C p s m meth c args RX9 cX9_anew 1 (some .int) wsX9_anew D (tyL k) A) (R : Int32 × T2) : ∀ (σ : T2), S_X9_anew_b11c σ → P_X9_anew_b11c σ = R → ∀ (H : Heap) (locs : List Loc) (ls : Array Slot), q_W D A s.heap (wX9 k a σ) H locs → lv_has ls 1 [(0, .ref (a 0))] → W p l e { frames := 4, cells := 0, slots := 0, locals := 103 } s m args below meth c H locs 0 0 (MQ below (va_Qi (fun r u => (r, u) = R) (fun u => q_E D (tyL k) A (wX9 k a u)) A) args s 0 0 A) (F0 m 11 ls []) := by
  intro σ hs hR H locs ls hW hl
  rw [P_X9_anew_b11c_e] at hR
  rw [S_X9_anew_b11c_e] at hs
  obtain ⟨hx, hb, hr, hml, hts, hown, hlocks, hK, hA⟩ := id C0
  have hf10 := hts (.fieldLink RX9 10 "BeatFollower" "scene" "LBeatFollower$Scene;") (by decide +kernel)
  have hinX9 : ∀ w ∈ u_ws RX9 TX9 7, w ∈ wsX9_anew := hin_X9_anew_X9
  refine lv_aload_n hx hb dX9_anew_11 rfl (lv_at hl 0 rfl) ?_
  refine va_get (v := .ref (a 1)) (C := RX9) (T := TX9) (N := 7) hx hb hts hinX9 hown hK hW.1 0 (q_w_get 0 (Nat.le_of_ble_eq_true rfl)) rfl 0 (by decide) hf10 (fun _ h9 => h9) rfl dX9_anew_12 ?_
  have hs2 := hs.1
  have hs := hs.2
  refine q_Vv (As := []) (rest := []) (wf := wX7 k (fun j => a (1 + j))) (R := P_X7_begin (fun j => σ (1 + j))) (wd' := wX9 k a (sb σ 1 17 (P_X7_begin (fun j => σ (1 + j))))) (wX9_X7_1_is) [0, 1, 2, 3] 1 7 C0 hW (m_X7_begin l D k (fun j => a (1 + j)) H.size (fun j => σ (1 + j))  hs2) (cwV 0 hts gX9_anew_X7_begin rfl rfl rfl hd_X7_begin ⟨Nat.le_of_ble_eq_true rfl, Nat.le_of_ble_eq_true rfl⟩) (wX9_X7_1_nd) (wX9_X7_1_pl k a _) rfl (q_w_get 1 (Nat.le_of_ble_eq_true rfl)) rfl (wX7_fst k _ _ _) (wX9_X7_1_pt k a _ _) hl rfl rfl (Nat.le_of_ble_eq_true rfl) dX9_anew_15 ⟨Nat.le_refl 0, Nat.le_refl 0⟩ (fun H locs hW => ?_)
  exact b_X9_anew_b18c l D k a A C0 R (sb σ 1 17 (P_X7_begin (fun j => σ (1 + j)))) hs hR H locs ls hW (lv_sub hl [0] rfl)
set_option maxHeartbeats 400000 in
set_option maxRecDepth 100000 in
theorem b_X9_anew_b0 {p : Program} {e : Env} {s : State} {m : MethodId} {args : Array Value} {below : List Frame} {meth : Method} {c : Code} (l : Launch) (D : va_G) (k : Nat → ClassId) (a : Nat → Nat) (A : Nat → Prop) (C0 : q_C p s m meth c args RX9 cX9_anew 1 (some .int) wsX9_anew D (tyL k) A) (R : Int32 × T2) : ∀ (σ : T2), S_X9_anew_b0 σ → P_X9_anew_b0 σ = R → ∀ (H : Heap) (locs : List Loc) (ls : Array Slot), q_W D A s.heap (wX9 k a σ) H locs → lv_has ls 1 [(0, .ref (a 0))] → W p l e { frames := 4, cells := 0, slots := 0, locals := 103 } s m args below meth c H locs 0 0 (MQ below (va_Qi (fun r u => (r, u) = R) (fun u => q_E D (tyL k) A (wX9 k a u)) A) args s 0 0 A) (F0 m 0 ls []) := by
  intro σ hs hR H locs ls hW hl
  rw [P_X9_anew_b0_e] at hR
  rw [S_X9_anew_b0_e] at hs
  obtain ⟨hx, hb, hr, hml, hts, hown, hlocks, hK, hA⟩ := id C0
  have hf10 := hts (.fieldLink RX9 10 "BeatFollower" "scene" "LBeatFollower$Scene;") (by decide +kernel)
  have hf22 := hts (.fieldLink RX9 22 "BeatFollower" "history" "LBeatFollower$History;") (by decide +kernel)
  have hinX9 : ∀ w ∈ u_ws RX9 TX9 7, w ∈ wsX9_anew := hin_X9_anew_X9
  refine lv_aload_n hx hb dX9_anew_0 rfl (lv_at hl 0 rfl) ?_
  refine va_get (v := .ref (a 35)) (C := RX9) (T := TX9) (N := 7) hx hb hts hinX9 hown hK hW.1 0 (q_w_get 0 (Nat.le_of_ble_eq_true rfl)) rfl 2 (by decide) hf22 (fun _ h9 => h9) rfl dX9_anew_1 ?_
  refine lv_aload_n hx hb dX9_anew_4 rfl (lv_at hl 0 rfl) ?_
  refine va_get (v := .ref (a 1)) (C := RX9) (T := TX9) (N := 7) hx hb hts hinX9 hown hK hW.1 0 (q_w_get 0 (Nat.le_of_ble_eq_true rfl)) rfl 0 (by decide) hf10 (fun _ h9 => h9) rfl dX9_anew_5 ?_
  have hs1 := hs.1
  have hs := hs.2
  refine q_Vv (As := [.ref (a 1)]) (rest := []) (wf := wX3_X7 k (sel a 35 104 1)) (R := P_X3_record (sel σ 35 104 1)) (wd' := wX9 k a (sb2 σ 35 104 1 17 (P_X3_record (sel σ 35 104 1)))) (wX9_X3_X7_35_1_is) [0, 1, 2, 3] 35 3 C0 hW (m_X3_record l D k (sel a 35 104 1) H.size (sel σ 35 104 1)  hs1) (cwV 1 hts gX9_anew_X3_record rfl rfl rfl hd_X3_record ⟨Nat.le_of_ble_eq_true rfl, Nat.le_of_ble_eq_true rfl⟩) (wX9_X3_X7_35_1_nd) (wX9_X3_X7_35_1_pl k a _) rfl (q_w_get 35 (Nat.le_of_ble_eq_true rfl)) rfl (wX3_X7_fst k _ _ _) (wX9_X3_X7_35_1_pt k a _ _) hl rfl rfl (Nat.le_of_ble_eq_true rfl) dX9_anew_8 ⟨Nat.le_refl 0, Nat.le_refl 0⟩ (fun H locs hW => ?_)
  exact b_X9_anew_b11c l D k a A C0 R (sb2 σ 35 104 1 17 (P_X3_record (sel σ 35 104 1))) hs hR H locs ls hW (lv_sub hl [0] rfl)
set_option maxHeartbeats 400000 in
set_option maxRecDepth 100000 in
theorem m_X9_anew (l : Launch) (D : va_G) (k : Nat → ClassId) (a : Nat → Nat) (sz : Nat) (σ : T2) (hs : S_X9_anew σ) : Met l yX9_anew wsX9_anew { frames := 4, cells := 0, slots := 0, locals := 103 } (va_Pc [.ref (a 0)] (q_B D (tyL k) (wX9 k a σ) sz)) (va_Qi (fun r u => (r, u) = P_X9_anew σ) (fun u => q_E D (tyL k) (va_A (wX9 k a σ) sz) (wX9 k a u)) (va_A (wX9 k a σ) sz)) 0 0 (va_A (wX9 k a σ) sz) := by
  refine q_met [.ref (a 0)] (wX9 k a σ) sz (cc := cX9_anew) (maxL := 1) (ret := (some .int)) (by decide) rfl (Nat.le_of_ble_eq_true rfl) ?_
  intro p e s m args below meth c ls hsz C0 hW hl hin
  subst hsz
  exact b_X9_anew_b0 l D k a _ C0 _ σ  hs rfl s.heap [] ls hW (lv_sub hl [0] rfl)
theorem hin_X9_ofBeat_X7 : ∀ w ∈ u_ws RX7 TX7 7, w ∈ wsX9_ofBeat := by decide +kernel
theorem hin_X9_ofBeat_X9 : ∀ w ∈ u_ws RX9 TX9 7, w ∈ wsX9_ofBeat := by decide +kernel
theorem hd_X9_ofBeat : yX9_ofBeat.cls = RX9 ∧ yX9_ofBeat.cls ≠ "java/lang/invoke/MethodHandle" ∧ yX9_ofBeat.cls ≠ "java/lang/invoke/VarHandle" ∧ (parseMethodDescriptor yX9_ofBeat.desc).map (fun d => d.parameters.length) = some 2 := by decide +kernel
noncomputable def P_X9_ofBeat_b0 (σ : T2) (v1 : Int32) (v2 : Int32) : Int32 := if (P_X5_has (fun j => σ (3 + j)) v1) = 0 then ((-1 : Int32)) else (if v2 = (0 : Int32) then (P_X5_timeOf (fun j => σ (3 + j)) v1) else (if v2 = (1 : Int32) then (P_X5_numberOf (fun j => σ (3 + j)) v1) else (if v2 = (2 : Int32) then (if (P_X7_isHeard (fun j => σ (1 + j)) v1) = 0 then ((0 : Int32)) else (P_X2_kindOf (fun j => σ (6 + j)) v1)) else (if v2 = (3 : Int32) then (if (P_X7_isHeard (fun j => σ (1 + j)) v1) = 0 then ((-6 : Int32)) else (P_X2_blowOf (fun j => σ (6 + j)) v1)) else (if v2 = (4 : Int32) then (if (P_X7_isHeard (fun j => σ (1 + j)) v1) = 0 then ((-6 : Int32)) else (P_X2_offOf (fun j => σ (6 + j)) v1)) else (if v2 = (5 : Int32) then (if (P_X7_isHeard (fun j => σ (1 + j)) v1) = 0 then ((-6 : Int32)) else (P_X2_slipOf (fun j => σ (6 + j)) v1)) else ((-2 : Int32))))))))
def S_X9_ofBeat_b0 (σ : T2) (v1 : Int32) (v2 : Int32) : Prop := (S_X5_has (fun j => σ (3 + j)) v1) ∧ (((P_X5_has (fun j => σ (3 + j)) v1) = 0 → (True)) ∧ (¬ ((P_X5_has (fun j => σ (3 + j)) v1) = 0) → ((v2 = (0 : Int32) → ((S_X5_timeOf (fun j => σ (3 + j)) v1) ∧ (True))) ∧ (¬ (v2 = (0 : Int32)) → ((v2 = (1 : Int32) → ((S_X5_numberOf (fun j => σ (3 + j)) v1) ∧ (True))) ∧ (¬ (v2 = (1 : Int32)) → ((v2 = (2 : Int32) → ((S_X7_isHeard (fun j => σ (1 + j)) v1) ∧ (((P_X7_isHeard (fun j => σ (1 + j)) v1) = 0 → (True)) ∧ (¬ ((P_X7_isHeard (fun j => σ (1 + j)) v1) = 0) → ((S_X2_kindOf (fun j => σ (6 + j)) v1) ∧ (True)))))) ∧ (¬ (v2 = (2 : Int32)) → ((v2 = (3 : Int32) → ((S_X7_isHeard (fun j => σ (1 + j)) v1) ∧ (((P_X7_isHeard (fun j => σ (1 + j)) v1) = 0 → (True)) ∧ (¬ ((P_X7_isHeard (fun j => σ (1 + j)) v1) = 0) → ((S_X2_blowOf (fun j => σ (6 + j)) v1) ∧ (True)))))) ∧ (¬ (v2 = (3 : Int32)) → ((v2 = (4 : Int32) → ((S_X7_isHeard (fun j => σ (1 + j)) v1) ∧ (((P_X7_isHeard (fun j => σ (1 + j)) v1) = 0 → (True)) ∧ (¬ ((P_X7_isHeard (fun j => σ (1 + j)) v1) = 0) → ((S_X2_offOf (fun j => σ (6 + j)) v1) ∧ (True)))))) ∧ (¬ (v2 = (4 : Int32)) → ((v2 = (5 : Int32) → ((S_X7_isHeard (fun j => σ (1 + j)) v1) ∧ (((P_X7_isHeard (fun j => σ (1 + j)) v1) = 0 → (True)) ∧ (¬ ((P_X7_isHeard (fun j => σ (1 + j)) v1) = 0) → ((S_X2_slipOf (fun j => σ (6 + j)) v1) ∧ (True)))))) ∧ (¬ (v2 = (5 : Int32)) → (True)))))))))))))))
theorem P_X9_ofBeat_b0_e (σ : T2) (v1 : Int32) (v2 : Int32) : P_X9_ofBeat_b0 σ v1 v2 = if (P_X5_has (fun j => σ (3 + j)) v1) = 0 then ((-1 : Int32)) else (if v2 = (0 : Int32) then (P_X5_timeOf (fun j => σ (3 + j)) v1) else (if v2 = (1 : Int32) then (P_X5_numberOf (fun j => σ (3 + j)) v1) else (if v2 = (2 : Int32) then (if (P_X7_isHeard (fun j => σ (1 + j)) v1) = 0 then ((0 : Int32)) else (P_X2_kindOf (fun j => σ (6 + j)) v1)) else (if v2 = (3 : Int32) then (if (P_X7_isHeard (fun j => σ (1 + j)) v1) = 0 then ((-6 : Int32)) else (P_X2_blowOf (fun j => σ (6 + j)) v1)) else (if v2 = (4 : Int32) then (if (P_X7_isHeard (fun j => σ (1 + j)) v1) = 0 then ((-6 : Int32)) else (P_X2_offOf (fun j => σ (6 + j)) v1)) else (if v2 = (5 : Int32) then (if (P_X7_isHeard (fun j => σ (1 + j)) v1) = 0 then ((-6 : Int32)) else (P_X2_slipOf (fun j => σ (6 + j)) v1)) else ((-2 : Int32)))))))) := rfl
theorem S_X9_ofBeat_b0_e (σ : T2) (v1 : Int32) (v2 : Int32) : S_X9_ofBeat_b0 σ v1 v2 = ((S_X5_has (fun j => σ (3 + j)) v1) ∧ (((P_X5_has (fun j => σ (3 + j)) v1) = 0 → (True)) ∧ (¬ ((P_X5_has (fun j => σ (3 + j)) v1) = 0) → ((v2 = (0 : Int32) → ((S_X5_timeOf (fun j => σ (3 + j)) v1) ∧ (True))) ∧ (¬ (v2 = (0 : Int32)) → ((v2 = (1 : Int32) → ((S_X5_numberOf (fun j => σ (3 + j)) v1) ∧ (True))) ∧ (¬ (v2 = (1 : Int32)) → ((v2 = (2 : Int32) → ((S_X7_isHeard (fun j => σ (1 + j)) v1) ∧ (((P_X7_isHeard (fun j => σ (1 + j)) v1) = 0 → (True)) ∧ (¬ ((P_X7_isHeard (fun j => σ (1 + j)) v1) = 0) → ((S_X2_kindOf (fun j => σ (6 + j)) v1) ∧ (True)))))) ∧ (¬ (v2 = (2 : Int32)) → ((v2 = (3 : Int32) → ((S_X7_isHeard (fun j => σ (1 + j)) v1) ∧ (((P_X7_isHeard (fun j => σ (1 + j)) v1) = 0 → (True)) ∧ (¬ ((P_X7_isHeard (fun j => σ (1 + j)) v1) = 0) → ((S_X2_blowOf (fun j => σ (6 + j)) v1) ∧ (True)))))) ∧ (¬ (v2 = (3 : Int32)) → ((v2 = (4 : Int32) → ((S_X7_isHeard (fun j => σ (1 + j)) v1) ∧ (((P_X7_isHeard (fun j => σ (1 + j)) v1) = 0 → (True)) ∧ (¬ ((P_X7_isHeard (fun j => σ (1 + j)) v1) = 0) → ((S_X2_offOf (fun j => σ (6 + j)) v1) ∧ (True)))))) ∧ (¬ (v2 = (4 : Int32)) → ((v2 = (5 : Int32) → ((S_X7_isHeard (fun j => σ (1 + j)) v1) ∧ (((P_X7_isHeard (fun j => σ (1 + j)) v1) = 0 → (True)) ∧ (¬ ((P_X7_isHeard (fun j => σ (1 + j)) v1) = 0) → ((S_X2_slipOf (fun j => σ (6 + j)) v1) ∧ (True)))))) ∧ (¬ (v2 = (5 : Int32)) → (True)))))))))))))))) := rfl
noncomputable def P_X9_ofBeat (σ : T2) (p0 : Int32) (p1 : Int32) : Int32 := P_X9_ofBeat_b0 σ p0 p1
def S_X9_ofBeat (σ : T2) (p0 : Int32) (p1 : Int32) : Prop := S_X9_ofBeat_b0 σ p0 p1
set_option maxHeartbeats 400000 in
set_option maxRecDepth 100000 in
theorem b_X9_ofBeat_b0 {p : Program} {e : Env} {s : State} {m : MethodId} {args : Array Value} {below : List Frame} {meth : Method} {c : Code} (l : Launch) (D : va_G) (k : Nat → ClassId) (a : Nat → Nat) (A : Nat → Prop) (C0 : q_C p s m meth c args RX9 cX9_ofBeat 3 (some .int) wsX9_ofBeat D (tyL k) A) (R : Int32) : ∀ (σ : T2) (v1 : Int32) (v2 : Int32), S_X9_ofBeat_b0 σ v1 v2 → P_X9_ofBeat_b0 σ v1 v2 = R → ∀ (H : Heap) (locs : List Loc) (ls : Array Slot), q_W D A s.heap (wX9 k a σ) s.heap [] → lv_has ls 3 [(0, .ref (a 0)), (1, .int v1), (2, .int v2)] → W p l e { frames := 2, cells := 0, slots := 0, locals := 42 } s m args below meth c s.heap [] 0 0 (MQ below (vp_Si (fun r => r = R)) args s 0 0 (fun _ => False)) (F0 m 0 ls []) := by
  intro σ v1 v2 hs hR H locs ls hW hl
  rw [P_X9_ofBeat_b0_e] at hR
  rw [S_X9_ofBeat_b0_e] at hs
  obtain ⟨hx, hb, hr, hml, hts, hown, hlocks, hK, hA⟩ := id C0
  have hf10 := hts (.fieldLink RX9 10 "BeatFollower" "scene" "LBeatFollower$Scene;") (by decide +kernel)
  have hf87 := hts (.fieldLink RX9 87 "BeatFollower$Scene" "plan" "LBeatFollower$Plan;") (by decide +kernel)
  have hf143 := hts (.fieldLink RX9 143 "BeatFollower$Scene" "fates" "LBeatFollower$Fates;") (by decide +kernel)
  have hinX7 : ∀ w ∈ u_ws RX7 TX7 7, w ∈ wsX9_ofBeat := hin_X9_ofBeat_X7
  have hinX9 : ∀ w ∈ u_ws RX9 TX9 7, w ∈ wsX9_ofBeat := hin_X9_ofBeat_X9
  refine lv_aload_n hx hb dX9_ofBeat_0 rfl (lv_at hl 0 rfl) ?_
  refine va_get (v := .ref (a 1)) (C := RX9) (T := TX9) (N := 7) hx hb hts hinX9 hown hK hW.1 0 (q_w_get 0 (Nat.le_of_ble_eq_true rfl)) rfl 0 (by decide) hf10 (fun _ h9 => h9) rfl dX9_ofBeat_1 ?_
  refine va_get (v := .ref (a 3)) (C := RX7) (T := TX7) (N := 7) hx hb hts hinX7 hown hK hW.1 1 (q_w_get 1 (Nat.le_of_ble_eq_true rfl)) rfl 1 (by decide) hf87 (fun _ h9 => h9) rfl dX9_ofBeat_4 ?_
  refine lv_iload_n hx hb dX9_ofBeat_7 rfl (lv_at hl 1 rfl) ?_
  have hs1 := hs.1
  have hs := hs.2
  refine q_Vi (As := [.int v1]) (rest := []) (R := P_X5_has (fun j => σ (3 + j)) v1) (wX9_X5_3_is) [0, 1, 2, 3] 3 5 C0 hW (m_X5_has l D k (fun j => a (3 + j)) _ (fun j => σ (3 + j)) v1 hs1) (cwV 1 hts gX9_ofBeat_X5_has rfl rfl rfl hd_X5_has ⟨Nat.le_of_ble_eq_true rfl, Nat.le_of_ble_eq_true rfl⟩) (wX9_X5_3_nd) (wX9_X5_3_pl k a _) rfl (q_w_get 3 (Nat.le_of_ble_eq_true rfl)) rfl hl rfl rfl (Nat.le_of_ble_eq_true rfl) dX9_ofBeat_8 ⟨Nat.le_refl 0, Nat.le_refl 0⟩ ?_
  refine lv_if_ne (tgt := 16) hx hb dX9_ofBeat_11 (by decide) (fun c_2 => ?_) (fun c_2 => ?_)
  · have hs := hs.2 c_2
    rw [if_neg c_2] at hR
    refine lv_iload_n hx hb dX9_ofBeat_16 rfl (lv_at hl 2 rfl) ?_
    by_cases c_3 : v2 = (0 : Int32)
    · have hs := hs.1 c_3
      rw [if_pos c_3] at hR
      refine lv_tableIn (off := 39) (tgt := 56) hx hb dX9_ofBeat_17 (by rw [c_3]; decide) (by rw [c_3]; decide) (by rw [c_3]; decide) (by decide) ?_
      refine lv_aload_n hx hb dX9_ofBeat_56 rfl (lv_at hl 0 rfl) ?_
      refine va_get (v := .ref (a 1)) (C := RX9) (T := TX9) (N := 7) hx hb hts hinX9 hown hK hW.1 0 (q_w_get 0 (Nat.le_of_ble_eq_true rfl)) rfl 0 (by decide) hf10 (fun _ h9 => h9) rfl dX9_ofBeat_57 ?_
      refine va_get (v := .ref (a 3)) (C := RX7) (T := TX7) (N := 7) hx hb hts hinX7 hown hK hW.1 1 (q_w_get 1 (Nat.le_of_ble_eq_true rfl)) rfl 1 (by decide) hf87 (fun _ h9 => h9) rfl dX9_ofBeat_60 ?_
      refine lv_iload_n hx hb dX9_ofBeat_63 rfl (lv_at hl 1 rfl) ?_
      have hs4 := hs.1
      have hs := hs.2
      refine q_Vi (As := [.int v1]) (rest := []) (R := P_X5_timeOf (fun j => σ (3 + j)) v1) (wX9_X5_3_is) [0, 1, 2, 3] 3 5 C0 hW (m_X5_timeOf l D k (fun j => a (3 + j)) _ (fun j => σ (3 + j)) v1 hs4) (cwV 1 hts gX9_ofBeat_X5_timeOf rfl rfl rfl hd_X5_timeOf ⟨Nat.le_of_ble_eq_true rfl, Nat.le_of_ble_eq_true rfl⟩) (wX9_X5_3_nd) (wX9_X5_3_pl k a _) rfl (q_w_get 3 (Nat.le_of_ble_eq_true rfl)) rfl hl rfl rfl (Nat.le_of_ble_eq_true rfl) dX9_ofBeat_64 ⟨Nat.le_refl 0, Nat.le_refl 0⟩ ?_
      exact q_iretr C0 hR dX9_ofBeat_67
    · have hs := hs.2 c_3
      rw [if_neg c_3] at hR
      by_cases c_5 : v2 = (1 : Int32)
      · have hs := hs.1 c_5
        rw [if_pos c_5] at hR
        refine lv_tableIn (off := 51) (tgt := 68) hx hb dX9_ofBeat_17 (by rw [c_5]; decide) (by rw [c_5]; decide) (by rw [c_5]; decide) (by decide) ?_
        refine lv_aload_n hx hb dX9_ofBeat_68 rfl (lv_at hl 0 rfl) ?_
        refine va_get (v := .ref (a 1)) (C := RX9) (T := TX9) (N := 7) hx hb hts hinX9 hown hK hW.1 0 (q_w_get 0 (Nat.le_of_ble_eq_true rfl)) rfl 0 (by decide) hf10 (fun _ h9 => h9) rfl dX9_ofBeat_69 ?_
        refine va_get (v := .ref (a 3)) (C := RX7) (T := TX7) (N := 7) hx hb hts hinX7 hown hK hW.1 1 (q_w_get 1 (Nat.le_of_ble_eq_true rfl)) rfl 1 (by decide) hf87 (fun _ h9 => h9) rfl dX9_ofBeat_72 ?_
        refine lv_iload_n hx hb dX9_ofBeat_75 rfl (lv_at hl 1 rfl) ?_
        have hs6 := hs.1
        have hs := hs.2
        refine q_Vi (As := [.int v1]) (rest := []) (R := P_X5_numberOf (fun j => σ (3 + j)) v1) (wX9_X5_3_is) [0, 1, 2, 3] 3 5 C0 hW (m_X5_numberOf l D k (fun j => a (3 + j)) _ (fun j => σ (3 + j)) v1 hs6) (cwV 1 hts gX9_ofBeat_X5_numberOf rfl rfl rfl hd_X5_numberOf ⟨Nat.le_of_ble_eq_true rfl, Nat.le_of_ble_eq_true rfl⟩) (wX9_X5_3_nd) (wX9_X5_3_pl k a _) rfl (q_w_get 3 (Nat.le_of_ble_eq_true rfl)) rfl hl rfl rfl (Nat.le_of_ble_eq_true rfl) dX9_ofBeat_76 ⟨Nat.le_refl 0, Nat.le_refl 0⟩ ?_
        exact q_iretr C0 hR dX9_ofBeat_79
      · have hs := hs.2 c_5
        rw [if_neg c_5] at hR
        by_cases c_7 : v2 = (2 : Int32)
        · have hs := hs.1 c_7
          rw [if_pos c_7] at hR
          refine lv_tableIn (off := 63) (tgt := 80) hx hb dX9_ofBeat_17 (by rw [c_7]; decide) (by rw [c_7]; decide) (by rw [c_7]; decide) (by decide) ?_
          refine lv_aload_n hx hb dX9_ofBeat_80 rfl (lv_at hl 0 rfl) ?_
          refine va_get (v := .ref (a 1)) (C := RX9) (T := TX9) (N := 7) hx hb hts hinX9 hown hK hW.1 0 (q_w_get 0 (Nat.le_of_ble_eq_true rfl)) rfl 0 (by decide) hf10 (fun _ h9 => h9) rfl dX9_ofBeat_81 ?_
          refine lv_iload_n hx hb dX9_ofBeat_84 rfl (lv_at hl 1 rfl) ?_
          have hs8 := hs.1
          have hs := hs.2
          refine q_Vi (As := [.int v1]) (rest := []) (R := P_X7_isHeard (fun j => σ (1 + j)) v1) (wX9_X7_1_is) [0, 1, 2, 3] 1 7 C0 hW (m_X7_isHeard l D k (fun j => a (1 + j)) _ (fun j => σ (1 + j)) v1 hs8) (cwV 1 hts gX9_ofBeat_X7_isHeard rfl rfl rfl hd_X7_isHeard ⟨Nat.le_of_ble_eq_true rfl, Nat.le_of_ble_eq_true rfl⟩) (wX9_X7_1_nd) (wX9_X7_1_pl k a _) rfl (q_w_get 1 (Nat.le_of_ble_eq_true rfl)) rfl hl rfl rfl (Nat.le_of_ble_eq_true rfl) dX9_ofBeat_85 ⟨Nat.le_refl 0, Nat.le_refl 0⟩ ?_
          refine lv_if_eq (tgt := 105) hx hb dX9_ofBeat_88 (by decide) (fun c_9 => ?_) (fun c_9 => ?_)
          · have hs := hs.1 c_9
            rw [if_pos c_9] at hR
            refine lv_iconst (v := (0 : Int32)) hx hb dX9_ofBeat_105 (by decide) ?_
            exact q_iretr C0 hR dX9_ofBeat_106
          · have hs := hs.2 c_9
            rw [if_neg c_9] at hR
            refine lv_aload_n hx hb dX9_ofBeat_91 rfl (lv_at hl 0 rfl) ?_
            refine va_get (v := .ref (a 1)) (C := RX9) (T := TX9) (N := 7) hx hb hts hinX9 hown hK hW.1 0 (q_w_get 0 (Nat.le_of_ble_eq_true rfl)) rfl 0 (by decide) hf10 (fun _ h9 => h9) rfl dX9_ofBeat_92 ?_
            refine va_get (v := .ref (a 6)) (C := RX7) (T := TX7) (N := 7) hx hb hts hinX7 hown hK hW.1 1 (q_w_get 1 (Nat.le_of_ble_eq_true rfl)) rfl 2 (by decide) hf143 (fun _ h9 => h9) rfl dX9_ofBeat_95 ?_
            refine lv_iload_n hx hb dX9_ofBeat_98 rfl (lv_at hl 1 rfl) ?_
            have hs10 := hs.1
            have hs := hs.2
            refine q_Vi (As := [.int v1]) (rest := []) (R := P_X2_kindOf (fun j => σ (6 + j)) v1) (wX9_X2_6_is) [0, 1, 2, 3] 6 2 C0 hW (m_X2_kindOf l D k (fun j => a (6 + j)) _ (fun j => σ (6 + j)) v1 hs10) (cwV 1 hts gX9_ofBeat_X2_kindOf rfl rfl rfl hd_X2_kindOf ⟨Nat.le_of_ble_eq_true rfl, Nat.le_of_ble_eq_true rfl⟩) (wX9_X2_6_nd) (wX9_X2_6_pl k a _) rfl (q_w_get 6 (Nat.le_of_ble_eq_true rfl)) rfl hl rfl rfl (Nat.le_of_ble_eq_true rfl) dX9_ofBeat_99 ⟨Nat.le_refl 0, Nat.le_refl 0⟩ ?_
            refine lv_goto (tgt := 106) hx hb dX9_ofBeat_102 (by decide) ?_
            exact q_iretr C0 hR dX9_ofBeat_106
        · have hs := hs.2 c_7
          rw [if_neg c_7] at hR
          by_cases c_11 : v2 = (3 : Int32)
          · have hs := hs.1 c_11
            rw [if_pos c_11] at hR
            refine lv_tableIn (off := 90) (tgt := 107) hx hb dX9_ofBeat_17 (by rw [c_11]; decide) (by rw [c_11]; decide) (by rw [c_11]; decide) (by decide) ?_
            refine lv_aload_n hx hb dX9_ofBeat_107 rfl (lv_at hl 0 rfl) ?_
            refine va_get (v := .ref (a 1)) (C := RX9) (T := TX9) (N := 7) hx hb hts hinX9 hown hK hW.1 0 (q_w_get 0 (Nat.le_of_ble_eq_true rfl)) rfl 0 (by decide) hf10 (fun _ h9 => h9) rfl dX9_ofBeat_108 ?_
            refine lv_iload_n hx hb dX9_ofBeat_111 rfl (lv_at hl 1 rfl) ?_
            have hs12 := hs.1
            have hs := hs.2
            refine q_Vi (As := [.int v1]) (rest := []) (R := P_X7_isHeard (fun j => σ (1 + j)) v1) (wX9_X7_1_is) [0, 1, 2, 3] 1 7 C0 hW (m_X7_isHeard l D k (fun j => a (1 + j)) _ (fun j => σ (1 + j)) v1 hs12) (cwV 1 hts gX9_ofBeat_X7_isHeard rfl rfl rfl hd_X7_isHeard ⟨Nat.le_of_ble_eq_true rfl, Nat.le_of_ble_eq_true rfl⟩) (wX9_X7_1_nd) (wX9_X7_1_pl k a _) rfl (q_w_get 1 (Nat.le_of_ble_eq_true rfl)) rfl hl rfl rfl (Nat.le_of_ble_eq_true rfl) dX9_ofBeat_112 ⟨Nat.le_refl 0, Nat.le_refl 0⟩ ?_
            refine lv_if_eq (tgt := 132) hx hb dX9_ofBeat_115 (by decide) (fun c_13 => ?_) (fun c_13 => ?_)
            · have hs := hs.1 c_13
              rw [if_pos c_13] at hR
              refine lv_bipush (v := (-6 : Int32)) hx hb dX9_ofBeat_132 (by decide) ?_
              exact q_iretr C0 hR dX9_ofBeat_134
            · have hs := hs.2 c_13
              rw [if_neg c_13] at hR
              refine lv_aload_n hx hb dX9_ofBeat_118 rfl (lv_at hl 0 rfl) ?_
              refine va_get (v := .ref (a 1)) (C := RX9) (T := TX9) (N := 7) hx hb hts hinX9 hown hK hW.1 0 (q_w_get 0 (Nat.le_of_ble_eq_true rfl)) rfl 0 (by decide) hf10 (fun _ h9 => h9) rfl dX9_ofBeat_119 ?_
              refine va_get (v := .ref (a 6)) (C := RX7) (T := TX7) (N := 7) hx hb hts hinX7 hown hK hW.1 1 (q_w_get 1 (Nat.le_of_ble_eq_true rfl)) rfl 2 (by decide) hf143 (fun _ h9 => h9) rfl dX9_ofBeat_122 ?_
              refine lv_iload_n hx hb dX9_ofBeat_125 rfl (lv_at hl 1 rfl) ?_
              have hs14 := hs.1
              have hs := hs.2
              refine q_Vi (As := [.int v1]) (rest := []) (R := P_X2_blowOf (fun j => σ (6 + j)) v1) (wX9_X2_6_is) [0, 1, 2, 3] 6 2 C0 hW (m_X2_blowOf l D k (fun j => a (6 + j)) _ (fun j => σ (6 + j)) v1 hs14) (cwV 1 hts gX9_ofBeat_X2_blowOf rfl rfl rfl hd_X2_blowOf ⟨Nat.le_of_ble_eq_true rfl, Nat.le_of_ble_eq_true rfl⟩) (wX9_X2_6_nd) (wX9_X2_6_pl k a _) rfl (q_w_get 6 (Nat.le_of_ble_eq_true rfl)) rfl hl rfl rfl (Nat.le_of_ble_eq_true rfl) dX9_ofBeat_126 ⟨Nat.le_refl 0, Nat.le_refl 0⟩ ?_
              refine lv_goto (tgt := 134) hx hb dX9_ofBeat_129 (by decide) ?_
              exact q_iretr C0 hR dX9_ofBeat_134
          · have hs := hs.2 c_11
            rw [if_neg c_11] at hR
            by_cases c_15 : v2 = (4 : Int32)
            · have hs := hs.1 c_15
              rw [if_pos c_15] at hR
              refine lv_tableIn (off := 118) (tgt := 135) hx hb dX9_ofBeat_17 (by rw [c_15]; decide) (by rw [c_15]; decide) (by rw [c_15]; decide) (by decide) ?_
              refine lv_aload_n hx hb dX9_ofBeat_135 rfl (lv_at hl 0 rfl) ?_
              refine va_get (v := .ref (a 1)) (C := RX9) (T := TX9) (N := 7) hx hb hts hinX9 hown hK hW.1 0 (q_w_get 0 (Nat.le_of_ble_eq_true rfl)) rfl 0 (by decide) hf10 (fun _ h9 => h9) rfl dX9_ofBeat_136 ?_
              refine lv_iload_n hx hb dX9_ofBeat_139 rfl (lv_at hl 1 rfl) ?_
              have hs16 := hs.1
              have hs := hs.2
              refine q_Vi (As := [.int v1]) (rest := []) (R := P_X7_isHeard (fun j => σ (1 + j)) v1) (wX9_X7_1_is) [0, 1, 2, 3] 1 7 C0 hW (m_X7_isHeard l D k (fun j => a (1 + j)) _ (fun j => σ (1 + j)) v1 hs16) (cwV 1 hts gX9_ofBeat_X7_isHeard rfl rfl rfl hd_X7_isHeard ⟨Nat.le_of_ble_eq_true rfl, Nat.le_of_ble_eq_true rfl⟩) (wX9_X7_1_nd) (wX9_X7_1_pl k a _) rfl (q_w_get 1 (Nat.le_of_ble_eq_true rfl)) rfl hl rfl rfl (Nat.le_of_ble_eq_true rfl) dX9_ofBeat_140 ⟨Nat.le_refl 0, Nat.le_refl 0⟩ ?_
              refine lv_if_eq (tgt := 160) hx hb dX9_ofBeat_143 (by decide) (fun c_17 => ?_) (fun c_17 => ?_)
              · have hs := hs.1 c_17
                rw [if_pos c_17] at hR
                refine lv_bipush (v := (-6 : Int32)) hx hb dX9_ofBeat_160 (by decide) ?_
                exact q_iretr C0 hR dX9_ofBeat_162
              · have hs := hs.2 c_17
                rw [if_neg c_17] at hR
                refine lv_aload_n hx hb dX9_ofBeat_146 rfl (lv_at hl 0 rfl) ?_
                refine va_get (v := .ref (a 1)) (C := RX9) (T := TX9) (N := 7) hx hb hts hinX9 hown hK hW.1 0 (q_w_get 0 (Nat.le_of_ble_eq_true rfl)) rfl 0 (by decide) hf10 (fun _ h9 => h9) rfl dX9_ofBeat_147 ?_
                refine va_get (v := .ref (a 6)) (C := RX7) (T := TX7) (N := 7) hx hb hts hinX7 hown hK hW.1 1 (q_w_get 1 (Nat.le_of_ble_eq_true rfl)) rfl 2 (by decide) hf143 (fun _ h9 => h9) rfl dX9_ofBeat_150 ?_
                refine lv_iload_n hx hb dX9_ofBeat_153 rfl (lv_at hl 1 rfl) ?_
                have hs18 := hs.1
                have hs := hs.2
                refine q_Vi (As := [.int v1]) (rest := []) (R := P_X2_offOf (fun j => σ (6 + j)) v1) (wX9_X2_6_is) [0, 1, 2, 3] 6 2 C0 hW (m_X2_offOf l D k (fun j => a (6 + j)) _ (fun j => σ (6 + j)) v1 hs18) (cwV 1 hts gX9_ofBeat_X2_offOf rfl rfl rfl hd_X2_offOf ⟨Nat.le_of_ble_eq_true rfl, Nat.le_of_ble_eq_true rfl⟩) (wX9_X2_6_nd) (wX9_X2_6_pl k a _) rfl (q_w_get 6 (Nat.le_of_ble_eq_true rfl)) rfl hl rfl rfl (Nat.le_of_ble_eq_true rfl) dX9_ofBeat_154 ⟨Nat.le_refl 0, Nat.le_refl 0⟩ ?_
                refine lv_goto (tgt := 162) hx hb dX9_ofBeat_157 (by decide) ?_
                exact q_iretr C0 hR dX9_ofBeat_162
            · have hs := hs.2 c_15
              rw [if_neg c_15] at hR
              by_cases c_19 : v2 = (5 : Int32)
              · have hs := hs.1 c_19
                rw [if_pos c_19] at hR
                refine lv_tableIn (off := 146) (tgt := 163) hx hb dX9_ofBeat_17 (by rw [c_19]; decide) (by rw [c_19]; decide) (by rw [c_19]; decide) (by decide) ?_
                refine lv_aload_n hx hb dX9_ofBeat_163 rfl (lv_at hl 0 rfl) ?_
                refine va_get (v := .ref (a 1)) (C := RX9) (T := TX9) (N := 7) hx hb hts hinX9 hown hK hW.1 0 (q_w_get 0 (Nat.le_of_ble_eq_true rfl)) rfl 0 (by decide) hf10 (fun _ h9 => h9) rfl dX9_ofBeat_164 ?_
                refine lv_iload_n hx hb dX9_ofBeat_167 rfl (lv_at hl 1 rfl) ?_
                have hs20 := hs.1
                have hs := hs.2
                refine q_Vi (As := [.int v1]) (rest := []) (R := P_X7_isHeard (fun j => σ (1 + j)) v1) (wX9_X7_1_is) [0, 1, 2, 3] 1 7 C0 hW (m_X7_isHeard l D k (fun j => a (1 + j)) _ (fun j => σ (1 + j)) v1 hs20) (cwV 1 hts gX9_ofBeat_X7_isHeard rfl rfl rfl hd_X7_isHeard ⟨Nat.le_of_ble_eq_true rfl, Nat.le_of_ble_eq_true rfl⟩) (wX9_X7_1_nd) (wX9_X7_1_pl k a _) rfl (q_w_get 1 (Nat.le_of_ble_eq_true rfl)) rfl hl rfl rfl (Nat.le_of_ble_eq_true rfl) dX9_ofBeat_168 ⟨Nat.le_refl 0, Nat.le_refl 0⟩ ?_
                refine lv_if_eq (tgt := 188) hx hb dX9_ofBeat_171 (by decide) (fun c_21 => ?_) (fun c_21 => ?_)
                · have hs := hs.1 c_21
                  rw [if_pos c_21] at hR
                  refine lv_bipush (v := (-6 : Int32)) hx hb dX9_ofBeat_188 (by decide) ?_
                  exact q_iretr C0 hR dX9_ofBeat_190
                · have hs := hs.2 c_21
                  rw [if_neg c_21] at hR
                  refine lv_aload_n hx hb dX9_ofBeat_174 rfl (lv_at hl 0 rfl) ?_
                  refine va_get (v := .ref (a 1)) (C := RX9) (T := TX9) (N := 7) hx hb hts hinX9 hown hK hW.1 0 (q_w_get 0 (Nat.le_of_ble_eq_true rfl)) rfl 0 (by decide) hf10 (fun _ h9 => h9) rfl dX9_ofBeat_175 ?_
                  refine va_get (v := .ref (a 6)) (C := RX7) (T := TX7) (N := 7) hx hb hts hinX7 hown hK hW.1 1 (q_w_get 1 (Nat.le_of_ble_eq_true rfl)) rfl 2 (by decide) hf143 (fun _ h9 => h9) rfl dX9_ofBeat_178 ?_
                  refine lv_iload_n hx hb dX9_ofBeat_181 rfl (lv_at hl 1 rfl) ?_
                  have hs22 := hs.1
                  have hs := hs.2
                  refine q_Vi (As := [.int v1]) (rest := []) (R := P_X2_slipOf (fun j => σ (6 + j)) v1) (wX9_X2_6_is) [0, 1, 2, 3] 6 2 C0 hW (m_X2_slipOf l D k (fun j => a (6 + j)) _ (fun j => σ (6 + j)) v1 hs22) (cwV 1 hts gX9_ofBeat_X2_slipOf rfl rfl rfl hd_X2_slipOf ⟨Nat.le_of_ble_eq_true rfl, Nat.le_of_ble_eq_true rfl⟩) (wX9_X2_6_nd) (wX9_X2_6_pl k a _) rfl (q_w_get 6 (Nat.le_of_ble_eq_true rfl)) rfl hl rfl rfl (Nat.le_of_ble_eq_true rfl) dX9_ofBeat_182 ⟨Nat.le_refl 0, Nat.le_refl 0⟩ ?_
                  refine lv_goto (tgt := 190) hx hb dX9_ofBeat_185 (by decide) ?_
                  exact q_iretr C0 hR dX9_ofBeat_190
              · have hs := hs.2 c_19
                rw [if_neg c_19] at hR
                refine lv_tableOut (tgt := 191) hx hb dX9_ofBeat_17 (q_out 5 (by decide) (by intro j hj; rcases (show j = 0 ∨ j = 1 ∨ j = 2 ∨ j = 3 ∨ j = 4 ∨ j = 5 by omega) with rfl | rfl | rfl | rfl | rfl | rfl <;> first | exact c_3 | exact c_5 | exact c_7 | exact c_11 | exact c_15 | exact c_19)) (by decide) ?_
                refine lv_bipush (v := (-2 : Int32)) hx hb dX9_ofBeat_191 (by decide) ?_
                exact q_iretr C0 hR dX9_ofBeat_193
  · have hs := hs.1 c_2
    rw [if_pos c_2] at hR
    refine lv_iconst (v := (-1 : Int32)) hx hb dX9_ofBeat_14 (by decide) ?_
    exact q_iretr C0 hR dX9_ofBeat_15
set_option maxHeartbeats 400000 in
set_option maxRecDepth 100000 in
theorem m_X9_ofBeat (l : Launch) (D : va_G) (k : Nat → ClassId) (a : Nat → Nat) (sz : Nat) (σ : T2) (p0 : Int32) (p1 : Int32) (hs : S_X9_ofBeat σ p0 p1) : Met l yX9_ofBeat wsX9_ofBeat { frames := 2, cells := 0, slots := 0, locals := 42 } (va_Pc [.ref (a 0), .int p0, .int p1] (q_B D (tyL k) (wX9 k a σ) sz)) (vp_Si (fun r => r = P_X9_ofBeat σ p0 p1)) 0 0 (fun _ => False) := by
  refine q_met [.ref (a 0), .int p0, .int p1] (wX9 k a σ) sz (cc := cX9_ofBeat) (maxL := 3) (ret := (some .int)) (by decide) rfl (Nat.le_of_ble_eq_true rfl) ?_
  intro p e s m args below meth c ls hsz C0 hW hl hin
  subst hsz
  exact b_X9_ofBeat_b0 l D k a _ C0 _ σ p0 p1 hs rfl s.heap [] ls hW (lv_sub hl [0, 1, 2] rfl)
theorem hin_X9_ofBlow_X0 : ∀ w ∈ u_ws RX0 TX0 5, w ∈ wsX9_ofBlow := by decide +kernel
theorem hin_X9_ofBlow_X7 : ∀ w ∈ u_ws RX7 TX7 7, w ∈ wsX9_ofBlow := by decide +kernel
theorem hin_X9_ofBlow_X9 : ∀ w ∈ u_ws RX9 TX9 7, w ∈ wsX9_ofBlow := by decide +kernel
theorem hd_X9_ofBlow : yX9_ofBlow.cls = RX9 ∧ yX9_ofBlow.cls ≠ "java/lang/invoke/MethodHandle" ∧ yX9_ofBlow.cls ≠ "java/lang/invoke/VarHandle" ∧ (parseMethodDescriptor yX9_ofBlow.desc).map (fun d => d.parameters.length) = some 2 := by decide +kernel
noncomputable def P_X9_ofBlow_b0 (σ : T2) (v1 : Int32) (v2 : Int32) : Int32 := if (P_X0_has (fun j => σ (11 + j)) v1) = 0 then ((-1 : Int32)) else (if v2 = (0 : Int32) then (σ 12 ((P_X0_rowOf (fun j => σ (11 + j)) v1).toNatClampNeg)) else (if v2 = (1 : Int32) then (σ 13 ((P_X0_rowOf (fun j => σ (11 + j)) v1).toNatClampNeg)) else (if v2 = (2 : Int32) then (σ 14 ((P_X0_rowOf (fun j => σ (11 + j)) v1).toNatClampNeg)) else (if v2 = (3 : Int32) then (σ 15 ((P_X0_rowOf (fun j => σ (11 + j)) v1).toNatClampNeg)) else ((-2 : Int32))))))
def S_X9_ofBlow_b0 (σ : T2) (v1 : Int32) (v2 : Int32) : Prop := (S_X0_has (fun j => σ (11 + j)) v1) ∧ (((P_X0_has (fun j => σ (11 + j)) v1) = 0 → (True)) ∧ (¬ ((P_X0_has (fun j => σ (11 + j)) v1) = 0) → ((S_X0_rowOf (fun j => σ (11 + j)) v1) ∧ ((v2 = (0 : Int32) → ((vp_in (P_X0_rowOf (fun j => σ (11 + j)) v1) 64) ∧ (True))) ∧ (¬ (v2 = (0 : Int32)) → ((v2 = (1 : Int32) → ((vp_in (P_X0_rowOf (fun j => σ (11 + j)) v1) 64) ∧ (True))) ∧ (¬ (v2 = (1 : Int32)) → ((v2 = (2 : Int32) → ((vp_in (P_X0_rowOf (fun j => σ (11 + j)) v1) 64) ∧ (True))) ∧ (¬ (v2 = (2 : Int32)) → ((v2 = (3 : Int32) → ((vp_in (P_X0_rowOf (fun j => σ (11 + j)) v1) 64) ∧ (True))) ∧ (¬ (v2 = (3 : Int32)) → (True))))))))))))
theorem P_X9_ofBlow_b0_e (σ : T2) (v1 : Int32) (v2 : Int32) : P_X9_ofBlow_b0 σ v1 v2 = if (P_X0_has (fun j => σ (11 + j)) v1) = 0 then ((-1 : Int32)) else (if v2 = (0 : Int32) then (σ 12 ((P_X0_rowOf (fun j => σ (11 + j)) v1).toNatClampNeg)) else (if v2 = (1 : Int32) then (σ 13 ((P_X0_rowOf (fun j => σ (11 + j)) v1).toNatClampNeg)) else (if v2 = (2 : Int32) then (σ 14 ((P_X0_rowOf (fun j => σ (11 + j)) v1).toNatClampNeg)) else (if v2 = (3 : Int32) then (σ 15 ((P_X0_rowOf (fun j => σ (11 + j)) v1).toNatClampNeg)) else ((-2 : Int32)))))) := rfl
theorem S_X9_ofBlow_b0_e (σ : T2) (v1 : Int32) (v2 : Int32) : S_X9_ofBlow_b0 σ v1 v2 = ((S_X0_has (fun j => σ (11 + j)) v1) ∧ (((P_X0_has (fun j => σ (11 + j)) v1) = 0 → (True)) ∧ (¬ ((P_X0_has (fun j => σ (11 + j)) v1) = 0) → ((S_X0_rowOf (fun j => σ (11 + j)) v1) ∧ ((v2 = (0 : Int32) → ((vp_in (P_X0_rowOf (fun j => σ (11 + j)) v1) 64) ∧ (True))) ∧ (¬ (v2 = (0 : Int32)) → ((v2 = (1 : Int32) → ((vp_in (P_X0_rowOf (fun j => σ (11 + j)) v1) 64) ∧ (True))) ∧ (¬ (v2 = (1 : Int32)) → ((v2 = (2 : Int32) → ((vp_in (P_X0_rowOf (fun j => σ (11 + j)) v1) 64) ∧ (True))) ∧ (¬ (v2 = (2 : Int32)) → ((v2 = (3 : Int32) → ((vp_in (P_X0_rowOf (fun j => σ (11 + j)) v1) 64) ∧ (True))) ∧ (¬ (v2 = (3 : Int32)) → (True))))))))))))) := rfl
noncomputable def P_X9_ofBlow (σ : T2) (p0 : Int32) (p1 : Int32) : Int32 := P_X9_ofBlow_b0 σ p0 p1
def S_X9_ofBlow (σ : T2) (p0 : Int32) (p1 : Int32) : Prop := S_X9_ofBlow_b0 σ p0 p1
set_option maxHeartbeats 400000 in
set_option maxRecDepth 100000 in
theorem b_X9_ofBlow_b0 {p : Program} {e : Env} {s : State} {m : MethodId} {args : Array Value} {below : List Frame} {meth : Method} {c : Code} (l : Launch) (D : va_G) (k : Nat → ClassId) (a : Nat → Nat) (A : Nat → Prop) (C0 : q_C p s m meth c args RX9 cX9_ofBlow 4 (some .int) wsX9_ofBlow D (tyL k) A) (R : Int32) : ∀ (σ : T2) (v1 : Int32) (v2 : Int32), S_X9_ofBlow_b0 σ v1 v2 → P_X9_ofBlow_b0 σ v1 v2 = R → ∀ (H : Heap) (locs : List Loc) (ls : Array Slot), q_W D A s.heap (wX9 k a σ) s.heap [] → lv_has ls 4 [(0, .ref (a 0)), (1, .int v1), (2, .int v2)] → W p l e { frames := 1, cells := 0, slots := 0, locals := 21 } s m args below meth c s.heap [] 0 0 (MQ below (vp_Si (fun r => r = R)) args s 0 0 (fun _ => False)) (F0 m 0 ls []) := by
  intro σ v1 v2 hs hR H locs ls hW hl
  rw [P_X9_ofBlow_b0_e] at hR
  rw [S_X9_ofBlow_b0_e] at hs
  obtain ⟨hx, hb, hr, hml, hts, hown, hlocks, hK, hA⟩ := id C0
  have hf10 := hts (.fieldLink RX9 10 "BeatFollower" "scene" "LBeatFollower$Scene;") (by decide +kernel)
  have hf161 := hts (.fieldLink RX9 161 "BeatFollower$Scene" "blows" "LBeatFollower$Blows;") (by decide +kernel)
  have hf171 := hts (.fieldLink RX9 171 "BeatFollower$Blows" "times" "[I") (by decide +kernel)
  have hf174 := hts (.fieldLink RX9 174 "BeatFollower$Blows" "beats" "[I") (by decide +kernel)
  have hf177 := hts (.fieldLink RX9 177 "BeatFollower$Blows" "periods" "[I") (by decide +kernel)
  have hf180 := hts (.fieldLink RX9 180 "BeatFollower$Blows" "states" "[I") (by decide +kernel)
  have hinX0 : ∀ w ∈ u_ws RX0 TX0 5, w ∈ wsX9_ofBlow := hin_X9_ofBlow_X0
  have hinX7 : ∀ w ∈ u_ws RX7 TX7 7, w ∈ wsX9_ofBlow := hin_X9_ofBlow_X7
  have hinX9 : ∀ w ∈ u_ws RX9 TX9 7, w ∈ wsX9_ofBlow := hin_X9_ofBlow_X9
  refine lv_aload_n hx hb dX9_ofBlow_0 rfl (lv_at hl 0 rfl) ?_
  refine va_get (v := .ref (a 1)) (C := RX9) (T := TX9) (N := 7) hx hb hts hinX9 hown hK hW.1 0 (q_w_get 0 (Nat.le_of_ble_eq_true rfl)) rfl 0 (by decide) hf10 (fun _ h9 => h9) rfl dX9_ofBlow_1 ?_
  refine va_get (v := .ref (a 11)) (C := RX7) (T := TX7) (N := 7) hx hb hts hinX7 hown hK hW.1 1 (q_w_get 1 (Nat.le_of_ble_eq_true rfl)) rfl 3 (by decide) hf161 (fun _ h9 => h9) rfl dX9_ofBlow_4 ?_
  refine lv_iload_n hx hb dX9_ofBlow_7 rfl (lv_at hl 1 rfl) ?_
  have hs1 := hs.1
  have hs := hs.2
  refine q_Vi (As := [.int v1]) (rest := []) (R := P_X0_has (fun j => σ (11 + j)) v1) (wX9_X0_11_is) [0, 1, 2, 3] 11 0 C0 hW (m_X0_has l D k (fun j => a (11 + j)) _ (fun j => σ (11 + j)) v1 hs1) (cwV 1 hts gX9_ofBlow_X0_has rfl rfl rfl hd_X0_has ⟨Nat.le_of_ble_eq_true rfl, Nat.le_of_ble_eq_true rfl⟩) (wX9_X0_11_nd) (wX9_X0_11_pl k a _) rfl (q_w_get 11 (Nat.le_of_ble_eq_true rfl)) rfl hl rfl rfl (Nat.le_of_ble_eq_true rfl) dX9_ofBlow_8 ⟨Nat.le_refl 0, Nat.le_refl 0⟩ ?_
  refine lv_if_ne (tgt := 16) hx hb dX9_ofBlow_11 (by decide) (fun c_2 => ?_) (fun c_2 => ?_)
  · have hs := hs.2 c_2
    rw [if_neg c_2] at hR
    refine lv_aload_n hx hb dX9_ofBlow_16 rfl (lv_at hl 0 rfl) ?_
    refine va_get (v := .ref (a 1)) (C := RX9) (T := TX9) (N := 7) hx hb hts hinX9 hown hK hW.1 0 (q_w_get 0 (Nat.le_of_ble_eq_true rfl)) rfl 0 (by decide) hf10 (fun _ h9 => h9) rfl dX9_ofBlow_17 ?_
    refine va_get (v := .ref (a 11)) (C := RX7) (T := TX7) (N := 7) hx hb hts hinX7 hown hK hW.1 1 (q_w_get 1 (Nat.le_of_ble_eq_true rfl)) rfl 3 (by decide) hf161 (fun _ h9 => h9) rfl dX9_ofBlow_20 ?_
    refine lv_iload_n hx hb dX9_ofBlow_23 rfl (lv_at hl 1 rfl) ?_
    have hs3 := hs.1
    have hs := hs.2
    refine q_Vi (As := [.int v1]) (rest := []) (R := P_X0_rowOf (fun j => σ (11 + j)) v1) (wX9_X0_11_is) [0, 1, 2, 3] 11 0 C0 hW (m_X0_rowOf l D k (fun j => a (11 + j)) _ (fun j => σ (11 + j)) v1 hs3) (cwV 1 hts gX9_ofBlow_X0_rowOf rfl rfl rfl hd_X0_rowOf ⟨Nat.le_of_ble_eq_true rfl, Nat.le_of_ble_eq_true rfl⟩) (wX9_X0_11_nd) (wX9_X0_11_pl k a _) rfl (q_w_get 11 (Nat.le_of_ble_eq_true rfl)) rfl hl rfl rfl (Nat.le_of_ble_eq_true rfl) dX9_ofBlow_24 ⟨Nat.le_refl 0, Nat.le_refl 0⟩ ?_
    refine lv_istore_n (lv' := [(3, .int (P_X0_rowOf (fun j => σ (11 + j)) v1)), (0, .ref (a 0)), (1, .int v1), (2, .int v2)]) hx hb dX9_ofBlow_27 rfl hl (by decide) rfl (fun ls hl => ?_)
    refine lv_iload_n hx hb dX9_ofBlow_28 rfl (lv_at hl 3 rfl) ?_
    by_cases c_4 : v2 = (0 : Int32)
    · have hs := hs.1 c_4
      rw [if_pos c_4] at hR
      refine lv_tableIn (off := 31) (tgt := 60) hx hb dX9_ofBlow_29 (by rw [c_4]; decide) (by rw [c_4]; decide) (by rw [c_4]; decide) (by decide) ?_
      refine lv_aload_n hx hb dX9_ofBlow_60 rfl (lv_at hl 1 rfl) ?_
      refine va_get (v := .ref (a 1)) (C := RX9) (T := TX9) (N := 7) hx hb hts hinX9 hown hK hW.1 0 (q_w_get 0 (Nat.le_of_ble_eq_true rfl)) rfl 0 (by decide) hf10 (fun _ h9 => h9) rfl dX9_ofBlow_61 ?_
      refine va_get (v := .ref (a 11)) (C := RX7) (T := TX7) (N := 7) hx hb hts hinX7 hown hK hW.1 1 (q_w_get 1 (Nat.le_of_ble_eq_true rfl)) rfl 3 (by decide) hf161 (fun _ h9 => h9) rfl dX9_ofBlow_64 ?_
      refine va_get (v := .ref (a 12)) (C := RX0) (T := TX0) (N := 5) hx hb hts hinX0 hown hK hW.1 11 (q_w_get 11 (Nat.le_of_ble_eq_true rfl)) rfl 0 (by decide) hf171 (fun _ h9 => h9) rfl dX9_ofBlow_67 ?_
      refine lv_iload_n hx hb dX9_ofBlow_70 rfl (lv_at hl 0 rfl) ?_
      have hi5 := hs.1
      have hs := hs.2
      refine q_iald (v := σ 12 ((P_X0_rowOf (fun j => σ (11 + j)) v1).toNatClampNeg)) C0 hW 12 (q_w_get 12 (Nat.le_of_ble_eq_true rfl)) rfl hi5 rfl rfl dX9_ofBlow_71 ?_
      exact q_iretr C0 hR dX9_ofBlow_72
    · have hs := hs.2 c_4
      rw [if_neg c_4] at hR
      by_cases c_6 : v2 = (1 : Int32)
      · have hs := hs.1 c_6
        rw [if_pos c_6] at hR
        refine lv_tableIn (off := 44) (tgt := 73) hx hb dX9_ofBlow_29 (by rw [c_6]; decide) (by rw [c_6]; decide) (by rw [c_6]; decide) (by decide) ?_
        refine lv_aload_n hx hb dX9_ofBlow_73 rfl (lv_at hl 1 rfl) ?_
        refine va_get (v := .ref (a 1)) (C := RX9) (T := TX9) (N := 7) hx hb hts hinX9 hown hK hW.1 0 (q_w_get 0 (Nat.le_of_ble_eq_true rfl)) rfl 0 (by decide) hf10 (fun _ h9 => h9) rfl dX9_ofBlow_74 ?_
        refine va_get (v := .ref (a 11)) (C := RX7) (T := TX7) (N := 7) hx hb hts hinX7 hown hK hW.1 1 (q_w_get 1 (Nat.le_of_ble_eq_true rfl)) rfl 3 (by decide) hf161 (fun _ h9 => h9) rfl dX9_ofBlow_77 ?_
        refine va_get (v := .ref (a 13)) (C := RX0) (T := TX0) (N := 5) hx hb hts hinX0 hown hK hW.1 11 (q_w_get 11 (Nat.le_of_ble_eq_true rfl)) rfl 1 (by decide) hf174 (fun _ h9 => h9) rfl dX9_ofBlow_80 ?_
        refine lv_iload_n hx hb dX9_ofBlow_83 rfl (lv_at hl 0 rfl) ?_
        have hi7 := hs.1
        have hs := hs.2
        refine q_iald (v := σ 13 ((P_X0_rowOf (fun j => σ (11 + j)) v1).toNatClampNeg)) C0 hW 13 (q_w_get 13 (Nat.le_of_ble_eq_true rfl)) rfl hi7 rfl rfl dX9_ofBlow_84 ?_
        exact q_iretr C0 hR dX9_ofBlow_85
      · have hs := hs.2 c_6
        rw [if_neg c_6] at hR
        by_cases c_8 : v2 = (2 : Int32)
        · have hs := hs.1 c_8
          rw [if_pos c_8] at hR
          refine lv_tableIn (off := 57) (tgt := 86) hx hb dX9_ofBlow_29 (by rw [c_8]; decide) (by rw [c_8]; decide) (by rw [c_8]; decide) (by decide) ?_
          refine lv_aload_n hx hb dX9_ofBlow_86 rfl (lv_at hl 1 rfl) ?_
          refine va_get (v := .ref (a 1)) (C := RX9) (T := TX9) (N := 7) hx hb hts hinX9 hown hK hW.1 0 (q_w_get 0 (Nat.le_of_ble_eq_true rfl)) rfl 0 (by decide) hf10 (fun _ h9 => h9) rfl dX9_ofBlow_87 ?_
          refine va_get (v := .ref (a 11)) (C := RX7) (T := TX7) (N := 7) hx hb hts hinX7 hown hK hW.1 1 (q_w_get 1 (Nat.le_of_ble_eq_true rfl)) rfl 3 (by decide) hf161 (fun _ h9 => h9) rfl dX9_ofBlow_90 ?_
          refine va_get (v := .ref (a 14)) (C := RX0) (T := TX0) (N := 5) hx hb hts hinX0 hown hK hW.1 11 (q_w_get 11 (Nat.le_of_ble_eq_true rfl)) rfl 2 (by decide) hf177 (fun _ h9 => h9) rfl dX9_ofBlow_93 ?_
          refine lv_iload_n hx hb dX9_ofBlow_96 rfl (lv_at hl 0 rfl) ?_
          have hi9 := hs.1
          have hs := hs.2
          refine q_iald (v := σ 14 ((P_X0_rowOf (fun j => σ (11 + j)) v1).toNatClampNeg)) C0 hW 14 (q_w_get 14 (Nat.le_of_ble_eq_true rfl)) rfl hi9 rfl rfl dX9_ofBlow_97 ?_
          exact q_iretr C0 hR dX9_ofBlow_98
        · have hs := hs.2 c_8
          rw [if_neg c_8] at hR
          by_cases c_10 : v2 = (3 : Int32)
          · have hs := hs.1 c_10
            rw [if_pos c_10] at hR
            refine lv_tableIn (off := 70) (tgt := 99) hx hb dX9_ofBlow_29 (by rw [c_10]; decide) (by rw [c_10]; decide) (by rw [c_10]; decide) (by decide) ?_
            refine lv_aload_n hx hb dX9_ofBlow_99 rfl (lv_at hl 1 rfl) ?_
            refine va_get (v := .ref (a 1)) (C := RX9) (T := TX9) (N := 7) hx hb hts hinX9 hown hK hW.1 0 (q_w_get 0 (Nat.le_of_ble_eq_true rfl)) rfl 0 (by decide) hf10 (fun _ h9 => h9) rfl dX9_ofBlow_100 ?_
            refine va_get (v := .ref (a 11)) (C := RX7) (T := TX7) (N := 7) hx hb hts hinX7 hown hK hW.1 1 (q_w_get 1 (Nat.le_of_ble_eq_true rfl)) rfl 3 (by decide) hf161 (fun _ h9 => h9) rfl dX9_ofBlow_103 ?_
            refine va_get (v := .ref (a 15)) (C := RX0) (T := TX0) (N := 5) hx hb hts hinX0 hown hK hW.1 11 (q_w_get 11 (Nat.le_of_ble_eq_true rfl)) rfl 3 (by decide) hf180 (fun _ h9 => h9) rfl dX9_ofBlow_106 ?_
            refine lv_iload_n hx hb dX9_ofBlow_109 rfl (lv_at hl 0 rfl) ?_
            have hi11 := hs.1
            have hs := hs.2
            refine q_iald (v := σ 15 ((P_X0_rowOf (fun j => σ (11 + j)) v1).toNatClampNeg)) C0 hW 15 (q_w_get 15 (Nat.le_of_ble_eq_true rfl)) rfl hi11 rfl rfl dX9_ofBlow_110 ?_
            exact q_iretr C0 hR dX9_ofBlow_111
          · have hs := hs.2 c_10
            rw [if_neg c_10] at hR
            refine lv_tableOut (tgt := 112) hx hb dX9_ofBlow_29 (q_out 3 (by decide) (by intro j hj; rcases (show j = 0 ∨ j = 1 ∨ j = 2 ∨ j = 3 by omega) with rfl | rfl | rfl | rfl <;> first | exact c_4 | exact c_6 | exact c_8 | exact c_10)) (by decide) ?_
            refine lv_bipush (v := (-2 : Int32)) hx hb dX9_ofBlow_112 (by decide) ?_
            exact q_iretr C0 hR dX9_ofBlow_114
  · have hs := hs.1 c_2
    rw [if_pos c_2] at hR
    refine lv_iconst (v := (-1 : Int32)) hx hb dX9_ofBlow_14 (by decide) ?_
    exact q_iretr C0 hR dX9_ofBlow_15
set_option maxHeartbeats 400000 in
set_option maxRecDepth 100000 in
theorem m_X9_ofBlow (l : Launch) (D : va_G) (k : Nat → ClassId) (a : Nat → Nat) (sz : Nat) (σ : T2) (p0 : Int32) (p1 : Int32) (hs : S_X9_ofBlow σ p0 p1) : Met l yX9_ofBlow wsX9_ofBlow { frames := 1, cells := 0, slots := 0, locals := 21 } (va_Pc [.ref (a 0), .int p0, .int p1] (q_B D (tyL k) (wX9 k a σ) sz)) (vp_Si (fun r => r = P_X9_ofBlow σ p0 p1)) 0 0 (fun _ => False) := by
  refine q_met [.ref (a 0), .int p0, .int p1] (wX9 k a σ) sz (cc := cX9_ofBlow) (maxL := 4) (ret := (some .int)) (by decide) rfl (Nat.le_of_ble_eq_true rfl) ?_
  intro p e s m args below meth c ls hsz C0 hW hl hin
  subst hsz
  exact b_X9_ofBlow_b0 l D k a _ C0 _ σ p0 p1 hs rfl s.heap [] ls hW (lv_sub hl [0, 1, 2] rfl)
theorem hin_X9_count_X0 : ∀ w ∈ u_ws RX0 TX0 5, w ∈ wsX9_count := by decide +kernel
theorem hin_X9_count_X1 : ∀ w ∈ u_ws RX1 TX1 7, w ∈ wsX9_count := by decide +kernel
theorem hin_X9_count_X3 : ∀ w ∈ u_ws RX3 TX3 3, w ∈ wsX9_count := by decide +kernel
theorem hin_X9_count_X4 : ∀ w ∈ u_ws RX4 TX4 2, w ∈ wsX9_count := by decide +kernel
theorem hin_X9_count_X5 : ∀ w ∈ u_ws RX5 TX5 3, w ∈ wsX9_count := by decide +kernel
theorem hin_X9_count_X7 : ∀ w ∈ u_ws RX7 TX7 7, w ∈ wsX9_count := by decide +kernel
theorem hin_X9_count_X8 : ∀ w ∈ u_ws RX8 TX8 10, w ∈ wsX9_count := by decide +kernel
theorem hin_X9_count_X9 : ∀ w ∈ u_ws RX9 TX9 7, w ∈ wsX9_count := by decide +kernel
theorem hd_X9_count : yX9_count.cls = RX9 ∧ yX9_count.cls ≠ "java/lang/invoke/MethodHandle" ∧ yX9_count.cls ≠ "java/lang/invoke/VarHandle" ∧ (parseMethodDescriptor yX9_count.desc).map (fun d => d.parameters.length) = some 1 := by decide +kernel
noncomputable def P_X9_count_b0 (σ : T2) (v1 : Int32) : Int32 := if (P_X9_isIn v1 (16 : Int32) (23 : Int32)) = 0 then (if v1 = (0 : Int32) then (σ 1 6) else (if v1 = (1 : Int32) then (σ 16 0) else (if v1 = (2 : Int32) then (σ 16 1) else (if v1 = (3 : Int32) then (σ 16 2) else (if v1 = (4 : Int32) then (σ 11 4) else (if v1 = (5 : Int32) then (σ 17 2) else (if v1 = (6 : Int32) then (σ 17 0) else (if v1 = (7 : Int32) then (σ 17 1) else (if v1 = (8 : Int32) then (σ 17 3) else (if v1 = (9 : Int32) then (σ 17 4) else (if v1 = (10 : Int32) then (σ 17 6) else (if v1 = (11 : Int32) then (σ 16 3) else (if v1 = (12 : Int32) then (σ 16 4) else (if v1 = (13 : Int32) then (σ 16 5) else (if v1 = (14 : Int32) then (σ 3 2) else (if v1 = (15 : Int32) then (σ 17 5) else (if v1 = (16 : Int32) then ((-2 : Int32)) else (if v1 = (17 : Int32) then ((-2 : Int32)) else (if v1 = (18 : Int32) then ((-2 : Int32)) else (if v1 = (19 : Int32) then ((-2 : Int32)) else (if v1 = (20 : Int32) then ((-2 : Int32)) else (if v1 = (21 : Int32) then ((-2 : Int32)) else (if v1 = (22 : Int32) then ((-2 : Int32)) else (if v1 = (23 : Int32) then ((-2 : Int32)) else (if v1 = (24 : Int32) then (σ 175 1) else (if v1 = (25 : Int32) then (σ 35 2) else ((-2 : Int32)))))))))))))))))))))))))))) else (σ 2 ((v1 - (16 : Int32)).toNatClampNeg))
def S_X9_count_b0 (σ : T2) (v1 : Int32) : Prop := (S_X9_isIn v1 (16 : Int32) (23 : Int32)) ∧ (((P_X9_isIn v1 (16 : Int32) (23 : Int32)) = 0 → ((v1 = (0 : Int32) → (True)) ∧ (¬ (v1 = (0 : Int32)) → ((v1 = (1 : Int32) → (True)) ∧ (¬ (v1 = (1 : Int32)) → ((v1 = (2 : Int32) → (True)) ∧ (¬ (v1 = (2 : Int32)) → ((v1 = (3 : Int32) → (True)) ∧ (¬ (v1 = (3 : Int32)) → ((v1 = (4 : Int32) → (True)) ∧ (¬ (v1 = (4 : Int32)) → ((v1 = (5 : Int32) → (True)) ∧ (¬ (v1 = (5 : Int32)) → ((v1 = (6 : Int32) → (True)) ∧ (¬ (v1 = (6 : Int32)) → ((v1 = (7 : Int32) → (True)) ∧ (¬ (v1 = (7 : Int32)) → ((v1 = (8 : Int32) → (True)) ∧ (¬ (v1 = (8 : Int32)) → ((v1 = (9 : Int32) → (True)) ∧ (¬ (v1 = (9 : Int32)) → ((v1 = (10 : Int32) → (True)) ∧ (¬ (v1 = (10 : Int32)) → ((v1 = (11 : Int32) → (True)) ∧ (¬ (v1 = (11 : Int32)) → ((v1 = (12 : Int32) → (True)) ∧ (¬ (v1 = (12 : Int32)) → ((v1 = (13 : Int32) → (True)) ∧ (¬ (v1 = (13 : Int32)) → ((v1 = (14 : Int32) → (True)) ∧ (¬ (v1 = (14 : Int32)) → ((v1 = (15 : Int32) → (True)) ∧ (¬ (v1 = (15 : Int32)) → ((v1 = (16 : Int32) → (True)) ∧ (¬ (v1 = (16 : Int32)) → ((v1 = (17 : Int32) → (True)) ∧ (¬ (v1 = (17 : Int32)) → ((v1 = (18 : Int32) → (True)) ∧ (¬ (v1 = (18 : Int32)) → ((v1 = (19 : Int32) → (True)) ∧ (¬ (v1 = (19 : Int32)) → ((v1 = (20 : Int32) → (True)) ∧ (¬ (v1 = (20 : Int32)) → ((v1 = (21 : Int32) → (True)) ∧ (¬ (v1 = (21 : Int32)) → ((v1 = (22 : Int32) → (True)) ∧ (¬ (v1 = (22 : Int32)) → ((v1 = (23 : Int32) → (True)) ∧ (¬ (v1 = (23 : Int32)) → ((v1 = (24 : Int32) → (True)) ∧ (¬ (v1 = (24 : Int32)) → ((v1 = (25 : Int32) → (True)) ∧ (¬ (v1 = (25 : Int32)) → (True)))))))))))))))))))))))))))))))))))))))))))))))))))))) ∧ (¬ ((P_X9_isIn v1 (16 : Int32) (23 : Int32)) = 0) → ((vp_in (v1 - (16 : Int32)) 8) ∧ (True))))
theorem P_X9_count_b0_e (σ : T2) (v1 : Int32) : P_X9_count_b0 σ v1 = if (P_X9_isIn v1 (16 : Int32) (23 : Int32)) = 0 then (if v1 = (0 : Int32) then (σ 1 6) else (if v1 = (1 : Int32) then (σ 16 0) else (if v1 = (2 : Int32) then (σ 16 1) else (if v1 = (3 : Int32) then (σ 16 2) else (if v1 = (4 : Int32) then (σ 11 4) else (if v1 = (5 : Int32) then (σ 17 2) else (if v1 = (6 : Int32) then (σ 17 0) else (if v1 = (7 : Int32) then (σ 17 1) else (if v1 = (8 : Int32) then (σ 17 3) else (if v1 = (9 : Int32) then (σ 17 4) else (if v1 = (10 : Int32) then (σ 17 6) else (if v1 = (11 : Int32) then (σ 16 3) else (if v1 = (12 : Int32) then (σ 16 4) else (if v1 = (13 : Int32) then (σ 16 5) else (if v1 = (14 : Int32) then (σ 3 2) else (if v1 = (15 : Int32) then (σ 17 5) else (if v1 = (16 : Int32) then ((-2 : Int32)) else (if v1 = (17 : Int32) then ((-2 : Int32)) else (if v1 = (18 : Int32) then ((-2 : Int32)) else (if v1 = (19 : Int32) then ((-2 : Int32)) else (if v1 = (20 : Int32) then ((-2 : Int32)) else (if v1 = (21 : Int32) then ((-2 : Int32)) else (if v1 = (22 : Int32) then ((-2 : Int32)) else (if v1 = (23 : Int32) then ((-2 : Int32)) else (if v1 = (24 : Int32) then (σ 175 1) else (if v1 = (25 : Int32) then (σ 35 2) else ((-2 : Int32)))))))))))))))))))))))))))) else (σ 2 ((v1 - (16 : Int32)).toNatClampNeg)) := rfl
theorem S_X9_count_b0_e (σ : T2) (v1 : Int32) : S_X9_count_b0 σ v1 = ((S_X9_isIn v1 (16 : Int32) (23 : Int32)) ∧ (((P_X9_isIn v1 (16 : Int32) (23 : Int32)) = 0 → ((v1 = (0 : Int32) → (True)) ∧ (¬ (v1 = (0 : Int32)) → ((v1 = (1 : Int32) → (True)) ∧ (¬ (v1 = (1 : Int32)) → ((v1 = (2 : Int32) → (True)) ∧ (¬ (v1 = (2 : Int32)) → ((v1 = (3 : Int32) → (True)) ∧ (¬ (v1 = (3 : Int32)) → ((v1 = (4 : Int32) → (True)) ∧ (¬ (v1 = (4 : Int32)) → ((v1 = (5 : Int32) → (True)) ∧ (¬ (v1 = (5 : Int32)) → ((v1 = (6 : Int32) → (True)) ∧ (¬ (v1 = (6 : Int32)) → ((v1 = (7 : Int32) → (True)) ∧ (¬ (v1 = (7 : Int32)) → ((v1 = (8 : Int32) → (True)) ∧ (¬ (v1 = (8 : Int32)) → ((v1 = (9 : Int32) → (True)) ∧ (¬ (v1 = (9 : Int32)) → ((v1 = (10 : Int32) → (True)) ∧ (¬ (v1 = (10 : Int32)) → ((v1 = (11 : Int32) → (True)) ∧ (¬ (v1 = (11 : Int32)) → ((v1 = (12 : Int32) → (True)) ∧ (¬ (v1 = (12 : Int32)) → ((v1 = (13 : Int32) → (True)) ∧ (¬ (v1 = (13 : Int32)) → ((v1 = (14 : Int32) → (True)) ∧ (¬ (v1 = (14 : Int32)) → ((v1 = (15 : Int32) → (True)) ∧ (¬ (v1 = (15 : Int32)) → ((v1 = (16 : Int32) → (True)) ∧ (¬ (v1 = (16 : Int32)) → ((v1 = (17 : Int32) → (True)) ∧ (¬ (v1 = (17 : Int32)) → ((v1 = (18 : Int32) → (True)) ∧ (¬ (v1 = (18 : Int32)) → ((v1 = (19 : Int32) → (True)) ∧ (¬ (v1 = (19 : Int32)) → ((v1 = (20 : Int32) → (True)) ∧ (¬ (v1 = (20 : Int32)) → ((v1 = (21 : Int32) → (True)) ∧ (¬ (v1 = (21 : Int32)) → ((v1 = (22 : Int32) → (True)) ∧ (¬ (v1 = (22 : Int32)) → ((v1 = (23 : Int32) → (True)) ∧ (¬ (v1 = (23 : Int32)) → ((v1 = (24 : Int32) → (True)) ∧ (¬ (v1 = (24 : Int32)) → ((v1 = (25 : Int32) → (True)) ∧ (¬ (v1 = (25 : Int32)) → (True)))))))))))))))))))))))))))))))))))))))))))))))))))))) ∧ (¬ ((P_X9_isIn v1 (16 : Int32) (23 : Int32)) = 0) → ((vp_in (v1 - (16 : Int32)) 8) ∧ (True))))) := rfl
noncomputable def P_X9_count (σ : T2) (p0 : Int32) : Int32 := P_X9_count_b0 σ p0
def S_X9_count (σ : T2) (p0 : Int32) : Prop := S_X9_count_b0 σ p0
set_option maxHeartbeats 400000 in
set_option maxRecDepth 100000 in
theorem b_X9_count_b0 {p : Program} {e : Env} {s : State} {m : MethodId} {args : Array Value} {below : List Frame} {meth : Method} {c : Code} (l : Launch) (D : va_G) (k : Nat → ClassId) (a : Nat → Nat) (A : Nat → Prop) (C0 : q_C p s m meth c args RX9 cX9_count 2 (some .int) wsX9_count D (tyL k) A) (R : Int32) : ∀ (σ : T2) (v1 : Int32), S_X9_count_b0 σ v1 → P_X9_count_b0 σ v1 = R → ∀ (H : Heap) (locs : List Loc) (ls : Array Slot), q_W D A s.heap (wX9 k a σ) s.heap [] → lv_has ls 2 [(0, .ref (a 0)), (1, .int v1)] → W p l e { frames := 1, cells := 0, slots := 0, locals := 22 } s m args below meth c s.heap [] 0 0 (MQ below (vp_Si (fun r => r = R)) args s 0 0 (fun _ => False)) (F0 m 0 ls []) := by
  intro σ v1 hs hR H locs ls hW hl
  rw [P_X9_count_b0_e] at hR
  rw [S_X9_count_b0_e] at hs
  obtain ⟨hx, hb, hr, hml, hts, hown, hlocks, hK, hA⟩ := id C0
  have hf10 := hts (.fieldLink RX9 10 "BeatFollower" "scene" "LBeatFollower$Scene;") (by decide +kernel)
  have hf22 := hts (.fieldLink RX9 22 "BeatFollower" "history" "LBeatFollower$History;") (by decide +kernel)
  have hf37 := hts (.fieldLink RX9 37 "BeatFollower" "pad" "LBeatFollower$Pad;") (by decide +kernel)
  have hf59 := hts (.fieldLink RX9 59 "BeatFollower$Scene" "drummer" "LBeatFollower$Drummer;") (by decide +kernel)
  have hf63 := hts (.fieldLink RX9 63 "BeatFollower$Drummer" "nextBlow" "I") (by decide +kernel)
  have hf73 := hts (.fieldLink RX9 73 "BeatFollower$Scene" "settings" "[I") (by decide +kernel)
  have hf80 := hts (.fieldLink RX9 80 "BeatFollower$Drummer" "period" "I") (by decide +kernel)
  have hf87 := hts (.fieldLink RX9 87 "BeatFollower$Scene" "plan" "LBeatFollower$Plan;") (by decide +kernel)
  have hf103 := hts (.fieldLink RX9 103 "BeatFollower$Scene" "time" "I") (by decide +kernel)
  have hf110 := hts (.fieldLink RX9 110 "BeatFollower$Plan" "many" "I") (by decide +kernel)
  have hf113 := hts (.fieldLink RX9 113 "BeatFollower$Scene" "tally" "LBeatFollower$Tally;") (by decide +kernel)
  have hf117 := hts (.fieldLink RX9 117 "BeatFollower$Tally" "heard" "I") (by decide +kernel)
  have hf161 := hts (.fieldLink RX9 161 "BeatFollower$Scene" "blows" "LBeatFollower$Blows;") (by decide +kernel)
  have hf183 := hts (.fieldLink RX9 183 "BeatFollower$Drummer" "state" "I") (by decide +kernel)
  have hf186 := hts (.fieldLink RX9 186 "BeatFollower$Blows" "many" "I") (by decide +kernel)
  have hf187 := hts (.fieldLink RX9 187 "BeatFollower$Tally" "held" "I") (by decide +kernel)
  have hf190 := hts (.fieldLink RX9 190 "BeatFollower$Tally" "passedOver" "I") (by decide +kernel)
  have hf193 := hts (.fieldLink RX9 193 "BeatFollower$Tally" "locksWon" "I") (by decide +kernel)
  have hf196 := hts (.fieldLink RX9 196 "BeatFollower$Tally" "locksLost" "I") (by decide +kernel)
  have hf199 := hts (.fieldLink RX9 199 "BeatFollower$Tally" "slipsTold" "I") (by decide +kernel)
  have hf202 := hts (.fieldLink RX9 202 "BeatFollower$Drummer" "goodInRow" "I") (by decide +kernel)
  have hf205 := hts (.fieldLink RX9 205 "BeatFollower$Drummer" "badInRow" "I") (by decide +kernel)
  have hf208 := hts (.fieldLink RX9 208 "BeatFollower$Drummer" "heldInRow" "I") (by decide +kernel)
  have hf211 := hts (.fieldLink RX9 211 "BeatFollower$Tally" "silences" "I") (by decide +kernel)
  have hf214 := hts (.fieldLink RX9 214 "BeatFollower$Pad" "length" "I") (by decide +kernel)
  have hf217 := hts (.fieldLink RX9 217 "BeatFollower$History" "many" "I") (by decide +kernel)
  have hinX0 : ∀ w ∈ u_ws RX0 TX0 5, w ∈ wsX9_count := hin_X9_count_X0
  have hinX1 : ∀ w ∈ u_ws RX1 TX1 7, w ∈ wsX9_count := hin_X9_count_X1
  have hinX3 : ∀ w ∈ u_ws RX3 TX3 3, w ∈ wsX9_count := hin_X9_count_X3
  have hinX4 : ∀ w ∈ u_ws RX4 TX4 2, w ∈ wsX9_count := hin_X9_count_X4
  have hinX5 : ∀ w ∈ u_ws RX5 TX5 3, w ∈ wsX9_count := hin_X9_count_X5
  have hinX7 : ∀ w ∈ u_ws RX7 TX7 7, w ∈ wsX9_count := hin_X9_count_X7
  have hinX8 : ∀ w ∈ u_ws RX8 TX8 10, w ∈ wsX9_count := hin_X9_count_X8
  have hinX9 : ∀ w ∈ u_ws RX9 TX9 7, w ∈ wsX9_count := hin_X9_count_X9
  refine lv_iload_n hx hb dX9_count_0 rfl (lv_at hl 1 rfl) ?_
  refine lv_bipush (v := (16 : Int32)) hx hb dX9_count_1 (by decide) ?_
  refine lv_bipush (v := (23 : Int32)) hx hb dX9_count_3 (by decide) ?_
  have hs1 := hs.1
  have hs := hs.2
  refine q_Si (As := [.int v1, .int (16 : Int32), .int (23 : Int32)]) (rest := []) (R := P_X9_isIn v1 (16 : Int32) (23 : Int32)) ⟨hx, hb, hml, hown, hts⟩ (m_X9_isIn l v1 (16 : Int32) (23 : Int32) hs1) (va_cwS 3 hts gX9_count_X9_isIn rfl rfl rfl hd_X9_isIn ⟨Nat.le_of_ble_eq_true rfl, Nat.le_of_ble_eq_true rfl⟩) hl rfl rfl (Nat.le_of_ble_eq_true rfl) dX9_count_5 ⟨Nat.le_refl 0, Nat.le_refl 0⟩ ?_
  refine lv_if_eq (tgt := 24) hx hb dX9_count_8 (by decide) (fun c_2 => ?_) (fun c_2 => ?_)
  · have hs := hs.1 c_2
    rw [if_pos c_2] at hR
    refine lv_iload_n hx hb dX9_count_24 rfl (lv_at hl 1 rfl) ?_
    by_cases c_3 : v1 = (0 : Int32)
    · have hs := hs.1 c_3
      rw [if_pos c_3] at hR
      refine lv_tableIn (off := 119) (tgt := 144) hx hb dX9_count_25 (by rw [c_3]; decide) (by rw [c_3]; decide) (by rw [c_3]; decide) (by decide) ?_
      refine lv_aload_n hx hb dX9_count_144 rfl (lv_at hl 0 rfl) ?_
      refine va_get (v := .ref (a 1)) (C := RX9) (T := TX9) (N := 7) hx hb hts hinX9 hown hK hW.1 0 (q_w_get 0 (Nat.le_of_ble_eq_true rfl)) rfl 0 (by decide) hf10 (fun _ h9 => h9) rfl dX9_count_145 ?_
      refine va_get (v := .int (σ 1 6)) (C := RX7) (T := TX7) (N := 7) hx hb hts hinX7 hown hK hW.1 1 (q_w_get 1 (Nat.le_of_ble_eq_true rfl)) rfl 6 (by decide) hf103 (fun _ h9 => h9) rfl dX9_count_148 ?_
      exact q_iretr C0 hR dX9_count_151
    · have hs := hs.2 c_3
      rw [if_neg c_3] at hR
      by_cases c_4 : v1 = (1 : Int32)
      · have hs := hs.1 c_4
        rw [if_pos c_4] at hR
        refine lv_tableIn (off := 127) (tgt := 152) hx hb dX9_count_25 (by rw [c_4]; decide) (by rw [c_4]; decide) (by rw [c_4]; decide) (by decide) ?_
        refine lv_aload_n hx hb dX9_count_152 rfl (lv_at hl 0 rfl) ?_
        refine va_get (v := .ref (a 1)) (C := RX9) (T := TX9) (N := 7) hx hb hts hinX9 hown hK hW.1 0 (q_w_get 0 (Nat.le_of_ble_eq_true rfl)) rfl 0 (by decide) hf10 (fun _ h9 => h9) rfl dX9_count_153 ?_
        refine va_get (v := .ref (a 16)) (C := RX7) (T := TX7) (N := 7) hx hb hts hinX7 hown hK hW.1 1 (q_w_get 1 (Nat.le_of_ble_eq_true rfl)) rfl 4 (by decide) hf59 (fun _ h9 => h9) rfl dX9_count_156 ?_
        refine va_get (v := .int (σ 16 0)) (C := RX1) (T := TX1) (N := 7) hx hb hts hinX1 hown hK hW.1 16 (q_w_get 16 (Nat.le_of_ble_eq_true rfl)) rfl 0 (by decide) hf183 (fun _ h9 => h9) rfl dX9_count_159 ?_
        exact q_iretr C0 hR dX9_count_162
      · have hs := hs.2 c_4
        rw [if_neg c_4] at hR
        by_cases c_5 : v1 = (2 : Int32)
        · have hs := hs.1 c_5
          rw [if_pos c_5] at hR
          refine lv_tableIn (off := 138) (tgt := 163) hx hb dX9_count_25 (by rw [c_5]; decide) (by rw [c_5]; decide) (by rw [c_5]; decide) (by decide) ?_
          refine lv_aload_n hx hb dX9_count_163 rfl (lv_at hl 0 rfl) ?_
          refine va_get (v := .ref (a 1)) (C := RX9) (T := TX9) (N := 7) hx hb hts hinX9 hown hK hW.1 0 (q_w_get 0 (Nat.le_of_ble_eq_true rfl)) rfl 0 (by decide) hf10 (fun _ h9 => h9) rfl dX9_count_164 ?_
          refine va_get (v := .ref (a 16)) (C := RX7) (T := TX7) (N := 7) hx hb hts hinX7 hown hK hW.1 1 (q_w_get 1 (Nat.le_of_ble_eq_true rfl)) rfl 4 (by decide) hf59 (fun _ h9 => h9) rfl dX9_count_167 ?_
          refine va_get (v := .int (σ 16 1)) (C := RX1) (T := TX1) (N := 7) hx hb hts hinX1 hown hK hW.1 16 (q_w_get 16 (Nat.le_of_ble_eq_true rfl)) rfl 1 (by decide) hf80 (fun _ h9 => h9) rfl dX9_count_170 ?_
          exact q_iretr C0 hR dX9_count_173
        · have hs := hs.2 c_5
          rw [if_neg c_5] at hR
          by_cases c_6 : v1 = (3 : Int32)
          · have hs := hs.1 c_6
            rw [if_pos c_6] at hR
            refine lv_tableIn (off := 149) (tgt := 174) hx hb dX9_count_25 (by rw [c_6]; decide) (by rw [c_6]; decide) (by rw [c_6]; decide) (by decide) ?_
            refine lv_aload_n hx hb dX9_count_174 rfl (lv_at hl 0 rfl) ?_
            refine va_get (v := .ref (a 1)) (C := RX9) (T := TX9) (N := 7) hx hb hts hinX9 hown hK hW.1 0 (q_w_get 0 (Nat.le_of_ble_eq_true rfl)) rfl 0 (by decide) hf10 (fun _ h9 => h9) rfl dX9_count_175 ?_
            refine va_get (v := .ref (a 16)) (C := RX7) (T := TX7) (N := 7) hx hb hts hinX7 hown hK hW.1 1 (q_w_get 1 (Nat.le_of_ble_eq_true rfl)) rfl 4 (by decide) hf59 (fun _ h9 => h9) rfl dX9_count_178 ?_
            refine va_get (v := .int (σ 16 2)) (C := RX1) (T := TX1) (N := 7) hx hb hts hinX1 hown hK hW.1 16 (q_w_get 16 (Nat.le_of_ble_eq_true rfl)) rfl 2 (by decide) hf63 (fun _ h9 => h9) rfl dX9_count_181 ?_
            exact q_iretr C0 hR dX9_count_184
          · have hs := hs.2 c_6
            rw [if_neg c_6] at hR
            by_cases c_7 : v1 = (4 : Int32)
            · have hs := hs.1 c_7
              rw [if_pos c_7] at hR
              refine lv_tableIn (off := 160) (tgt := 185) hx hb dX9_count_25 (by rw [c_7]; decide) (by rw [c_7]; decide) (by rw [c_7]; decide) (by decide) ?_
              refine lv_aload_n hx hb dX9_count_185 rfl (lv_at hl 0 rfl) ?_
              refine va_get (v := .ref (a 1)) (C := RX9) (T := TX9) (N := 7) hx hb hts hinX9 hown hK hW.1 0 (q_w_get 0 (Nat.le_of_ble_eq_true rfl)) rfl 0 (by decide) hf10 (fun _ h9 => h9) rfl dX9_count_186 ?_
              refine va_get (v := .ref (a 11)) (C := RX7) (T := TX7) (N := 7) hx hb hts hinX7 hown hK hW.1 1 (q_w_get 1 (Nat.le_of_ble_eq_true rfl)) rfl 3 (by decide) hf161 (fun _ h9 => h9) rfl dX9_count_189 ?_
              refine va_get (v := .int (σ 11 4)) (C := RX0) (T := TX0) (N := 5) hx hb hts hinX0 hown hK hW.1 11 (q_w_get 11 (Nat.le_of_ble_eq_true rfl)) rfl 4 (by decide) hf186 (fun _ h9 => h9) rfl dX9_count_192 ?_
              exact q_iretr C0 hR dX9_count_195
            · have hs := hs.2 c_7
              rw [if_neg c_7] at hR
              by_cases c_8 : v1 = (5 : Int32)
              · have hs := hs.1 c_8
                rw [if_pos c_8] at hR
                refine lv_tableIn (off := 171) (tgt := 196) hx hb dX9_count_25 (by rw [c_8]; decide) (by rw [c_8]; decide) (by rw [c_8]; decide) (by decide) ?_
                refine lv_aload_n hx hb dX9_count_196 rfl (lv_at hl 0 rfl) ?_
                refine va_get (v := .ref (a 1)) (C := RX9) (T := TX9) (N := 7) hx hb hts hinX9 hown hK hW.1 0 (q_w_get 0 (Nat.le_of_ble_eq_true rfl)) rfl 0 (by decide) hf10 (fun _ h9 => h9) rfl dX9_count_197 ?_
                refine va_get (v := .ref (a 17)) (C := RX7) (T := TX7) (N := 7) hx hb hts hinX7 hown hK hW.1 1 (q_w_get 1 (Nat.le_of_ble_eq_true rfl)) rfl 5 (by decide) hf113 (fun _ h9 => h9) rfl dX9_count_200 ?_
                refine va_get (v := .int (σ 17 2)) (C := RX8) (T := TX8) (N := 10) hx hb hts hinX8 hown hK hW.1 17 (q_w_get 17 (Nat.le_of_ble_eq_true rfl)) rfl 2 (by decide) hf187 (fun _ h9 => h9) rfl dX9_count_203 ?_
                exact q_iretr C0 hR dX9_count_206
              · have hs := hs.2 c_8
                rw [if_neg c_8] at hR
                by_cases c_9 : v1 = (6 : Int32)
                · have hs := hs.1 c_9
                  rw [if_pos c_9] at hR
                  refine lv_tableIn (off := 182) (tgt := 207) hx hb dX9_count_25 (by rw [c_9]; decide) (by rw [c_9]; decide) (by rw [c_9]; decide) (by decide) ?_
                  refine lv_aload_n hx hb dX9_count_207 rfl (lv_at hl 0 rfl) ?_
                  refine va_get (v := .ref (a 1)) (C := RX9) (T := TX9) (N := 7) hx hb hts hinX9 hown hK hW.1 0 (q_w_get 0 (Nat.le_of_ble_eq_true rfl)) rfl 0 (by decide) hf10 (fun _ h9 => h9) rfl dX9_count_208 ?_
                  refine va_get (v := .ref (a 17)) (C := RX7) (T := TX7) (N := 7) hx hb hts hinX7 hown hK hW.1 1 (q_w_get 1 (Nat.le_of_ble_eq_true rfl)) rfl 5 (by decide) hf113 (fun _ h9 => h9) rfl dX9_count_211 ?_
                  refine va_get (v := .int (σ 17 0)) (C := RX8) (T := TX8) (N := 10) hx hb hts hinX8 hown hK hW.1 17 (q_w_get 17 (Nat.le_of_ble_eq_true rfl)) rfl 0 (by decide) hf117 (fun _ h9 => h9) rfl dX9_count_214 ?_
                  exact q_iretr C0 hR dX9_count_217
                · have hs := hs.2 c_9
                  rw [if_neg c_9] at hR
                  by_cases c_10 : v1 = (7 : Int32)
                  · have hs := hs.1 c_10
                    rw [if_pos c_10] at hR
                    refine lv_tableIn (off := 193) (tgt := 218) hx hb dX9_count_25 (by rw [c_10]; decide) (by rw [c_10]; decide) (by rw [c_10]; decide) (by decide) ?_
                    refine lv_aload_n hx hb dX9_count_218 rfl (lv_at hl 0 rfl) ?_
                    refine va_get (v := .ref (a 1)) (C := RX9) (T := TX9) (N := 7) hx hb hts hinX9 hown hK hW.1 0 (q_w_get 0 (Nat.le_of_ble_eq_true rfl)) rfl 0 (by decide) hf10 (fun _ h9 => h9) rfl dX9_count_219 ?_
                    refine va_get (v := .ref (a 17)) (C := RX7) (T := TX7) (N := 7) hx hb hts hinX7 hown hK hW.1 1 (q_w_get 1 (Nat.le_of_ble_eq_true rfl)) rfl 5 (by decide) hf113 (fun _ h9 => h9) rfl dX9_count_222 ?_
                    refine va_get (v := .int (σ 17 1)) (C := RX8) (T := TX8) (N := 10) hx hb hts hinX8 hown hK hW.1 17 (q_w_get 17 (Nat.le_of_ble_eq_true rfl)) rfl 1 (by decide) hf190 (fun _ h9 => h9) rfl dX9_count_225 ?_
                    exact q_iretr C0 hR dX9_count_228
                  · have hs := hs.2 c_10
                    rw [if_neg c_10] at hR
                    by_cases c_11 : v1 = (8 : Int32)
                    · have hs := hs.1 c_11
                      rw [if_pos c_11] at hR
                      refine lv_tableIn (off := 204) (tgt := 229) hx hb dX9_count_25 (by rw [c_11]; decide) (by rw [c_11]; decide) (by rw [c_11]; decide) (by decide) ?_
                      refine lv_aload_n hx hb dX9_count_229 rfl (lv_at hl 0 rfl) ?_
                      refine va_get (v := .ref (a 1)) (C := RX9) (T := TX9) (N := 7) hx hb hts hinX9 hown hK hW.1 0 (q_w_get 0 (Nat.le_of_ble_eq_true rfl)) rfl 0 (by decide) hf10 (fun _ h9 => h9) rfl dX9_count_230 ?_
                      refine va_get (v := .ref (a 17)) (C := RX7) (T := TX7) (N := 7) hx hb hts hinX7 hown hK hW.1 1 (q_w_get 1 (Nat.le_of_ble_eq_true rfl)) rfl 5 (by decide) hf113 (fun _ h9 => h9) rfl dX9_count_233 ?_
                      refine va_get (v := .int (σ 17 3)) (C := RX8) (T := TX8) (N := 10) hx hb hts hinX8 hown hK hW.1 17 (q_w_get 17 (Nat.le_of_ble_eq_true rfl)) rfl 3 (by decide) hf193 (fun _ h9 => h9) rfl dX9_count_236 ?_
                      exact q_iretr C0 hR dX9_count_239
                    · have hs := hs.2 c_11
                      rw [if_neg c_11] at hR
                      by_cases c_12 : v1 = (9 : Int32)
                      · have hs := hs.1 c_12
                        rw [if_pos c_12] at hR
                        refine lv_tableIn (off := 215) (tgt := 240) hx hb dX9_count_25 (by rw [c_12]; decide) (by rw [c_12]; decide) (by rw [c_12]; decide) (by decide) ?_
                        refine lv_aload_n hx hb dX9_count_240 rfl (lv_at hl 0 rfl) ?_
                        refine va_get (v := .ref (a 1)) (C := RX9) (T := TX9) (N := 7) hx hb hts hinX9 hown hK hW.1 0 (q_w_get 0 (Nat.le_of_ble_eq_true rfl)) rfl 0 (by decide) hf10 (fun _ h9 => h9) rfl dX9_count_241 ?_
                        refine va_get (v := .ref (a 17)) (C := RX7) (T := TX7) (N := 7) hx hb hts hinX7 hown hK hW.1 1 (q_w_get 1 (Nat.le_of_ble_eq_true rfl)) rfl 5 (by decide) hf113 (fun _ h9 => h9) rfl dX9_count_244 ?_
                        refine va_get (v := .int (σ 17 4)) (C := RX8) (T := TX8) (N := 10) hx hb hts hinX8 hown hK hW.1 17 (q_w_get 17 (Nat.le_of_ble_eq_true rfl)) rfl 4 (by decide) hf196 (fun _ h9 => h9) rfl dX9_count_247 ?_
                        exact q_iretr C0 hR dX9_count_250
                      · have hs := hs.2 c_12
                        rw [if_neg c_12] at hR
                        by_cases c_13 : v1 = (10 : Int32)
                        · have hs := hs.1 c_13
                          rw [if_pos c_13] at hR
                          refine lv_tableIn (off := 226) (tgt := 251) hx hb dX9_count_25 (by rw [c_13]; decide) (by rw [c_13]; decide) (by rw [c_13]; decide) (by decide) ?_
                          refine lv_aload_n hx hb dX9_count_251 rfl (lv_at hl 0 rfl) ?_
                          refine va_get (v := .ref (a 1)) (C := RX9) (T := TX9) (N := 7) hx hb hts hinX9 hown hK hW.1 0 (q_w_get 0 (Nat.le_of_ble_eq_true rfl)) rfl 0 (by decide) hf10 (fun _ h9 => h9) rfl dX9_count_252 ?_
                          refine va_get (v := .ref (a 17)) (C := RX7) (T := TX7) (N := 7) hx hb hts hinX7 hown hK hW.1 1 (q_w_get 1 (Nat.le_of_ble_eq_true rfl)) rfl 5 (by decide) hf113 (fun _ h9 => h9) rfl dX9_count_255 ?_
                          refine va_get (v := .int (σ 17 6)) (C := RX8) (T := TX8) (N := 10) hx hb hts hinX8 hown hK hW.1 17 (q_w_get 17 (Nat.le_of_ble_eq_true rfl)) rfl 6 (by decide) hf199 (fun _ h9 => h9) rfl dX9_count_258 ?_
                          exact q_iretr C0 hR dX9_count_261
                        · have hs := hs.2 c_13
                          rw [if_neg c_13] at hR
                          by_cases c_14 : v1 = (11 : Int32)
                          · have hs := hs.1 c_14
                            rw [if_pos c_14] at hR
                            refine lv_tableIn (off := 237) (tgt := 262) hx hb dX9_count_25 (by rw [c_14]; decide) (by rw [c_14]; decide) (by rw [c_14]; decide) (by decide) ?_
                            refine lv_aload_n hx hb dX9_count_262 rfl (lv_at hl 0 rfl) ?_
                            refine va_get (v := .ref (a 1)) (C := RX9) (T := TX9) (N := 7) hx hb hts hinX9 hown hK hW.1 0 (q_w_get 0 (Nat.le_of_ble_eq_true rfl)) rfl 0 (by decide) hf10 (fun _ h9 => h9) rfl dX9_count_263 ?_
                            refine va_get (v := .ref (a 16)) (C := RX7) (T := TX7) (N := 7) hx hb hts hinX7 hown hK hW.1 1 (q_w_get 1 (Nat.le_of_ble_eq_true rfl)) rfl 4 (by decide) hf59 (fun _ h9 => h9) rfl dX9_count_266 ?_
                            refine va_get (v := .int (σ 16 3)) (C := RX1) (T := TX1) (N := 7) hx hb hts hinX1 hown hK hW.1 16 (q_w_get 16 (Nat.le_of_ble_eq_true rfl)) rfl 3 (by decide) hf202 (fun _ h9 => h9) rfl dX9_count_269 ?_
                            exact q_iretr C0 hR dX9_count_272
                          · have hs := hs.2 c_14
                            rw [if_neg c_14] at hR
                            by_cases c_15 : v1 = (12 : Int32)
                            · have hs := hs.1 c_15
                              rw [if_pos c_15] at hR
                              refine lv_tableIn (off := 248) (tgt := 273) hx hb dX9_count_25 (by rw [c_15]; decide) (by rw [c_15]; decide) (by rw [c_15]; decide) (by decide) ?_
                              refine lv_aload_n hx hb dX9_count_273 rfl (lv_at hl 0 rfl) ?_
                              refine va_get (v := .ref (a 1)) (C := RX9) (T := TX9) (N := 7) hx hb hts hinX9 hown hK hW.1 0 (q_w_get 0 (Nat.le_of_ble_eq_true rfl)) rfl 0 (by decide) hf10 (fun _ h9 => h9) rfl dX9_count_274 ?_
                              refine va_get (v := .ref (a 16)) (C := RX7) (T := TX7) (N := 7) hx hb hts hinX7 hown hK hW.1 1 (q_w_get 1 (Nat.le_of_ble_eq_true rfl)) rfl 4 (by decide) hf59 (fun _ h9 => h9) rfl dX9_count_277 ?_
                              refine va_get (v := .int (σ 16 4)) (C := RX1) (T := TX1) (N := 7) hx hb hts hinX1 hown hK hW.1 16 (q_w_get 16 (Nat.le_of_ble_eq_true rfl)) rfl 4 (by decide) hf205 (fun _ h9 => h9) rfl dX9_count_280 ?_
                              exact q_iretr C0 hR dX9_count_283
                            · have hs := hs.2 c_15
                              rw [if_neg c_15] at hR
                              by_cases c_16 : v1 = (13 : Int32)
                              · have hs := hs.1 c_16
                                rw [if_pos c_16] at hR
                                refine lv_tableIn (off := 259) (tgt := 284) hx hb dX9_count_25 (by rw [c_16]; decide) (by rw [c_16]; decide) (by rw [c_16]; decide) (by decide) ?_
                                refine lv_aload_n hx hb dX9_count_284 rfl (lv_at hl 0 rfl) ?_
                                refine va_get (v := .ref (a 1)) (C := RX9) (T := TX9) (N := 7) hx hb hts hinX9 hown hK hW.1 0 (q_w_get 0 (Nat.le_of_ble_eq_true rfl)) rfl 0 (by decide) hf10 (fun _ h9 => h9) rfl dX9_count_285 ?_
                                refine va_get (v := .ref (a 16)) (C := RX7) (T := TX7) (N := 7) hx hb hts hinX7 hown hK hW.1 1 (q_w_get 1 (Nat.le_of_ble_eq_true rfl)) rfl 4 (by decide) hf59 (fun _ h9 => h9) rfl dX9_count_288 ?_
                                refine va_get (v := .int (σ 16 5)) (C := RX1) (T := TX1) (N := 7) hx hb hts hinX1 hown hK hW.1 16 (q_w_get 16 (Nat.le_of_ble_eq_true rfl)) rfl 5 (by decide) hf208 (fun _ h9 => h9) rfl dX9_count_291 ?_
                                exact q_iretr C0 hR dX9_count_294
                              · have hs := hs.2 c_16
                                rw [if_neg c_16] at hR
                                by_cases c_17 : v1 = (14 : Int32)
                                · have hs := hs.1 c_17
                                  rw [if_pos c_17] at hR
                                  refine lv_tableIn (off := 270) (tgt := 295) hx hb dX9_count_25 (by rw [c_17]; decide) (by rw [c_17]; decide) (by rw [c_17]; decide) (by decide) ?_
                                  refine lv_aload_n hx hb dX9_count_295 rfl (lv_at hl 0 rfl) ?_
                                  refine va_get (v := .ref (a 1)) (C := RX9) (T := TX9) (N := 7) hx hb hts hinX9 hown hK hW.1 0 (q_w_get 0 (Nat.le_of_ble_eq_true rfl)) rfl 0 (by decide) hf10 (fun _ h9 => h9) rfl dX9_count_296 ?_
                                  refine va_get (v := .ref (a 3)) (C := RX7) (T := TX7) (N := 7) hx hb hts hinX7 hown hK hW.1 1 (q_w_get 1 (Nat.le_of_ble_eq_true rfl)) rfl 1 (by decide) hf87 (fun _ h9 => h9) rfl dX9_count_299 ?_
                                  refine va_get (v := .int (σ 3 2)) (C := RX5) (T := TX5) (N := 3) hx hb hts hinX5 hown hK hW.1 3 (q_w_get 3 (Nat.le_of_ble_eq_true rfl)) rfl 2 (by decide) hf110 (fun _ h9 => h9) rfl dX9_count_302 ?_
                                  exact q_iretr C0 hR dX9_count_305
                                · have hs := hs.2 c_17
                                  rw [if_neg c_17] at hR
                                  by_cases c_18 : v1 = (15 : Int32)
                                  · have hs := hs.1 c_18
                                    rw [if_pos c_18] at hR
                                    refine lv_tableIn (off := 281) (tgt := 306) hx hb dX9_count_25 (by rw [c_18]; decide) (by rw [c_18]; decide) (by rw [c_18]; decide) (by decide) ?_
                                    refine lv_aload_n hx hb dX9_count_306 rfl (lv_at hl 0 rfl) ?_
                                    refine va_get (v := .ref (a 1)) (C := RX9) (T := TX9) (N := 7) hx hb hts hinX9 hown hK hW.1 0 (q_w_get 0 (Nat.le_of_ble_eq_true rfl)) rfl 0 (by decide) hf10 (fun _ h9 => h9) rfl dX9_count_307 ?_
                                    refine va_get (v := .ref (a 17)) (C := RX7) (T := TX7) (N := 7) hx hb hts hinX7 hown hK hW.1 1 (q_w_get 1 (Nat.le_of_ble_eq_true rfl)) rfl 5 (by decide) hf113 (fun _ h9 => h9) rfl dX9_count_310 ?_
                                    refine va_get (v := .int (σ 17 5)) (C := RX8) (T := TX8) (N := 10) hx hb hts hinX8 hown hK hW.1 17 (q_w_get 17 (Nat.le_of_ble_eq_true rfl)) rfl 5 (by decide) hf211 (fun _ h9 => h9) rfl dX9_count_313 ?_
                                    exact q_iretr C0 hR dX9_count_316
                                  · have hs := hs.2 c_18
                                    rw [if_neg c_18] at hR
                                    by_cases c_19 : v1 = (16 : Int32)
                                    · have hs := hs.1 c_19
                                      rw [if_pos c_19] at hR
                                      refine lv_tableIn (off := 308) (tgt := 333) hx hb dX9_count_25 (by rw [c_19]; decide) (by rw [c_19]; decide) (by rw [c_19]; decide) (by decide) ?_
                                      refine lv_bipush (v := (-2 : Int32)) hx hb dX9_count_333 (by decide) ?_
                                      exact q_iretr C0 hR dX9_count_335
                                    · have hs := hs.2 c_19
                                      rw [if_neg c_19] at hR
                                      by_cases c_20 : v1 = (17 : Int32)
                                      · have hs := hs.1 c_20
                                        rw [if_pos c_20] at hR
                                        refine lv_tableIn (off := 308) (tgt := 333) hx hb dX9_count_25 (by rw [c_20]; decide) (by rw [c_20]; decide) (by rw [c_20]; decide) (by decide) ?_
                                        refine lv_bipush (v := (-2 : Int32)) hx hb dX9_count_333 (by decide) ?_
                                        exact q_iretr C0 hR dX9_count_335
                                      · have hs := hs.2 c_20
                                        rw [if_neg c_20] at hR
                                        by_cases c_21 : v1 = (18 : Int32)
                                        · have hs := hs.1 c_21
                                          rw [if_pos c_21] at hR
                                          refine lv_tableIn (off := 308) (tgt := 333) hx hb dX9_count_25 (by rw [c_21]; decide) (by rw [c_21]; decide) (by rw [c_21]; decide) (by decide) ?_
                                          refine lv_bipush (v := (-2 : Int32)) hx hb dX9_count_333 (by decide) ?_
                                          exact q_iretr C0 hR dX9_count_335
                                        · have hs := hs.2 c_21
                                          rw [if_neg c_21] at hR
                                          by_cases c_22 : v1 = (19 : Int32)
                                          · have hs := hs.1 c_22
                                            rw [if_pos c_22] at hR
                                            refine lv_tableIn (off := 308) (tgt := 333) hx hb dX9_count_25 (by rw [c_22]; decide) (by rw [c_22]; decide) (by rw [c_22]; decide) (by decide) ?_
                                            refine lv_bipush (v := (-2 : Int32)) hx hb dX9_count_333 (by decide) ?_
                                            exact q_iretr C0 hR dX9_count_335
                                          · have hs := hs.2 c_22
                                            rw [if_neg c_22] at hR
                                            by_cases c_23 : v1 = (20 : Int32)
                                            · have hs := hs.1 c_23
                                              rw [if_pos c_23] at hR
                                              refine lv_tableIn (off := 308) (tgt := 333) hx hb dX9_count_25 (by rw [c_23]; decide) (by rw [c_23]; decide) (by rw [c_23]; decide) (by decide) ?_
                                              refine lv_bipush (v := (-2 : Int32)) hx hb dX9_count_333 (by decide) ?_
                                              exact q_iretr C0 hR dX9_count_335
                                            · have hs := hs.2 c_23
                                              rw [if_neg c_23] at hR
                                              by_cases c_24 : v1 = (21 : Int32)
                                              · have hs := hs.1 c_24
                                                rw [if_pos c_24] at hR
                                                refine lv_tableIn (off := 308) (tgt := 333) hx hb dX9_count_25 (by rw [c_24]; decide) (by rw [c_24]; decide) (by rw [c_24]; decide) (by decide) ?_
                                                refine lv_bipush (v := (-2 : Int32)) hx hb dX9_count_333 (by decide) ?_
                                                exact q_iretr C0 hR dX9_count_335
                                              · have hs := hs.2 c_24
                                                rw [if_neg c_24] at hR
                                                by_cases c_25 : v1 = (22 : Int32)
                                                · have hs := hs.1 c_25
                                                  rw [if_pos c_25] at hR
                                                  refine lv_tableIn (off := 308) (tgt := 333) hx hb dX9_count_25 (by rw [c_25]; decide) (by rw [c_25]; decide) (by rw [c_25]; decide) (by decide) ?_
                                                  refine lv_bipush (v := (-2 : Int32)) hx hb dX9_count_333 (by decide) ?_
                                                  exact q_iretr C0 hR dX9_count_335
                                                · have hs := hs.2 c_25
                                                  rw [if_neg c_25] at hR
                                                  by_cases c_26 : v1 = (23 : Int32)
                                                  · have hs := hs.1 c_26
                                                    rw [if_pos c_26] at hR
                                                    refine lv_tableIn (off := 308) (tgt := 333) hx hb dX9_count_25 (by rw [c_26]; decide) (by rw [c_26]; decide) (by rw [c_26]; decide) (by decide) ?_
                                                    refine lv_bipush (v := (-2 : Int32)) hx hb dX9_count_333 (by decide) ?_
                                                    exact q_iretr C0 hR dX9_count_335
                                                  · have hs := hs.2 c_26
                                                    rw [if_neg c_26] at hR
                                                    by_cases c_27 : v1 = (24 : Int32)
                                                    · have hs := hs.1 c_27
                                                      rw [if_pos c_27] at hR
                                                      refine lv_tableIn (off := 292) (tgt := 317) hx hb dX9_count_25 (by rw [c_27]; decide) (by rw [c_27]; decide) (by rw [c_27]; decide) (by decide) ?_
                                                      refine lv_aload_n hx hb dX9_count_317 rfl (lv_at hl 0 rfl) ?_
                                                      refine va_get (v := .ref (a 175)) (C := RX9) (T := TX9) (N := 7) hx hb hts hinX9 hown hK hW.1 0 (q_w_get 0 (Nat.le_of_ble_eq_true rfl)) rfl 5 (by decide) hf37 (fun _ h9 => h9) rfl dX9_count_318 ?_
                                                      refine va_get (v := .int (σ 175 1)) (C := RX4) (T := TX4) (N := 2) hx hb hts hinX4 hown hK hW.1 175 (q_w_get 175 (Nat.le_of_ble_eq_true rfl)) rfl 1 (by decide) hf214 (fun _ h9 => h9) rfl dX9_count_321 ?_
                                                      exact q_iretr C0 hR dX9_count_324
                                                    · have hs := hs.2 c_27
                                                      rw [if_neg c_27] at hR
                                                      by_cases c_28 : v1 = (25 : Int32)
                                                      · have hs := hs.1 c_28
                                                        rw [if_pos c_28] at hR
                                                        refine lv_tableIn (off := 300) (tgt := 325) hx hb dX9_count_25 (by rw [c_28]; decide) (by rw [c_28]; decide) (by rw [c_28]; decide) (by decide) ?_
                                                        refine lv_aload_n hx hb dX9_count_325 rfl (lv_at hl 0 rfl) ?_
                                                        refine va_get (v := .ref (a 35)) (C := RX9) (T := TX9) (N := 7) hx hb hts hinX9 hown hK hW.1 0 (q_w_get 0 (Nat.le_of_ble_eq_true rfl)) rfl 2 (by decide) hf22 (fun _ h9 => h9) rfl dX9_count_326 ?_
                                                        refine va_get (v := .int (σ 35 2)) (C := RX3) (T := TX3) (N := 3) hx hb hts hinX3 hown hK hW.1 35 (q_w_get 35 (Nat.le_of_ble_eq_true rfl)) rfl 2 (by decide) hf217 (fun _ h9 => h9) rfl dX9_count_329 ?_
                                                        exact q_iretr C0 hR dX9_count_332
                                                      · have hs := hs.2 c_28
                                                        rw [if_neg c_28] at hR
                                                        refine lv_tableOut (tgt := 333) hx hb dX9_count_25 (q_out 25 (by decide) (by intro j hj; rcases (show j = 0 ∨ j = 1 ∨ j = 2 ∨ j = 3 ∨ j = 4 ∨ j = 5 ∨ j = 6 ∨ j = 7 ∨ j = 8 ∨ j = 9 ∨ j = 10 ∨ j = 11 ∨ j = 12 ∨ j = 13 ∨ j = 14 ∨ j = 15 ∨ j = 16 ∨ j = 17 ∨ j = 18 ∨ j = 19 ∨ j = 20 ∨ j = 21 ∨ j = 22 ∨ j = 23 ∨ j = 24 ∨ j = 25 by omega) with rfl | rfl | rfl | rfl | rfl | rfl | rfl | rfl | rfl | rfl | rfl | rfl | rfl | rfl | rfl | rfl | rfl | rfl | rfl | rfl | rfl | rfl | rfl | rfl | rfl | rfl <;> first | exact c_3 | exact c_4 | exact c_5 | exact c_6 | exact c_7 | exact c_8 | exact c_9 | exact c_10 | exact c_11 | exact c_12 | exact c_13 | exact c_14 | exact c_15 | exact c_16 | exact c_17 | exact c_18 | exact c_19 | exact c_20 | exact c_21 | exact c_22 | exact c_23 | exact c_24 | exact c_25 | exact c_26 | exact c_27 | exact c_28)) (by decide) ?_
                                                        refine lv_bipush (v := (-2 : Int32)) hx hb dX9_count_333 (by decide) ?_
                                                        exact q_iretr C0 hR dX9_count_335
  · have hs := hs.2 c_2
    rw [if_neg c_2] at hR
    refine lv_aload_n hx hb dX9_count_11 rfl (lv_at hl 0 rfl) ?_
    refine va_get (v := .ref (a 1)) (C := RX9) (T := TX9) (N := 7) hx hb hts hinX9 hown hK hW.1 0 (q_w_get 0 (Nat.le_of_ble_eq_true rfl)) rfl 0 (by decide) hf10 (fun _ h9 => h9) rfl dX9_count_12 ?_
    refine va_get (v := .ref (a 2)) (C := RX7) (T := TX7) (N := 7) hx hb hts hinX7 hown hK hW.1 1 (q_w_get 1 (Nat.le_of_ble_eq_true rfl)) rfl 0 (by decide) hf73 (fun _ h9 => h9) rfl dX9_count_15 ?_
    refine lv_iload_n hx hb dX9_count_18 rfl (lv_at hl 1 rfl) ?_
    refine lv_bipush (v := (16 : Int32)) hx hb dX9_count_19 (by decide) ?_
    refine lv_isub hx hb dX9_count_21 ?_
    have hi29 := hs.1
    have hs := hs.2
    refine q_iald (v := σ 2 ((v1 - (16 : Int32)).toNatClampNeg)) C0 hW 2 (q_w_get 2 (Nat.le_of_ble_eq_true rfl)) rfl hi29 rfl rfl dX9_count_22 ?_
    exact q_iretr C0 hR dX9_count_23
set_option maxHeartbeats 400000 in
set_option maxRecDepth 100000 in
theorem m_X9_count (l : Launch) (D : va_G) (k : Nat → ClassId) (a : Nat → Nat) (sz : Nat) (σ : T2) (p0 : Int32) (hs : S_X9_count σ p0) : Met l yX9_count wsX9_count { frames := 1, cells := 0, slots := 0, locals := 22 } (va_Pc [.ref (a 0), .int p0] (q_B D (tyL k) (wX9 k a σ) sz)) (vp_Si (fun r => r = P_X9_count σ p0)) 0 0 (fun _ => False) := by
  refine q_met [.ref (a 0), .int p0] (wX9 k a σ) sz (cc := cX9_count) (maxL := 2) (ret := (some .int)) (by decide) rfl (Nat.le_of_ble_eq_true rfl) ?_
  intro p e s m args below meth c ls hsz C0 hW hl hin
  subst hsz
  exact b_X9_count_b0 l D k a _ C0 _ σ p0 hs rfl s.heap [] ls hW (lv_sub hl [0, 1] rfl)
theorem hin_X9_slips_X7 : ∀ w ∈ u_ws RX7 TX7 7, w ∈ wsX9_slips := by decide +kernel
theorem hin_X9_slips_X8 : ∀ w ∈ u_ws RX8 TX8 10, w ∈ wsX9_slips := by decide +kernel
theorem hin_X9_slips_X9 : ∀ w ∈ u_ws RX9 TX9 7, w ∈ wsX9_slips := by decide +kernel
theorem hd_X9_slips : yX9_slips.cls = RX9 ∧ yX9_slips.cls ≠ "java/lang/invoke/MethodHandle" ∧ yX9_slips.cls ≠ "java/lang/invoke/VarHandle" ∧ (parseMethodDescriptor yX9_slips.desc).map (fun d => d.parameters.length) = some 0 := by decide +kernel
noncomputable def P_X9_slips_b0 (σ : T2) : Int32 := (100000 : Int32) + (σ 17 7)
def S_X9_slips_b0 (σ : T2) : Prop := True
theorem P_X9_slips_b0_e (σ : T2) : P_X9_slips_b0 σ = (100000 : Int32) + (σ 17 7) := rfl
theorem S_X9_slips_b0_e (σ : T2) : S_X9_slips_b0 σ = (True) := rfl
noncomputable def P_X9_slips (σ : T2) : Int32 := P_X9_slips_b0 σ
def S_X9_slips (σ : T2) : Prop := S_X9_slips_b0 σ
set_option maxHeartbeats 400000 in
set_option maxRecDepth 100000 in
theorem b_X9_slips_b0 {p : Program} {e : Env} {s : State} {m : MethodId} {args : Array Value} {below : List Frame} {meth : Method} {c : Code} (l : Launch) (D : va_G) (k : Nat → ClassId) (a : Nat → Nat) (A : Nat → Prop) (C0 : q_C p s m meth c args RX9 cX9_slips 1 (some .int) wsX9_slips D (tyL k) A) (R : Int32) : ∀ (σ : T2), S_X9_slips_b0 σ → P_X9_slips_b0 σ = R → ∀ (H : Heap) (locs : List Loc) (ls : Array Slot), q_W D A s.heap (wX9 k a σ) s.heap [] → lv_has ls 1 [(0, .ref (a 0))] → W p l e { frames := 0, cells := 0, slots := 0, locals := 0 } s m args below meth c s.heap [] 0 0 (MQ below (vp_Si (fun r => r = R)) args s 0 0 (fun _ => False)) (F0 m 0 ls []) := by
  intro σ hs hR H locs ls hW hl
  rw [P_X9_slips_b0_e] at hR
  rw [S_X9_slips_b0_e] at hs
  obtain ⟨hx, hb, hr, hml, hts, hown, hlocks, hK, hA⟩ := id C0
  have hf10 := hts (.fieldLink RX9 10 "BeatFollower" "scene" "LBeatFollower$Scene;") (by decide +kernel)
  have hf113 := hts (.fieldLink RX9 113 "BeatFollower$Scene" "tally" "LBeatFollower$Tally;") (by decide +kernel)
  have hf219 := hts (.fieldLink RX9 219 "BeatFollower$Tally" "slipSum" "I") (by decide +kernel)
  have hinX7 : ∀ w ∈ u_ws RX7 TX7 7, w ∈ wsX9_slips := hin_X9_slips_X7
  have hinX8 : ∀ w ∈ u_ws RX8 TX8 10, w ∈ wsX9_slips := hin_X9_slips_X8
  have hinX9 : ∀ w ∈ u_ws RX9 TX9 7, w ∈ wsX9_slips := hin_X9_slips_X9
  refine lv_ldc (v := (100000 : Int32)) hx hb hown (hts (.constant RX9 218 (100000 : Int32)) (by decide +kernel)) dX9_slips_0 ?_
  refine lv_aload_n hx hb dX9_slips_2 rfl (lv_at hl 0 rfl) ?_
  refine va_get (v := .ref (a 1)) (C := RX9) (T := TX9) (N := 7) hx hb hts hinX9 hown hK hW.1 0 (q_w_get 0 (Nat.le_of_ble_eq_true rfl)) rfl 0 (by decide) hf10 (fun _ h9 => h9) rfl dX9_slips_3 ?_
  refine va_get (v := .ref (a 17)) (C := RX7) (T := TX7) (N := 7) hx hb hts hinX7 hown hK hW.1 1 (q_w_get 1 (Nat.le_of_ble_eq_true rfl)) rfl 5 (by decide) hf113 (fun _ h9 => h9) rfl dX9_slips_6 ?_
  refine va_get (v := .int (σ 17 7)) (C := RX8) (T := TX8) (N := 10) hx hb hts hinX8 hown hK hW.1 17 (q_w_get 17 (Nat.le_of_ble_eq_true rfl)) rfl 7 (by decide) hf219 (fun _ h9 => h9) rfl dX9_slips_9 ?_
  refine lv_iadd hx hb dX9_slips_12 ?_
  exact q_iretr C0 hR dX9_slips_13
set_option maxHeartbeats 400000 in
set_option maxRecDepth 100000 in
theorem m_X9_slips (l : Launch) (D : va_G) (k : Nat → ClassId) (a : Nat → Nat) (sz : Nat) (σ : T2) (hs : S_X9_slips σ) : Met l yX9_slips wsX9_slips { frames := 0, cells := 0, slots := 0, locals := 0 } (va_Pc [.ref (a 0)] (q_B D (tyL k) (wX9 k a σ) sz)) (vp_Si (fun r => r = P_X9_slips σ)) 0 0 (fun _ => False) := by
  refine q_met [.ref (a 0)] (wX9 k a σ) sz (cc := cX9_slips) (maxL := 1) (ret := (some .int)) (by decide) rfl (Nat.le_of_ble_eq_true rfl) ?_
  intro p e s m args below meth c ls hsz C0 hW hl hin
  subst hsz
  exact b_X9_slips_b0 l D k a _ C0 _ σ  hs rfl s.heap [] ls hW (lv_sub hl [0] rfl)
theorem hin_X9_nextBlow_X1 : ∀ w ∈ u_ws RX1 TX1 7, w ∈ wsX9_nextBlow := by decide +kernel
theorem hin_X9_nextBlow_X7 : ∀ w ∈ u_ws RX7 TX7 7, w ∈ wsX9_nextBlow := by decide +kernel
theorem hin_X9_nextBlow_X9 : ∀ w ∈ u_ws RX9 TX9 7, w ∈ wsX9_nextBlow := by decide +kernel
theorem hd_X9_nextBlow : yX9_nextBlow.cls = RX9 ∧ yX9_nextBlow.cls ≠ "java/lang/invoke/MethodHandle" ∧ yX9_nextBlow.cls ≠ "java/lang/invoke/VarHandle" ∧ (parseMethodDescriptor yX9_nextBlow.desc).map (fun d => d.parameters.length) = some 1 := by decide +kernel
noncomputable def P_X9_nextBlow_b63 (σ : T2) (v3 : Int32) : Int32 := (σ 16 2) + (v3 * (σ 16 1))
def S_X9_nextBlow_b63 (σ : T2) (v3 : Int32) : Prop := True
theorem P_X9_nextBlow_b63_e (σ : T2) (v3 : Int32) : P_X9_nextBlow_b63 σ v3 = (σ 16 2) + (v3 * (σ 16 1)) := rfl
theorem S_X9_nextBlow_b63_e (σ : T2) (v3 : Int32) : S_X9_nextBlow_b63 σ v3 = (True) := rfl
noncomputable def P_X9_nextBlow_b0 (σ : T2) (v1 : Int32) : Int32 := if (P_X9_isIn v1 (1 : Int32) (20 : Int32)) = 0 then ((-2 : Int32)) else (if (σ 16 2) = (-6 : Int32) then ((-6 : Int32)) else (if (v1 - (1 : Int32)) ≤ 0 then (P_X9_nextBlow_b63 σ (v1 - (1 : Int32))) else (if ((σ 16 5) + (v1 - (1 : Int32))) < (σ 2 7) then (P_X9_nextBlow_b63 σ (v1 - (1 : Int32))) else ((-6 : Int32)))))
def S_X9_nextBlow_b0 (σ : T2) (v1 : Int32) : Prop := (S_X9_isIn v1 (1 : Int32) (20 : Int32)) ∧ (((P_X9_isIn v1 (1 : Int32) (20 : Int32)) = 0 → (True)) ∧ (¬ ((P_X9_isIn v1 (1 : Int32) (20 : Int32)) = 0) → (((σ 16 2) = (-6 : Int32) → (True)) ∧ (¬ ((σ 16 2) = (-6 : Int32)) → (((v1 - (1 : Int32)) ≤ 0 → (S_X9_nextBlow_b63 σ (v1 - (1 : Int32)))) ∧ (¬ ((v1 - (1 : Int32)) ≤ 0) → ((((σ 16 5) + (v1 - (1 : Int32))) < (σ 2 7) → (S_X9_nextBlow_b63 σ (v1 - (1 : Int32)))) ∧ (¬ (((σ 16 5) + (v1 - (1 : Int32))) < (σ 2 7)) → (True)))))))))
theorem P_X9_nextBlow_b0_e (σ : T2) (v1 : Int32) : P_X9_nextBlow_b0 σ v1 = if (P_X9_isIn v1 (1 : Int32) (20 : Int32)) = 0 then ((-2 : Int32)) else (if (σ 16 2) = (-6 : Int32) then ((-6 : Int32)) else (if (v1 - (1 : Int32)) ≤ 0 then (P_X9_nextBlow_b63 σ (v1 - (1 : Int32))) else (if ((σ 16 5) + (v1 - (1 : Int32))) < (σ 2 7) then (P_X9_nextBlow_b63 σ (v1 - (1 : Int32))) else ((-6 : Int32))))) := rfl
theorem S_X9_nextBlow_b0_e (σ : T2) (v1 : Int32) : S_X9_nextBlow_b0 σ v1 = ((S_X9_isIn v1 (1 : Int32) (20 : Int32)) ∧ (((P_X9_isIn v1 (1 : Int32) (20 : Int32)) = 0 → (True)) ∧ (¬ ((P_X9_isIn v1 (1 : Int32) (20 : Int32)) = 0) → (((σ 16 2) = (-6 : Int32) → (True)) ∧ (¬ ((σ 16 2) = (-6 : Int32)) → (((v1 - (1 : Int32)) ≤ 0 → (S_X9_nextBlow_b63 σ (v1 - (1 : Int32)))) ∧ (¬ ((v1 - (1 : Int32)) ≤ 0) → ((((σ 16 5) + (v1 - (1 : Int32))) < (σ 2 7) → (S_X9_nextBlow_b63 σ (v1 - (1 : Int32)))) ∧ (¬ (((σ 16 5) + (v1 - (1 : Int32))) < (σ 2 7)) → (True)))))))))) := rfl
noncomputable def P_X9_nextBlow (σ : T2) (p0 : Int32) : Int32 := P_X9_nextBlow_b0 σ p0
def S_X9_nextBlow (σ : T2) (p0 : Int32) : Prop := S_X9_nextBlow_b0 σ p0
set_option maxHeartbeats 400000 in
set_option maxRecDepth 100000 in
theorem b_X9_nextBlow_b63 {p : Program} {e : Env} {s : State} {m : MethodId} {args : Array Value} {below : List Frame} {meth : Method} {c : Code} (l : Launch) (D : va_G) (k : Nat → ClassId) (a : Nat → Nat) (A : Nat → Prop) (C0 : q_C p s m meth c args RX9 cX9_nextBlow 4 (some .int) wsX9_nextBlow D (tyL k) A) (R : Int32) : ∀ (σ : T2) (v3 : Int32), S_X9_nextBlow_b63 σ v3 → P_X9_nextBlow_b63 σ v3 = R → ∀ (H : Heap) (locs : List Loc) (ls : Array Slot), q_W D A s.heap (wX9 k a σ) s.heap [] → lv_has ls 4 [(2, .ref (a 16)), (3, .int v3)] → W p l e { frames := 1, cells := 0, slots := 0, locals := 22 } s m args below meth c s.heap [] 0 0 (MQ below (vp_Si (fun r => r = R)) args s 0 0 (fun _ => False)) (F0 m 63 ls []) := by
  intro σ v3 hs hR H locs ls hW hl
  rw [P_X9_nextBlow_b63_e] at hR
  rw [S_X9_nextBlow_b63_e] at hs
  obtain ⟨hx, hb, hr, hml, hts, hown, hlocks, hK, hA⟩ := id C0
  have hf63 := hts (.fieldLink RX9 63 "BeatFollower$Drummer" "nextBlow" "I") (by decide +kernel)
  have hf80 := hts (.fieldLink RX9 80 "BeatFollower$Drummer" "period" "I") (by decide +kernel)
  have hinX1 : ∀ w ∈ u_ws RX1 TX1 7, w ∈ wsX9_nextBlow := hin_X9_nextBlow_X1
  refine lv_aload_n hx hb dX9_nextBlow_63 rfl (lv_at hl 0 rfl) ?_
  refine va_get (v := .int (σ 16 2)) (C := RX1) (T := TX1) (N := 7) hx hb hts hinX1 hown hK hW.1 16 (q_w_get 16 (Nat.le_of_ble_eq_true rfl)) rfl 2 (by decide) hf63 (fun _ h9 => h9) rfl dX9_nextBlow_64 ?_
  refine lv_iload_n hx hb dX9_nextBlow_67 rfl (lv_at hl 1 rfl) ?_
  refine lv_aload_n hx hb dX9_nextBlow_68 rfl (lv_at hl 0 rfl) ?_
  refine va_get (v := .int (σ 16 1)) (C := RX1) (T := TX1) (N := 7) hx hb hts hinX1 hown hK hW.1 16 (q_w_get 16 (Nat.le_of_ble_eq_true rfl)) rfl 1 (by decide) hf80 (fun _ h9 => h9) rfl dX9_nextBlow_69 ?_
  refine lv_imul hx hb dX9_nextBlow_72 ?_
  refine lv_iadd hx hb dX9_nextBlow_73 ?_
  exact q_iretr C0 hR dX9_nextBlow_74
set_option maxHeartbeats 400000 in
set_option maxRecDepth 100000 in
theorem b_X9_nextBlow_b0 {p : Program} {e : Env} {s : State} {m : MethodId} {args : Array Value} {below : List Frame} {meth : Method} {c : Code} (l : Launch) (D : va_G) (k : Nat → ClassId) (a : Nat → Nat) (A : Nat → Prop) (C0 : q_C p s m meth c args RX9 cX9_nextBlow 4 (some .int) wsX9_nextBlow D (tyL k) A) (R : Int32) : ∀ (σ : T2) (v1 : Int32), S_X9_nextBlow_b0 σ v1 → P_X9_nextBlow_b0 σ v1 = R → ∀ (H : Heap) (locs : List Loc) (ls : Array Slot), q_W D A s.heap (wX9 k a σ) s.heap [] → lv_has ls 4 [(0, .ref (a 0)), (1, .int v1)] → W p l e { frames := 1, cells := 0, slots := 0, locals := 22 } s m args below meth c s.heap [] 0 0 (MQ below (vp_Si (fun r => r = R)) args s 0 0 (fun _ => False)) (F0 m 0 ls []) := by
  intro σ v1 hs hR H locs ls hW hl
  rw [P_X9_nextBlow_b0_e] at hR
  rw [S_X9_nextBlow_b0_e] at hs
  obtain ⟨hx, hb, hr, hml, hts, hown, hlocks, hK, hA⟩ := id C0
  have hf10 := hts (.fieldLink RX9 10 "BeatFollower" "scene" "LBeatFollower$Scene;") (by decide +kernel)
  have hf59 := hts (.fieldLink RX9 59 "BeatFollower$Scene" "drummer" "LBeatFollower$Drummer;") (by decide +kernel)
  have hf63 := hts (.fieldLink RX9 63 "BeatFollower$Drummer" "nextBlow" "I") (by decide +kernel)
  have hf73 := hts (.fieldLink RX9 73 "BeatFollower$Scene" "settings" "[I") (by decide +kernel)
  have hf208 := hts (.fieldLink RX9 208 "BeatFollower$Drummer" "heldInRow" "I") (by decide +kernel)
  have hinX1 : ∀ w ∈ u_ws RX1 TX1 7, w ∈ wsX9_nextBlow := hin_X9_nextBlow_X1
  have hinX7 : ∀ w ∈ u_ws RX7 TX7 7, w ∈ wsX9_nextBlow := hin_X9_nextBlow_X7
  have hinX9 : ∀ w ∈ u_ws RX9 TX9 7, w ∈ wsX9_nextBlow := hin_X9_nextBlow_X9
  refine lv_iload_n hx hb dX9_nextBlow_0 rfl (lv_at hl 1 rfl) ?_
  refine lv_iconst (v := (1 : Int32)) hx hb dX9_nextBlow_1 (by decide) ?_
  refine lv_bipush (v := (20 : Int32)) hx hb dX9_nextBlow_2 (by decide) ?_
  have hs1 := hs.1
  have hs := hs.2
  refine q_Si (As := [.int v1, .int (1 : Int32), .int (20 : Int32)]) (rest := []) (R := P_X9_isIn v1 (1 : Int32) (20 : Int32)) ⟨hx, hb, hml, hown, hts⟩ (m_X9_isIn l v1 (1 : Int32) (20 : Int32) hs1) (va_cwS 3 hts gX9_nextBlow_X9_isIn rfl rfl rfl hd_X9_isIn ⟨Nat.le_of_ble_eq_true rfl, Nat.le_of_ble_eq_true rfl⟩) hl rfl rfl (Nat.le_of_ble_eq_true rfl) dX9_nextBlow_4 ⟨Nat.le_refl 0, Nat.le_refl 0⟩ ?_
  refine lv_if_ne (tgt := 13) hx hb dX9_nextBlow_7 (by decide) (fun c_2 => ?_) (fun c_2 => ?_)
  · have hs := hs.2 c_2
    rw [if_neg c_2] at hR
    refine lv_aload_n hx hb dX9_nextBlow_13 rfl (lv_at hl 0 rfl) ?_
    refine va_get (v := .ref (a 1)) (C := RX9) (T := TX9) (N := 7) hx hb hts hinX9 hown hK hW.1 0 (q_w_get 0 (Nat.le_of_ble_eq_true rfl)) rfl 0 (by decide) hf10 (fun _ h9 => h9) rfl dX9_nextBlow_14 ?_
    refine va_get (v := .ref (a 16)) (C := RX7) (T := TX7) (N := 7) hx hb hts hinX7 hown hK hW.1 1 (q_w_get 1 (Nat.le_of_ble_eq_true rfl)) rfl 4 (by decide) hf59 (fun _ h9 => h9) rfl dX9_nextBlow_17 ?_
    refine lv_astore_n (lv' := [(2, .ref (a 16)), (0, .ref (a 0)), (1, .int v1)]) hx hb dX9_nextBlow_20 rfl hl (by decide) rfl (fun ls hl => ?_)
    refine lv_aload_n hx hb dX9_nextBlow_21 rfl (lv_at hl 0 rfl) ?_
    refine va_get (v := .int (σ 16 2)) (C := RX1) (T := TX1) (N := 7) hx hb hts hinX1 hown hK hW.1 16 (q_w_get 16 (Nat.le_of_ble_eq_true rfl)) rfl 2 (by decide) hf63 (fun _ h9 => h9) rfl dX9_nextBlow_22 ?_
    refine lv_bipush (v := (-6 : Int32)) hx hb dX9_nextBlow_25 (by decide) ?_
    refine lv_icmp_ne (tgt := 33) hx hb dX9_nextBlow_27 (by decide) (fun c_3 => ?_) (fun c_3 => ?_)
    · have hs := hs.2 c_3
      rw [if_neg c_3] at hR
      refine lv_iload_n hx hb dX9_nextBlow_33 rfl (lv_at hl 2 rfl) ?_
      refine lv_iconst (v := (1 : Int32)) hx hb dX9_nextBlow_34 (by decide) ?_
      refine lv_isub hx hb dX9_nextBlow_35 ?_
      refine lv_istore_n (lv' := [(3, .int (v1 - (1 : Int32))), (2, .ref (a 16)), (0, .ref (a 0)), (1, .int v1)]) hx hb dX9_nextBlow_36 rfl hl (by decide) rfl (fun ls hl => ?_)
      refine lv_iload_n hx hb dX9_nextBlow_37 rfl (lv_at hl 0 rfl) ?_
      refine lv_if_le (tgt := 63) hx hb dX9_nextBlow_38 (by decide) (fun c_4 => ?_) (fun c_4 => ?_)
      · have hs := hs.1 c_4
        rw [if_pos c_4] at hR
        exact b_X9_nextBlow_b63 l D k a A C0 R σ (v1 - (1 : Int32)) hs hR H locs ls hW (lv_sub hl [1, 0] rfl)
      · have hs := hs.2 c_4
        rw [if_neg c_4] at hR
        refine lv_aload_n hx hb dX9_nextBlow_41 rfl (lv_at hl 1 rfl) ?_
        refine va_get (v := .int (σ 16 5)) (C := RX1) (T := TX1) (N := 7) hx hb hts hinX1 hown hK hW.1 16 (q_w_get 16 (Nat.le_of_ble_eq_true rfl)) rfl 5 (by decide) hf208 (fun _ h9 => h9) rfl dX9_nextBlow_42 ?_
        refine lv_iload_n hx hb dX9_nextBlow_45 rfl (lv_at hl 0 rfl) ?_
        refine lv_iadd hx hb dX9_nextBlow_46 ?_
        refine lv_aload_n hx hb dX9_nextBlow_47 rfl (lv_at hl 2 rfl) ?_
        refine va_get (v := .ref (a 1)) (C := RX9) (T := TX9) (N := 7) hx hb hts hinX9 hown hK hW.1 0 (q_w_get 0 (Nat.le_of_ble_eq_true rfl)) rfl 0 (by decide) hf10 (fun _ h9 => h9) rfl dX9_nextBlow_48 ?_
        refine va_get (v := .ref (a 2)) (C := RX7) (T := TX7) (N := 7) hx hb hts hinX7 hown hK hW.1 1 (q_w_get 1 (Nat.le_of_ble_eq_true rfl)) rfl 0 (by decide) hf73 (fun _ h9 => h9) rfl dX9_nextBlow_51 ?_
        refine lv_bipush (v := (7 : Int32)) hx hb dX9_nextBlow_54 (by decide) ?_
        refine q_iald (v := σ 2 7) C0 hW 2 (q_w_get 2 (Nat.le_of_ble_eq_true rfl)) rfl vi_7_8 cl_7 rfl dX9_nextBlow_56 ?_
        refine lv_icmp_lt (tgt := 63) hx hb dX9_nextBlow_57 (by decide) (fun c_5 => ?_) (fun c_5 => ?_)
        · have hs := hs.1 c_5
          rw [if_pos c_5] at hR
          exact b_X9_nextBlow_b63 l D k a A C0 R σ (v1 - (1 : Int32)) hs hR H locs ls hW (lv_sub hl [1, 0] rfl)
        · have hs := hs.2 c_5
          rw [if_neg c_5] at hR
          refine lv_bipush (v := (-6 : Int32)) hx hb dX9_nextBlow_60 (by decide) ?_
          exact q_iretr C0 hR dX9_nextBlow_62
    · have hs := hs.1 c_3
      rw [if_pos c_3] at hR
      refine lv_bipush (v := (-6 : Int32)) hx hb dX9_nextBlow_30 (by decide) ?_
      exact q_iretr C0 hR dX9_nextBlow_32
  · have hs := hs.1 c_2
    rw [if_pos c_2] at hR
    refine lv_bipush (v := (-2 : Int32)) hx hb dX9_nextBlow_10 (by decide) ?_
    exact q_iretr C0 hR dX9_nextBlow_12
set_option maxHeartbeats 400000 in
set_option maxRecDepth 100000 in
theorem m_X9_nextBlow (l : Launch) (D : va_G) (k : Nat → ClassId) (a : Nat → Nat) (sz : Nat) (σ : T2) (p0 : Int32) (hs : S_X9_nextBlow σ p0) : Met l yX9_nextBlow wsX9_nextBlow { frames := 1, cells := 0, slots := 0, locals := 22 } (va_Pc [.ref (a 0), .int p0] (q_B D (tyL k) (wX9 k a σ) sz)) (vp_Si (fun r => r = P_X9_nextBlow σ p0)) 0 0 (fun _ => False) := by
  refine q_met [.ref (a 0), .int p0] (wX9 k a σ) sz (cc := cX9_nextBlow) (maxL := 4) (ret := (some .int)) (by decide) rfl (Nat.le_of_ble_eq_true rfl) ?_
  intro p e s m args below meth c ls hsz C0 hW hl hin
  subst hsz
  exact b_X9_nextBlow_b0 l D k a _ C0 _ σ p0 hs rfl s.heap [] ls hW (lv_sub hl [0, 1] rfl)
theorem hin_X9_ifHeard_X5 : ∀ w ∈ u_ws RX5 TX5 3, w ∈ wsX9_ifHeard := by decide +kernel
theorem hin_X9_ifHeard_X7 : ∀ w ∈ u_ws RX7 TX7 7, w ∈ wsX9_ifHeard := by decide +kernel
theorem hin_X9_ifHeard_X8 : ∀ w ∈ u_ws RX8 TX8 10, w ∈ wsX9_ifHeard := by decide +kernel
theorem hin_X9_ifHeard_X9 : ∀ w ∈ u_ws RX9 TX9 7, w ∈ wsX9_ifHeard := by decide +kernel
theorem hd_X9_ifHeard : yX9_ifHeard.cls = RX9 ∧ yX9_ifHeard.cls ≠ "java/lang/invoke/MethodHandle" ∧ yX9_ifHeard.cls ≠ "java/lang/invoke/VarHandle" ∧ (parseMethodDescriptor yX9_ifHeard.desc).map (fun d => d.parameters.length) = some 1 := by decide +kernel
noncomputable def P_X9_ifHeard_b61c (σ : T2) : Int32 × T2 := (P_X7_fateAt (fun j => σ (18 + j)) ((4 : Int32) * (σ 18 6)), σ)
def S_X9_ifHeard_b61c (σ : T2) : Prop := (S_X7_fateAt (fun j => σ (18 + j)) ((4 : Int32) * (σ 18 6))) ∧ (True)
theorem P_X9_ifHeard_b61c_e (σ : T2) : P_X9_ifHeard_b61c σ = (P_X7_fateAt (fun j => σ (18 + j)) ((4 : Int32) * (σ 18 6)), σ) := rfl
theorem S_X9_ifHeard_b61c_e (σ : T2) : S_X9_ifHeard_b61c σ = ((S_X7_fateAt (fun j => σ (18 + j)) ((4 : Int32) * (σ 18 6))) ∧ (True)) := rfl
noncomputable def P_X9_ifHeard_b25c (σ : T2) (v1 : Int32) : Int32 × T2 := P_X9_ifHeard_b61c (sb (u2 σ 20 (upd (σ 20) 2 (σ 34 0))) 18 17 (P_X7_runTo (fun j => (u2 σ 20 (upd (σ 20) 2 (σ 34 0))) (18 + j)) ((σ 1 6) + v1)))
def S_X9_ifHeard_b25c (σ : T2) (v1 : Int32) : Prop := (S_X7_runTo (fun j => (u2 σ 20 (upd (σ 20) 2 (σ 34 0))) (18 + j)) ((σ 1 6) + v1)) ∧ (S_X9_ifHeard_b61c (sb (u2 σ 20 (upd (σ 20) 2 (σ 34 0))) 18 17 (P_X7_runTo (fun j => (u2 σ 20 (upd (σ 20) 2 (σ 34 0))) (18 + j)) ((σ 1 6) + v1))))
theorem P_X9_ifHeard_b25c_e (σ : T2) (v1 : Int32) : P_X9_ifHeard_b25c σ v1 = P_X9_ifHeard_b61c (sb (u2 σ 20 (upd (σ 20) 2 (σ 34 0))) 18 17 (P_X7_runTo (fun j => (u2 σ 20 (upd (σ 20) 2 (σ 34 0))) (18 + j)) ((σ 1 6) + v1))) := rfl
theorem S_X9_ifHeard_b25c_e (σ : T2) (v1 : Int32) : S_X9_ifHeard_b25c σ v1 = ((S_X7_runTo (fun j => (u2 σ 20 (upd (σ 20) 2 (σ 34 0))) (18 + j)) ((σ 1 6) + v1)) ∧ (S_X9_ifHeard_b61c (sb (u2 σ 20 (upd (σ 20) 2 (σ 34 0))) 18 17 (P_X7_runTo (fun j => (u2 σ 20 (upd (σ 20) 2 (σ 34 0))) (18 + j)) ((σ 1 6) + v1))))) := rfl
noncomputable def P_X9_ifHeard_b0 (σ : T2) (v1 : Int32) : Int32 × T2 := if (P_X9_isIn v1 (1 : Int32) (9999 : Int32)) = 0 then (((-2 : Int32), σ)) else (P_X9_ifHeard_b25c (sb2 σ 18 17 1 17 (P_X7_copyFrom (sel σ 18 17 1))) v1)
def S_X9_ifHeard_b0 (σ : T2) (v1 : Int32) : Prop := (S_X9_isIn v1 (1 : Int32) (9999 : Int32)) ∧ (((P_X9_isIn v1 (1 : Int32) (9999 : Int32)) = 0 → (True)) ∧ (¬ ((P_X9_isIn v1 (1 : Int32) (9999 : Int32)) = 0) → ((S_X7_copyFrom (sel σ 18 17 1) ) ∧ (S_X9_ifHeard_b25c (sb2 σ 18 17 1 17 (P_X7_copyFrom (sel σ 18 17 1))) v1))))
theorem P_X9_ifHeard_b0_e (σ : T2) (v1 : Int32) : P_X9_ifHeard_b0 σ v1 = if (P_X9_isIn v1 (1 : Int32) (9999 : Int32)) = 0 then (((-2 : Int32), σ)) else (P_X9_ifHeard_b25c (sb2 σ 18 17 1 17 (P_X7_copyFrom (sel σ 18 17 1))) v1) := rfl
theorem S_X9_ifHeard_b0_e (σ : T2) (v1 : Int32) : S_X9_ifHeard_b0 σ v1 = ((S_X9_isIn v1 (1 : Int32) (9999 : Int32)) ∧ (((P_X9_isIn v1 (1 : Int32) (9999 : Int32)) = 0 → (True)) ∧ (¬ ((P_X9_isIn v1 (1 : Int32) (9999 : Int32)) = 0) → ((S_X7_copyFrom (sel σ 18 17 1) ) ∧ (S_X9_ifHeard_b25c (sb2 σ 18 17 1 17 (P_X7_copyFrom (sel σ 18 17 1))) v1))))) := rfl
noncomputable def P_X9_ifHeard (σ : T2) (p0 : Int32) : Int32 × T2 := P_X9_ifHeard_b0 σ p0
def S_X9_ifHeard (σ : T2) (p0 : Int32) : Prop := S_X9_ifHeard_b0 σ p0
set_option maxHeartbeats 400000 in
set_option maxRecDepth 100000 in
theorem b_X9_ifHeard_b61c {p : Program} {e : Env} {s : State} {m : MethodId} {args : Array Value} {below : List Frame} {meth : Method} {c : Code} (l : Launch) (D : va_G) (k : Nat → ClassId) (a : Nat → Nat) (A : Nat → Prop) (C0 : q_C p s m meth c args RX9 cX9_ifHeard 2 (some .int) wsX9_ifHeard D (tyL k) A) (R : Int32 × T2) : ∀ (σ : T2), S_X9_ifHeard_b61c σ → P_X9_ifHeard_b61c σ = R → ∀ (H : Heap) (locs : List Loc) (ls : Array Slot), q_W D A s.heap (wX9 k a σ) H locs → lv_has ls 2 [(0, .ref (a 0))] → W p l e { frames := 5, cells := 0, slots := 0, locals := 133 } s m args below meth c H locs 0 0 (MQ below (va_Qi (fun r u => (r, u) = R) (fun u => q_E D (tyL k) A (wX9 k a u)) A) args s 0 0 A) (F0 m 61 ls []) := by
  intro σ hs hR H locs ls hW hl
  rw [P_X9_ifHeard_b61c_e] at hR
  rw [S_X9_ifHeard_b61c_e] at hs
  obtain ⟨hx, hb, hr, hml, hts, hown, hlocks, hK, hA⟩ := id C0
  have hf16 := hts (.fieldLink RX9 16 "BeatFollower" "trial" "LBeatFollower$Scene;") (by decide +kernel)
  have hf103 := hts (.fieldLink RX9 103 "BeatFollower$Scene" "time" "I") (by decide +kernel)
  have hinX7 : ∀ w ∈ u_ws RX7 TX7 7, w ∈ wsX9_ifHeard := hin_X9_ifHeard_X7
  have hinX9 : ∀ w ∈ u_ws RX9 TX9 7, w ∈ wsX9_ifHeard := hin_X9_ifHeard_X9
  refine lv_aload_n hx hb dX9_ifHeard_61 rfl (lv_at hl 0 rfl) ?_
  refine va_get (v := .ref (a 18)) (C := RX9) (T := TX9) (N := 7) hx hb hts hinX9 hown hK hW.1 0 (q_w_get 0 (Nat.le_of_ble_eq_true rfl)) rfl 1 (by decide) hf16 (fun _ h9 => h9) rfl dX9_ifHeard_62 ?_
  refine lv_iconst (v := (4 : Int32)) hx hb dX9_ifHeard_65 (by decide) ?_
  refine lv_aload_n hx hb dX9_ifHeard_66 rfl (lv_at hl 0 rfl) ?_
  refine va_get (v := .ref (a 18)) (C := RX9) (T := TX9) (N := 7) hx hb hts hinX9 hown hK hW.1 0 (q_w_get 0 (Nat.le_of_ble_eq_true rfl)) rfl 1 (by decide) hf16 (fun _ h9 => h9) rfl dX9_ifHeard_67 ?_
  refine va_get (v := .int (σ 18 6)) (C := RX7) (T := TX7) (N := 7) hx hb hts hinX7 hown hK hW.1 18 (q_w_get 18 (Nat.le_of_ble_eq_true rfl)) rfl 6 (by decide) hf103 (fun _ h9 => h9) rfl dX9_ifHeard_70 ?_
  refine lv_imul hx hb dX9_ifHeard_73 ?_
  have hs5 := hs.1
  have hs := hs.2
  refine q_Vi (As := [.int ((4 : Int32) * (σ 18 6))]) (rest := []) (R := P_X7_fateAt (fun j => σ (18 + j)) ((4 : Int32) * (σ 18 6))) (wX9_X7_18_is) [0, 1, 2, 3] 18 7 C0 hW (m_X7_fateAt l D k (fun j => a (18 + j)) _ (fun j => σ (18 + j)) ((4 : Int32) * (σ 18 6)) hs5) (cwV 1 hts gX9_ifHeard_X7_fateAt rfl rfl rfl hd_X7_fateAt ⟨Nat.le_of_ble_eq_true rfl, Nat.le_of_ble_eq_true rfl⟩) (wX9_X7_18_nd) (wX9_X7_18_pl k a _) rfl (q_w_get 18 (Nat.le_of_ble_eq_true rfl)) rfl hl rfl rfl (Nat.le_of_ble_eq_true rfl) dX9_ifHeard_74 ⟨Nat.le_refl 0, Nat.le_refl 0⟩ ?_
  exact q_iret C0 hW hR dX9_ifHeard_77
set_option maxHeartbeats 400000 in
set_option maxRecDepth 100000 in
theorem b_X9_ifHeard_b25c {p : Program} {e : Env} {s : State} {m : MethodId} {args : Array Value} {below : List Frame} {meth : Method} {c : Code} (l : Launch) (D : va_G) (k : Nat → ClassId) (a : Nat → Nat) (A : Nat → Prop) (C0 : q_C p s m meth c args RX9 cX9_ifHeard 2 (some .int) wsX9_ifHeard D (tyL k) A) (R : Int32 × T2) : ∀ (σ : T2) (v1 : Int32), S_X9_ifHeard_b25c σ v1 → P_X9_ifHeard_b25c σ v1 = R → ∀ (H : Heap) (locs : List Loc) (ls : Array Slot), q_W D A s.heap (wX9 k a σ) H locs → lv_has ls 2 [(0, .ref (a 0)), (1, .int v1)] → W p l e { frames := 5, cells := 0, slots := 0, locals := 133 } s m args below meth c H locs 0 0 (MQ below (va_Qi (fun r u => (r, u) = R) (fun u => q_E D (tyL k) A (wX9 k a u)) A) args s 0 0 A) (F0 m 25 ls []) := by
  intro σ v1 hs hR H locs ls hW hl
  rw [P_X9_ifHeard_b25c_e] at hR
  rw [S_X9_ifHeard_b25c_e] at hs
  obtain ⟨hx, hb, hr, hml, hts, hown, hlocks, hK, hA⟩ := id C0
  have hf10 := hts (.fieldLink RX9 10 "BeatFollower" "scene" "LBeatFollower$Scene;") (by decide +kernel)
  have hf16 := hts (.fieldLink RX9 16 "BeatFollower" "trial" "LBeatFollower$Scene;") (by decide +kernel)
  have hf87 := hts (.fieldLink RX9 87 "BeatFollower$Scene" "plan" "LBeatFollower$Plan;") (by decide +kernel)
  have hf103 := hts (.fieldLink RX9 103 "BeatFollower$Scene" "time" "I") (by decide +kernel)
  have hf110 := hts (.fieldLink RX9 110 "BeatFollower$Plan" "many" "I") (by decide +kernel)
  have hf113 := hts (.fieldLink RX9 113 "BeatFollower$Scene" "tally" "LBeatFollower$Tally;") (by decide +kernel)
  have hf117 := hts (.fieldLink RX9 117 "BeatFollower$Tally" "heard" "I") (by decide +kernel)
  have hinX5 : ∀ w ∈ u_ws RX5 TX5 3, w ∈ wsX9_ifHeard := hin_X9_ifHeard_X5
  have hinX7 : ∀ w ∈ u_ws RX7 TX7 7, w ∈ wsX9_ifHeard := hin_X9_ifHeard_X7
  have hinX8 : ∀ w ∈ u_ws RX8 TX8 10, w ∈ wsX9_ifHeard := hin_X9_ifHeard_X8
  have hinX9 : ∀ w ∈ u_ws RX9 TX9 7, w ∈ wsX9_ifHeard := hin_X9_ifHeard_X9
  refine lv_aload_n hx hb dX9_ifHeard_25 rfl (lv_at hl 0 rfl) ?_
  refine va_get (v := .ref (a 18)) (C := RX9) (T := TX9) (N := 7) hx hb hts hinX9 hown hK hW.1 0 (q_w_get 0 (Nat.le_of_ble_eq_true rfl)) rfl 1 (by decide) hf16 (fun _ h9 => h9) rfl dX9_ifHeard_26 ?_
  refine va_get (v := .ref (a 20)) (C := RX7) (T := TX7) (N := 7) hx hb hts hinX7 hown hK hW.1 18 (q_w_get 18 (Nat.le_of_ble_eq_true rfl)) rfl 1 (by decide) hf87 (fun _ h9 => h9) rfl dX9_ifHeard_29 ?_
  refine lv_aload_n hx hb dX9_ifHeard_32 rfl (lv_at hl 0 rfl) ?_
  refine va_get (v := .ref (a 18)) (C := RX9) (T := TX9) (N := 7) hx hb hts hinX9 hown hK hW.1 0 (q_w_get 0 (Nat.le_of_ble_eq_true rfl)) rfl 1 (by decide) hf16 (fun _ h9 => h9) rfl dX9_ifHeard_33 ?_
  refine va_get (v := .ref (a 34)) (C := RX7) (T := TX7) (N := 7) hx hb hts hinX7 hown hK hW.1 18 (q_w_get 18 (Nat.le_of_ble_eq_true rfl)) rfl 5 (by decide) hf113 (fun _ h9 => h9) rfl dX9_ifHeard_36 ?_
  refine va_get (v := .int (σ 34 0)) (C := RX8) (T := TX8) (N := 10) hx hb hts hinX8 hown hK hW.1 34 (q_w_get 34 (Nat.le_of_ble_eq_true rfl)) rfl 0 (by decide) hf117 (fun _ h9 => h9) rfl dX9_ifHeard_39 ?_
  refine q_putf (ty := .int) (wd' := wX9 k a (u2 σ 20 (upd (σ 20) 2 (σ 34 0)))) C0 hW hinX5 tyX5 tyX5_ok nmX5 20 (q_w_get 20 (Nat.le_of_ble_eq_true rfl)) rfl 2 (by decide) hf110 rfl (by decide +kernel) rfl rfl (Nat.le_of_ble_eq_true rfl) dX9_ifHeard_42 (fX5_s2 _ _ _) (wX9_s20 k a _ _) (fun H locs hW => ?_)
  refine lv_aload_n hx hb dX9_ifHeard_45 rfl (lv_at hl 0 rfl) ?_
  refine va_get (v := .ref (a 18)) (C := RX9) (T := TX9) (N := 7) hx hb hts hinX9 hown hK hW.1 0 (q_w_get 0 (Nat.le_of_ble_eq_true rfl)) rfl 1 (by decide) hf16 (fun _ h9 => h9) rfl dX9_ifHeard_46 ?_
  refine lv_aload_n hx hb dX9_ifHeard_49 rfl (lv_at hl 0 rfl) ?_
  refine va_get (v := .ref (a 1)) (C := RX9) (T := TX9) (N := 7) hx hb hts hinX9 hown hK hW.1 0 (q_w_get 0 (Nat.le_of_ble_eq_true rfl)) rfl 0 (by decide) hf10 (fun _ h9 => h9) rfl dX9_ifHeard_50 ?_
  refine va_get (v := .int (σ 1 6)) (C := RX7) (T := TX7) (N := 7) hx hb hts hinX7 hown hK hW.1 1 (q_w_get 1 (Nat.le_of_ble_eq_true rfl)) rfl 6 (by decide) hf103 (fun _ h9 => h9) rfl dX9_ifHeard_53 ?_
  refine lv_iload_n hx hb dX9_ifHeard_56 rfl (lv_at hl 1 rfl) ?_
  refine lv_iadd hx hb dX9_ifHeard_57 ?_
  have hs4 := hs.1
  have hs := hs.2
  refine q_Vv (As := [.int ((σ 1 6) + v1)]) (rest := []) (wf := wX7 k (fun j => a (18 + j))) (R := P_X7_runTo (fun j => (u2 σ 20 (upd (σ 20) 2 (σ 34 0))) (18 + j)) ((σ 1 6) + v1)) (wd' := wX9 k a (sb (u2 σ 20 (upd (σ 20) 2 (σ 34 0))) 18 17 (P_X7_runTo (fun j => (u2 σ 20 (upd (σ 20) 2 (σ 34 0))) (18 + j)) ((σ 1 6) + v1)))) (wX9_X7_18_is) [0, 1, 2, 3] 18 7 C0 hW (m_X7_runTo l D k (fun j => a (18 + j)) H.size (fun j => (u2 σ 20 (upd (σ 20) 2 (σ 34 0))) (18 + j)) ((σ 1 6) + v1) hs4) (cwV 1 hts gX9_ifHeard_X7_runTo rfl rfl rfl hd_X7_runTo ⟨Nat.le_of_ble_eq_true rfl, Nat.le_of_ble_eq_true rfl⟩) (wX9_X7_18_nd) (wX9_X7_18_pl k a _) rfl (q_w_get 18 (Nat.le_of_ble_eq_true rfl)) rfl (wX7_fst k _ _ _) (wX9_X7_18_pt k a _ _) hl rfl rfl (Nat.le_of_ble_eq_true rfl) dX9_ifHeard_58 ⟨Nat.le_refl 0, Nat.le_refl 0⟩ (fun H locs hW => ?_)
  exact b_X9_ifHeard_b61c l D k a A C0 R (sb (u2 σ 20 (upd (σ 20) 2 (σ 34 0))) 18 17 (P_X7_runTo (fun j => (u2 σ 20 (upd (σ 20) 2 (σ 34 0))) (18 + j)) ((σ 1 6) + v1))) hs hR H locs ls hW (lv_sub hl [0] rfl)
set_option maxHeartbeats 400000 in
set_option maxRecDepth 100000 in
theorem b_X9_ifHeard_b0 {p : Program} {e : Env} {s : State} {m : MethodId} {args : Array Value} {below : List Frame} {meth : Method} {c : Code} (l : Launch) (D : va_G) (k : Nat → ClassId) (a : Nat → Nat) (A : Nat → Prop) (C0 : q_C p s m meth c args RX9 cX9_ifHeard 2 (some .int) wsX9_ifHeard D (tyL k) A) (R : Int32 × T2) : ∀ (σ : T2) (v1 : Int32), S_X9_ifHeard_b0 σ v1 → P_X9_ifHeard_b0 σ v1 = R → ∀ (H : Heap) (locs : List Loc) (ls : Array Slot), q_W D A s.heap (wX9 k a σ) H locs → lv_has ls 2 [(0, .ref (a 0)), (1, .int v1)] → W p l e { frames := 5, cells := 0, slots := 0, locals := 133 } s m args below meth c H locs 0 0 (MQ below (va_Qi (fun r u => (r, u) = R) (fun u => q_E D (tyL k) A (wX9 k a u)) A) args s 0 0 A) (F0 m 0 ls []) := by
  intro σ v1 hs hR H locs ls hW hl
  rw [P_X9_ifHeard_b0_e] at hR
  rw [S_X9_ifHeard_b0_e] at hs
  obtain ⟨hx, hb, hr, hml, hts, hown, hlocks, hK, hA⟩ := id C0
  have hf10 := hts (.fieldLink RX9 10 "BeatFollower" "scene" "LBeatFollower$Scene;") (by decide +kernel)
  have hf16 := hts (.fieldLink RX9 16 "BeatFollower" "trial" "LBeatFollower$Scene;") (by decide +kernel)
  have hinX9 : ∀ w ∈ u_ws RX9 TX9 7, w ∈ wsX9_ifHeard := hin_X9_ifHeard_X9
  refine lv_iload_n hx hb dX9_ifHeard_0 rfl (lv_at hl 1 rfl) ?_
  refine lv_iconst (v := (1 : Int32)) hx hb dX9_ifHeard_1 (by decide) ?_
  refine lv_sipush (v := (9999 : Int32)) hx hb dX9_ifHeard_2 (by decide) ?_
  have hs1 := hs.1
  have hs := hs.2
  refine q_Si (As := [.int v1, .int (1 : Int32), .int (9999 : Int32)]) (rest := []) (R := P_X9_isIn v1 (1 : Int32) (9999 : Int32)) ⟨hx, hb, hml, hown, hts⟩ (m_X9_isIn l v1 (1 : Int32) (9999 : Int32) hs1) (va_cwS 3 hts gX9_ifHeard_X9_isIn rfl rfl rfl hd_X9_isIn ⟨Nat.le_of_ble_eq_true rfl, Nat.le_of_ble_eq_true rfl⟩) hl rfl rfl (Nat.le_of_ble_eq_true rfl) dX9_ifHeard_5 ⟨Nat.le_refl 0, Nat.le_refl 0⟩ ?_
  refine lv_if_ne (tgt := 14) hx hb dX9_ifHeard_8 (by decide) (fun c_2 => ?_) (fun c_2 => ?_)
  · have hs := hs.2 c_2
    rw [if_neg c_2] at hR
    refine lv_aload_n hx hb dX9_ifHeard_14 rfl (lv_at hl 0 rfl) ?_
    refine va_get (v := .ref (a 18)) (C := RX9) (T := TX9) (N := 7) hx hb hts hinX9 hown hK hW.1 0 (q_w_get 0 (Nat.le_of_ble_eq_true rfl)) rfl 1 (by decide) hf16 (fun _ h9 => h9) rfl dX9_ifHeard_15 ?_
    refine lv_aload_n hx hb dX9_ifHeard_18 rfl (lv_at hl 0 rfl) ?_
    refine va_get (v := .ref (a 1)) (C := RX9) (T := TX9) (N := 7) hx hb hts hinX9 hown hK hW.1 0 (q_w_get 0 (Nat.le_of_ble_eq_true rfl)) rfl 0 (by decide) hf10 (fun _ h9 => h9) rfl dX9_ifHeard_19 ?_
    have hs3 := hs.1
    have hs := hs.2
    refine q_Vv (As := [.ref (a 1)]) (rest := []) (wf := wX7_X7 k (sel a 18 17 1)) (R := P_X7_copyFrom (sel σ 18 17 1)) (wd' := wX9 k a (sb2 σ 18 17 1 17 (P_X7_copyFrom (sel σ 18 17 1)))) (wX9_X7_X7_18_1_is) [0, 1, 2, 3] 18 7 C0 hW (m_X7_copyFrom l D k (sel a 18 17 1) H.size (sel σ 18 17 1)  hs3) (cwV 1 hts gX9_ifHeard_X7_copyFrom rfl rfl rfl hd_X7_copyFrom ⟨Nat.le_of_ble_eq_true rfl, Nat.le_of_ble_eq_true rfl⟩) (wX9_X7_X7_18_1_nd) (wX9_X7_X7_18_1_pl k a _) rfl (q_w_get 18 (Nat.le_of_ble_eq_true rfl)) rfl (wX7_X7_fst k _ _ _) (wX9_X7_X7_18_1_pt k a _ _) hl rfl rfl (Nat.le_of_ble_eq_true rfl) dX9_ifHeard_22 ⟨Nat.le_refl 0, Nat.le_refl 0⟩ (fun H locs hW => ?_)
    exact b_X9_ifHeard_b25c l D k a A C0 R (sb2 σ 18 17 1 17 (P_X7_copyFrom (sel σ 18 17 1))) v1 hs hR H locs ls hW (lv_sub hl [0, 1] rfl)
  · have hs := hs.1 c_2
    rw [if_pos c_2] at hR
    refine lv_bipush (v := (-2 : Int32)) hx hb dX9_ifHeard_11 (by decide) ?_
    exact q_iret C0 hW hR dX9_ifHeard_13
set_option maxHeartbeats 400000 in
set_option maxRecDepth 100000 in
theorem m_X9_ifHeard (l : Launch) (D : va_G) (k : Nat → ClassId) (a : Nat → Nat) (sz : Nat) (σ : T2) (p0 : Int32) (hs : S_X9_ifHeard σ p0) : Met l yX9_ifHeard wsX9_ifHeard { frames := 5, cells := 0, slots := 0, locals := 133 } (va_Pc [.ref (a 0), .int p0] (q_B D (tyL k) (wX9 k a σ) sz)) (va_Qi (fun r u => (r, u) = P_X9_ifHeard σ p0) (fun u => q_E D (tyL k) (va_A (wX9 k a σ) sz) (wX9 k a u)) (va_A (wX9 k a σ) sz)) 0 0 (va_A (wX9 k a σ) sz) := by
  refine q_met [.ref (a 0), .int p0] (wX9 k a σ) sz (cc := cX9_ifHeard) (maxL := 2) (ret := (some .int)) (by decide) rfl (Nat.le_of_ble_eq_true rfl) ?_
  intro p e s m args below meth c ls hsz C0 hW hl hin
  subst hsz
  exact b_X9_ifHeard_b0 l D k a _ C0 _ σ p0 hs rfl s.heap [] ls hW (lv_sub hl [0, 1] rfl)
theorem hin_X9_endWith_X7 : ∀ w ∈ u_ws RX7 TX7 7, w ∈ wsX9_endWith := by decide +kernel
theorem hin_X9_endWith_X8 : ∀ w ∈ u_ws RX8 TX8 10, w ∈ wsX9_endWith := by decide +kernel
theorem hin_X9_endWith_X9 : ∀ w ∈ u_ws RX9 TX9 7, w ∈ wsX9_endWith := by decide +kernel
theorem hd_X9_endWith : yX9_endWith.cls = RX9 ∧ yX9_endWith.cls ≠ "java/lang/invoke/MethodHandle" ∧ yX9_endWith.cls ≠ "java/lang/invoke/VarHandle" ∧ (parseMethodDescriptor yX9_endWith.desc).map (fun d => d.parameters.length) = some 3 := by decide +kernel
noncomputable def P_X9_endWith_b55c (σ : T2) (v3 : Int32) : Int32 × T2 := if v3 = (0 : Int32) then ((σ 34 8, σ)) else (if v3 = (1 : Int32) then ((σ 34 1, σ)) else (if v3 = (2 : Int32) then ((σ 34 2, σ)) else (if v3 = (3 : Int32) then ((σ 34 6, σ)) else ((σ 34 9, σ)))))
def S_X9_endWith_b55c (σ : T2) (v3 : Int32) : Prop := (v3 = (0 : Int32) → (True)) ∧ (¬ (v3 = (0 : Int32)) → ((v3 = (1 : Int32) → (True)) ∧ (¬ (v3 = (1 : Int32)) → ((v3 = (2 : Int32) → (True)) ∧ (¬ (v3 = (2 : Int32)) → ((v3 = (3 : Int32) → (True)) ∧ (¬ (v3 = (3 : Int32)) → (True))))))))
theorem P_X9_endWith_b55c_e (σ : T2) (v3 : Int32) : P_X9_endWith_b55c σ v3 = if v3 = (0 : Int32) then ((σ 34 8, σ)) else (if v3 = (1 : Int32) then ((σ 34 1, σ)) else (if v3 = (2 : Int32) then ((σ 34 2, σ)) else (if v3 = (3 : Int32) then ((σ 34 6, σ)) else ((σ 34 9, σ))))) := rfl
theorem S_X9_endWith_b55c_e (σ : T2) (v3 : Int32) : S_X9_endWith_b55c σ v3 = ((v3 = (0 : Int32) → (True)) ∧ (¬ (v3 = (0 : Int32)) → ((v3 = (1 : Int32) → (True)) ∧ (¬ (v3 = (1 : Int32)) → ((v3 = (2 : Int32) → (True)) ∧ (¬ (v3 = (2 : Int32)) → ((v3 = (3 : Int32) → (True)) ∧ (¬ (v3 = (3 : Int32)) → (True))))))))) := rfl
noncomputable def P_X9_endWith_b49c (σ : T2) (v1 : Int32) (v2 : Int32) (v3 : Int32) : Int32 × T2 := P_X9_endWith_b55c (P_X9_playTrial σ v1 v2) v3
def S_X9_endWith_b49c (σ : T2) (v1 : Int32) (v2 : Int32) (v3 : Int32) : Prop := (S_X9_playTrial σ v1 v2) ∧ (S_X9_endWith_b55c (P_X9_playTrial σ v1 v2) v3)
theorem P_X9_endWith_b49c_e (σ : T2) (v1 : Int32) (v2 : Int32) (v3 : Int32) : P_X9_endWith_b49c σ v1 v2 v3 = P_X9_endWith_b55c (P_X9_playTrial σ v1 v2) v3 := rfl
theorem S_X9_endWith_b49c_e (σ : T2) (v1 : Int32) (v2 : Int32) (v3 : Int32) : S_X9_endWith_b49c σ v1 v2 v3 = ((S_X9_playTrial σ v1 v2) ∧ (S_X9_endWith_b55c (P_X9_playTrial σ v1 v2) v3)) := rfl
noncomputable def P_X9_endWith_b0 (σ : T2) (v1 : Int32) (v2 : Int32) (v3 : Int32) : Int32 × T2 := if (P_X9_isIn v1 (0 : Int32) (16 : Int32)) = 0 then (((-2 : Int32), σ)) else (if (P_X9_isIn v2 (0 : Int32) (16 : Int32)) = 0 then (((-2 : Int32), σ)) else (if (P_X9_isIn v3 (0 : Int32) (4 : Int32)) = 0 then (((-2 : Int32), σ)) else (P_X9_endWith_b49c (sb2 σ 20 3 3 3 (P_X5_copyFrom (sel σ 20 3 3))) v1 v2 v3)))
def S_X9_endWith_b0 (σ : T2) (v1 : Int32) (v2 : Int32) (v3 : Int32) : Prop := (S_X9_isIn v1 (0 : Int32) (16 : Int32)) ∧ (((P_X9_isIn v1 (0 : Int32) (16 : Int32)) = 0 → (True)) ∧ (¬ ((P_X9_isIn v1 (0 : Int32) (16 : Int32)) = 0) → ((S_X9_isIn v2 (0 : Int32) (16 : Int32)) ∧ (((P_X9_isIn v2 (0 : Int32) (16 : Int32)) = 0 → (True)) ∧ (¬ ((P_X9_isIn v2 (0 : Int32) (16 : Int32)) = 0) → ((S_X9_isIn v3 (0 : Int32) (4 : Int32)) ∧ (((P_X9_isIn v3 (0 : Int32) (4 : Int32)) = 0 → (True)) ∧ (¬ ((P_X9_isIn v3 (0 : Int32) (4 : Int32)) = 0) → ((S_X5_copyFrom (sel σ 20 3 3) ) ∧ (S_X9_endWith_b49c (sb2 σ 20 3 3 3 (P_X5_copyFrom (sel σ 20 3 3))) v1 v2 v3))))))))))
theorem P_X9_endWith_b0_e (σ : T2) (v1 : Int32) (v2 : Int32) (v3 : Int32) : P_X9_endWith_b0 σ v1 v2 v3 = if (P_X9_isIn v1 (0 : Int32) (16 : Int32)) = 0 then (((-2 : Int32), σ)) else (if (P_X9_isIn v2 (0 : Int32) (16 : Int32)) = 0 then (((-2 : Int32), σ)) else (if (P_X9_isIn v3 (0 : Int32) (4 : Int32)) = 0 then (((-2 : Int32), σ)) else (P_X9_endWith_b49c (sb2 σ 20 3 3 3 (P_X5_copyFrom (sel σ 20 3 3))) v1 v2 v3))) := rfl
theorem S_X9_endWith_b0_e (σ : T2) (v1 : Int32) (v2 : Int32) (v3 : Int32) : S_X9_endWith_b0 σ v1 v2 v3 = ((S_X9_isIn v1 (0 : Int32) (16 : Int32)) ∧ (((P_X9_isIn v1 (0 : Int32) (16 : Int32)) = 0 → (True)) ∧ (¬ ((P_X9_isIn v1 (0 : Int32) (16 : Int32)) = 0) → ((S_X9_isIn v2 (0 : Int32) (16 : Int32)) ∧ (((P_X9_isIn v2 (0 : Int32) (16 : Int32)) = 0 → (True)) ∧ (¬ ((P_X9_isIn v2 (0 : Int32) (16 : Int32)) = 0) → ((S_X9_isIn v3 (0 : Int32) (4 : Int32)) ∧ (((P_X9_isIn v3 (0 : Int32) (4 : Int32)) = 0 → (True)) ∧ (¬ ((P_X9_isIn v3 (0 : Int32) (4 : Int32)) = 0) → ((S_X5_copyFrom (sel σ 20 3 3) ) ∧ (S_X9_endWith_b49c (sb2 σ 20 3 3 3 (P_X5_copyFrom (sel σ 20 3 3))) v1 v2 v3))))))))))) := rfl
noncomputable def P_X9_endWith (σ : T2) (p0 : Int32) (p1 : Int32) (p2 : Int32) : Int32 × T2 := P_X9_endWith_b0 σ p0 p1 p2
def S_X9_endWith (σ : T2) (p0 : Int32) (p1 : Int32) (p2 : Int32) : Prop := S_X9_endWith_b0 σ p0 p1 p2
set_option maxHeartbeats 400000 in
set_option maxRecDepth 100000 in
theorem b_X9_endWith_b55c {p : Program} {e : Env} {s : State} {m : MethodId} {args : Array Value} {below : List Frame} {meth : Method} {c : Code} (l : Launch) (D : va_G) (k : Nat → ClassId) (a : Nat → Nat) (A : Nat → Prop) (C0 : q_C p s m meth c args RX9 cX9_endWith 4 (some .int) wsX9_endWith D (tyL k) A) (R : Int32 × T2) : ∀ (σ : T2) (v3 : Int32), S_X9_endWith_b55c σ v3 → P_X9_endWith_b55c σ v3 = R → ∀ (H : Heap) (locs : List Loc) (ls : Array Slot), q_W D A s.heap (wX9 k a σ) H locs → lv_has ls 4 [(0, .ref (a 0)), (3, .int v3)] → W p l e { frames := 6, cells := 0, slots := 0, locals := 155 } s m args below meth c H locs 0 0 (MQ below (va_Qi (fun r u => (r, u) = R) (fun u => q_E D (tyL k) A (wX9 k a u)) A) args s 0 0 A) (F0 m 55 ls []) := by
  intro σ v3 hs hR H locs ls hW hl
  rw [P_X9_endWith_b55c_e] at hR
  rw [S_X9_endWith_b55c_e] at hs
  obtain ⟨hx, hb, hr, hml, hts, hown, hlocks, hK, hA⟩ := id C0
  have hf16 := hts (.fieldLink RX9 16 "BeatFollower" "trial" "LBeatFollower$Scene;") (by decide +kernel)
  have hf113 := hts (.fieldLink RX9 113 "BeatFollower$Scene" "tally" "LBeatFollower$Tally;") (by decide +kernel)
  have hf187 := hts (.fieldLink RX9 187 "BeatFollower$Tally" "held" "I") (by decide +kernel)
  have hf190 := hts (.fieldLink RX9 190 "BeatFollower$Tally" "passedOver" "I") (by decide +kernel)
  have hf199 := hts (.fieldLink RX9 199 "BeatFollower$Tally" "slipsTold" "I") (by decide +kernel)
  have hf234 := hts (.fieldLink RX9 234 "BeatFollower$Tally" "offSum" "I") (by decide +kernel)
  have hf237 := hts (.fieldLink RX9 237 "BeatFollower$Tally" "heardLocked" "I") (by decide +kernel)
  have hinX7 : ∀ w ∈ u_ws RX7 TX7 7, w ∈ wsX9_endWith := hin_X9_endWith_X7
  have hinX8 : ∀ w ∈ u_ws RX8 TX8 10, w ∈ wsX9_endWith := hin_X9_endWith_X8
  have hinX9 : ∀ w ∈ u_ws RX9 TX9 7, w ∈ wsX9_endWith := hin_X9_endWith_X9
  refine lv_iload_n hx hb dX9_endWith_55 rfl (lv_at hl 1 rfl) ?_
  by_cases c_9 : v3 = (0 : Int32)
  · have hs := hs.1 c_9
    rw [if_pos c_9] at hR
    refine lv_tableIn (off := 32) (tgt := 88) hx hb dX9_endWith_56 (by rw [c_9]; decide) (by rw [c_9]; decide) (by rw [c_9]; decide) (by decide) ?_
    refine lv_aload_n hx hb dX9_endWith_88 rfl (lv_at hl 0 rfl) ?_
    refine va_get (v := .ref (a 18)) (C := RX9) (T := TX9) (N := 7) hx hb hts hinX9 hown hK hW.1 0 (q_w_get 0 (Nat.le_of_ble_eq_true rfl)) rfl 1 (by decide) hf16 (fun _ h9 => h9) rfl dX9_endWith_89 ?_
    refine va_get (v := .ref (a 34)) (C := RX7) (T := TX7) (N := 7) hx hb hts hinX7 hown hK hW.1 18 (q_w_get 18 (Nat.le_of_ble_eq_true rfl)) rfl 5 (by decide) hf113 (fun _ h9 => h9) rfl dX9_endWith_92 ?_
    refine va_get (v := .int (σ 34 8)) (C := RX8) (T := TX8) (N := 10) hx hb hts hinX8 hown hK hW.1 34 (q_w_get 34 (Nat.le_of_ble_eq_true rfl)) rfl 8 (by decide) hf234 (fun _ h9 => h9) rfl dX9_endWith_95 ?_
    exact q_iret C0 hW hR dX9_endWith_98
  · have hs := hs.2 c_9
    rw [if_neg c_9] at hR
    by_cases c_10 : v3 = (1 : Int32)
    · have hs := hs.1 c_10
      rw [if_pos c_10] at hR
      refine lv_tableIn (off := 43) (tgt := 99) hx hb dX9_endWith_56 (by rw [c_10]; decide) (by rw [c_10]; decide) (by rw [c_10]; decide) (by decide) ?_
      refine lv_aload_n hx hb dX9_endWith_99 rfl (lv_at hl 0 rfl) ?_
      refine va_get (v := .ref (a 18)) (C := RX9) (T := TX9) (N := 7) hx hb hts hinX9 hown hK hW.1 0 (q_w_get 0 (Nat.le_of_ble_eq_true rfl)) rfl 1 (by decide) hf16 (fun _ h9 => h9) rfl dX9_endWith_100 ?_
      refine va_get (v := .ref (a 34)) (C := RX7) (T := TX7) (N := 7) hx hb hts hinX7 hown hK hW.1 18 (q_w_get 18 (Nat.le_of_ble_eq_true rfl)) rfl 5 (by decide) hf113 (fun _ h9 => h9) rfl dX9_endWith_103 ?_
      refine va_get (v := .int (σ 34 1)) (C := RX8) (T := TX8) (N := 10) hx hb hts hinX8 hown hK hW.1 34 (q_w_get 34 (Nat.le_of_ble_eq_true rfl)) rfl 1 (by decide) hf190 (fun _ h9 => h9) rfl dX9_endWith_106 ?_
      exact q_iret C0 hW hR dX9_endWith_109
    · have hs := hs.2 c_10
      rw [if_neg c_10] at hR
      by_cases c_11 : v3 = (2 : Int32)
      · have hs := hs.1 c_11
        rw [if_pos c_11] at hR
        refine lv_tableIn (off := 54) (tgt := 110) hx hb dX9_endWith_56 (by rw [c_11]; decide) (by rw [c_11]; decide) (by rw [c_11]; decide) (by decide) ?_
        refine lv_aload_n hx hb dX9_endWith_110 rfl (lv_at hl 0 rfl) ?_
        refine va_get (v := .ref (a 18)) (C := RX9) (T := TX9) (N := 7) hx hb hts hinX9 hown hK hW.1 0 (q_w_get 0 (Nat.le_of_ble_eq_true rfl)) rfl 1 (by decide) hf16 (fun _ h9 => h9) rfl dX9_endWith_111 ?_
        refine va_get (v := .ref (a 34)) (C := RX7) (T := TX7) (N := 7) hx hb hts hinX7 hown hK hW.1 18 (q_w_get 18 (Nat.le_of_ble_eq_true rfl)) rfl 5 (by decide) hf113 (fun _ h9 => h9) rfl dX9_endWith_114 ?_
        refine va_get (v := .int (σ 34 2)) (C := RX8) (T := TX8) (N := 10) hx hb hts hinX8 hown hK hW.1 34 (q_w_get 34 (Nat.le_of_ble_eq_true rfl)) rfl 2 (by decide) hf187 (fun _ h9 => h9) rfl dX9_endWith_117 ?_
        exact q_iret C0 hW hR dX9_endWith_120
      · have hs := hs.2 c_11
        rw [if_neg c_11] at hR
        by_cases c_12 : v3 = (3 : Int32)
        · have hs := hs.1 c_12
          rw [if_pos c_12] at hR
          refine lv_tableIn (off := 65) (tgt := 121) hx hb dX9_endWith_56 (by rw [c_12]; decide) (by rw [c_12]; decide) (by rw [c_12]; decide) (by decide) ?_
          refine lv_aload_n hx hb dX9_endWith_121 rfl (lv_at hl 0 rfl) ?_
          refine va_get (v := .ref (a 18)) (C := RX9) (T := TX9) (N := 7) hx hb hts hinX9 hown hK hW.1 0 (q_w_get 0 (Nat.le_of_ble_eq_true rfl)) rfl 1 (by decide) hf16 (fun _ h9 => h9) rfl dX9_endWith_122 ?_
          refine va_get (v := .ref (a 34)) (C := RX7) (T := TX7) (N := 7) hx hb hts hinX7 hown hK hW.1 18 (q_w_get 18 (Nat.le_of_ble_eq_true rfl)) rfl 5 (by decide) hf113 (fun _ h9 => h9) rfl dX9_endWith_125 ?_
          refine va_get (v := .int (σ 34 6)) (C := RX8) (T := TX8) (N := 10) hx hb hts hinX8 hown hK hW.1 34 (q_w_get 34 (Nat.le_of_ble_eq_true rfl)) rfl 6 (by decide) hf199 (fun _ h9 => h9) rfl dX9_endWith_128 ?_
          exact q_iret C0 hW hR dX9_endWith_131
        · have hs := hs.2 c_12
          rw [if_neg c_12] at hR
          refine lv_tableOut (tgt := 132) hx hb dX9_endWith_56 (q_out 3 (by decide) (by intro j hj; rcases (show j = 0 ∨ j = 1 ∨ j = 2 ∨ j = 3 by omega) with rfl | rfl | rfl | rfl <;> first | exact c_9 | exact c_10 | exact c_11 | exact c_12)) (by decide) ?_
          refine lv_aload_n hx hb dX9_endWith_132 rfl (lv_at hl 0 rfl) ?_
          refine va_get (v := .ref (a 18)) (C := RX9) (T := TX9) (N := 7) hx hb hts hinX9 hown hK hW.1 0 (q_w_get 0 (Nat.le_of_ble_eq_true rfl)) rfl 1 (by decide) hf16 (fun _ h9 => h9) rfl dX9_endWith_133 ?_
          refine va_get (v := .ref (a 34)) (C := RX7) (T := TX7) (N := 7) hx hb hts hinX7 hown hK hW.1 18 (q_w_get 18 (Nat.le_of_ble_eq_true rfl)) rfl 5 (by decide) hf113 (fun _ h9 => h9) rfl dX9_endWith_136 ?_
          refine va_get (v := .int (σ 34 9)) (C := RX8) (T := TX8) (N := 10) hx hb hts hinX8 hown hK hW.1 34 (q_w_get 34 (Nat.le_of_ble_eq_true rfl)) rfl 9 (by decide) hf237 (fun _ h9 => h9) rfl dX9_endWith_139 ?_
          exact q_iret C0 hW hR dX9_endWith_142
set_option maxHeartbeats 400000 in
set_option maxRecDepth 100000 in
theorem b_X9_endWith_b49c {p : Program} {e : Env} {s : State} {m : MethodId} {args : Array Value} {below : List Frame} {meth : Method} {c : Code} (l : Launch) (D : va_G) (k : Nat → ClassId) (a : Nat → Nat) (A : Nat → Prop) (C0 : q_C p s m meth c args RX9 cX9_endWith 4 (some .int) wsX9_endWith D (tyL k) A) (R : Int32 × T2) : ∀ (σ : T2) (v1 : Int32) (v2 : Int32) (v3 : Int32), S_X9_endWith_b49c σ v1 v2 v3 → P_X9_endWith_b49c σ v1 v2 v3 = R → ∀ (H : Heap) (locs : List Loc) (ls : Array Slot), q_W D A s.heap (wX9 k a σ) H locs → lv_has ls 4 [(0, .ref (a 0)), (1, .int v1), (2, .int v2), (3, .int v3)] → W p l e { frames := 6, cells := 0, slots := 0, locals := 155 } s m args below meth c H locs 0 0 (MQ below (va_Qi (fun r u => (r, u) = R) (fun u => q_E D (tyL k) A (wX9 k a u)) A) args s 0 0 A) (F0 m 49 ls []) := by
  intro σ v1 v2 v3 hs hR H locs ls hW hl
  rw [P_X9_endWith_b49c_e] at hR
  rw [S_X9_endWith_b49c_e] at hs
  obtain ⟨hx, hb, hr, hml, hts, hown, hlocks, hK, hA⟩ := id C0
  refine lv_aload_n hx hb dX9_endWith_49 rfl (lv_at hl 0 rfl) ?_
  refine lv_iload_n hx hb dX9_endWith_50 rfl (lv_at hl 1 rfl) ?_
  refine lv_iload_n hx hb dX9_endWith_51 rfl (lv_at hl 2 rfl) ?_
  have hs8 := hs.1
  have hs := hs.2
  refine q_Vv (As := [.int v1, .int v2]) (rest := []) (wf := wX9 k a) (R := P_X9_playTrial σ v1 v2) (wd' := wX9 k a (P_X9_playTrial σ v1 v2)) wX9_is [0, 1, 2, 3] 0 9 C0 hW (m_X9_playTrial l D k a H.size σ v1 v2 hs8) (cwV 2 hts gX9_endWith_X9_playTrial rfl rfl rfl hd_X9_playTrial ⟨Nat.le_of_ble_eq_true rfl, Nat.le_of_ble_eq_true rfl⟩) wX9_nd (wX9_pl k a _) rfl (wX9_rec k a _) rfl (wX9_fst k a _ _) (wX9_put k a _ _) hl rfl rfl (Nat.le_of_ble_eq_true rfl) dX9_endWith_52 ⟨Nat.le_refl 0, Nat.le_refl 0⟩ (fun H locs hW => ?_)
  exact b_X9_endWith_b55c l D k a A C0 R (P_X9_playTrial σ v1 v2) v3 hs hR H locs ls hW (lv_sub hl [0, 3] rfl)
set_option maxHeartbeats 400000 in
set_option maxRecDepth 100000 in
theorem b_X9_endWith_b0 {p : Program} {e : Env} {s : State} {m : MethodId} {args : Array Value} {below : List Frame} {meth : Method} {c : Code} (l : Launch) (D : va_G) (k : Nat → ClassId) (a : Nat → Nat) (A : Nat → Prop) (C0 : q_C p s m meth c args RX9 cX9_endWith 4 (some .int) wsX9_endWith D (tyL k) A) (R : Int32 × T2) : ∀ (σ : T2) (v1 : Int32) (v2 : Int32) (v3 : Int32), S_X9_endWith_b0 σ v1 v2 v3 → P_X9_endWith_b0 σ v1 v2 v3 = R → ∀ (H : Heap) (locs : List Loc) (ls : Array Slot), q_W D A s.heap (wX9 k a σ) H locs → lv_has ls 4 [(0, .ref (a 0)), (1, .int v1), (2, .int v2), (3, .int v3)] → W p l e { frames := 6, cells := 0, slots := 0, locals := 155 } s m args below meth c H locs 0 0 (MQ below (va_Qi (fun r u => (r, u) = R) (fun u => q_E D (tyL k) A (wX9 k a u)) A) args s 0 0 A) (F0 m 0 ls []) := by
  intro σ v1 v2 v3 hs hR H locs ls hW hl
  rw [P_X9_endWith_b0_e] at hR
  rw [S_X9_endWith_b0_e] at hs
  obtain ⟨hx, hb, hr, hml, hts, hown, hlocks, hK, hA⟩ := id C0
  have hf10 := hts (.fieldLink RX9 10 "BeatFollower" "scene" "LBeatFollower$Scene;") (by decide +kernel)
  have hf16 := hts (.fieldLink RX9 16 "BeatFollower" "trial" "LBeatFollower$Scene;") (by decide +kernel)
  have hf87 := hts (.fieldLink RX9 87 "BeatFollower$Scene" "plan" "LBeatFollower$Plan;") (by decide +kernel)
  have hinX7 : ∀ w ∈ u_ws RX7 TX7 7, w ∈ wsX9_endWith := hin_X9_endWith_X7
  have hinX9 : ∀ w ∈ u_ws RX9 TX9 7, w ∈ wsX9_endWith := hin_X9_endWith_X9
  refine lv_iload_n hx hb dX9_endWith_0 rfl (lv_at hl 1 rfl) ?_
  refine lv_iconst (v := (0 : Int32)) hx hb dX9_endWith_1 (by decide) ?_
  refine lv_bipush (v := (16 : Int32)) hx hb dX9_endWith_2 (by decide) ?_
  have hs1 := hs.1
  have hs := hs.2
  refine q_Si (As := [.int v1, .int (0 : Int32), .int (16 : Int32)]) (rest := []) (R := P_X9_isIn v1 (0 : Int32) (16 : Int32)) ⟨hx, hb, hml, hown, hts⟩ (m_X9_isIn l v1 (0 : Int32) (16 : Int32) hs1) (va_cwS 3 hts gX9_endWith_X9_isIn rfl rfl rfl hd_X9_isIn ⟨Nat.le_of_ble_eq_true rfl, Nat.le_of_ble_eq_true rfl⟩) hl rfl rfl (Nat.le_of_ble_eq_true rfl) dX9_endWith_4 ⟨Nat.le_refl 0, Nat.le_refl 0⟩ ?_
  refine lv_if_eq (tgt := 29) hx hb dX9_endWith_7 (by decide) (fun c_2 => ?_) (fun c_2 => ?_)
  · have hs := hs.1 c_2
    rw [if_pos c_2] at hR
    refine lv_bipush (v := (-2 : Int32)) hx hb dX9_endWith_29 (by decide) ?_
    exact q_iret C0 hW hR dX9_endWith_31
  · have hs := hs.2 c_2
    rw [if_neg c_2] at hR
    refine lv_iload_n hx hb dX9_endWith_10 rfl (lv_at hl 2 rfl) ?_
    refine lv_iconst (v := (0 : Int32)) hx hb dX9_endWith_11 (by decide) ?_
    refine lv_bipush (v := (16 : Int32)) hx hb dX9_endWith_12 (by decide) ?_
    have hs3 := hs.1
    have hs := hs.2
    refine q_Si (As := [.int v2, .int (0 : Int32), .int (16 : Int32)]) (rest := []) (R := P_X9_isIn v2 (0 : Int32) (16 : Int32)) ⟨hx, hb, hml, hown, hts⟩ (m_X9_isIn l v2 (0 : Int32) (16 : Int32) hs3) (va_cwS 3 hts gX9_endWith_X9_isIn rfl rfl rfl hd_X9_isIn ⟨Nat.le_of_ble_eq_true rfl, Nat.le_of_ble_eq_true rfl⟩) hl rfl rfl (Nat.le_of_ble_eq_true rfl) dX9_endWith_14 ⟨Nat.le_refl 0, Nat.le_refl 0⟩ ?_
    refine lv_if_eq (tgt := 29) hx hb dX9_endWith_17 (by decide) (fun c_4 => ?_) (fun c_4 => ?_)
    · have hs := hs.1 c_4
      rw [if_pos c_4] at hR
      refine lv_bipush (v := (-2 : Int32)) hx hb dX9_endWith_29 (by decide) ?_
      exact q_iret C0 hW hR dX9_endWith_31
    · have hs := hs.2 c_4
      rw [if_neg c_4] at hR
      refine lv_iload_n hx hb dX9_endWith_20 rfl (lv_at hl 3 rfl) ?_
      refine lv_iconst (v := (0 : Int32)) hx hb dX9_endWith_21 (by decide) ?_
      refine lv_iconst (v := (4 : Int32)) hx hb dX9_endWith_22 (by decide) ?_
      have hs5 := hs.1
      have hs := hs.2
      refine q_Si (As := [.int v3, .int (0 : Int32), .int (4 : Int32)]) (rest := []) (R := P_X9_isIn v3 (0 : Int32) (4 : Int32)) ⟨hx, hb, hml, hown, hts⟩ (m_X9_isIn l v3 (0 : Int32) (4 : Int32) hs5) (va_cwS 3 hts gX9_endWith_X9_isIn rfl rfl rfl hd_X9_isIn ⟨Nat.le_of_ble_eq_true rfl, Nat.le_of_ble_eq_true rfl⟩) hl rfl rfl (Nat.le_of_ble_eq_true rfl) dX9_endWith_23 ⟨Nat.le_refl 0, Nat.le_refl 0⟩ ?_
      refine lv_if_ne (tgt := 32) hx hb dX9_endWith_26 (by decide) (fun c_6 => ?_) (fun c_6 => ?_)
      · have hs := hs.2 c_6
        rw [if_neg c_6] at hR
        refine lv_aload_n hx hb dX9_endWith_32 rfl (lv_at hl 0 rfl) ?_
        refine va_get (v := .ref (a 18)) (C := RX9) (T := TX9) (N := 7) hx hb hts hinX9 hown hK hW.1 0 (q_w_get 0 (Nat.le_of_ble_eq_true rfl)) rfl 1 (by decide) hf16 (fun _ h9 => h9) rfl dX9_endWith_33 ?_
        refine va_get (v := .ref (a 20)) (C := RX7) (T := TX7) (N := 7) hx hb hts hinX7 hown hK hW.1 18 (q_w_get 18 (Nat.le_of_ble_eq_true rfl)) rfl 1 (by decide) hf87 (fun _ h9 => h9) rfl dX9_endWith_36 ?_
        refine lv_aload_n hx hb dX9_endWith_39 rfl (lv_at hl 0 rfl) ?_
        refine va_get (v := .ref (a 1)) (C := RX9) (T := TX9) (N := 7) hx hb hts hinX9 hown hK hW.1 0 (q_w_get 0 (Nat.le_of_ble_eq_true rfl)) rfl 0 (by decide) hf10 (fun _ h9 => h9) rfl dX9_endWith_40 ?_
        refine va_get (v := .ref (a 3)) (C := RX7) (T := TX7) (N := 7) hx hb hts hinX7 hown hK hW.1 1 (q_w_get 1 (Nat.le_of_ble_eq_true rfl)) rfl 1 (by decide) hf87 (fun _ h9 => h9) rfl dX9_endWith_43 ?_
        have hs7 := hs.1
        have hs := hs.2
        refine q_Vv (As := [.ref (a 3)]) (rest := []) (wf := wX5_X5 k (sel a 20 3 3)) (R := P_X5_copyFrom (sel σ 20 3 3)) (wd' := wX9 k a (sb2 σ 20 3 3 3 (P_X5_copyFrom (sel σ 20 3 3)))) (wX9_X5_X5_20_3_is) [0, 1, 2, 3] 20 5 C0 hW (m_X5_copyFrom l D k (sel a 20 3 3) H.size (sel σ 20 3 3)  hs7) (cwV 1 hts gX9_endWith_X5_copyFrom rfl rfl rfl hd_X5_copyFrom ⟨Nat.le_of_ble_eq_true rfl, Nat.le_of_ble_eq_true rfl⟩) (wX9_X5_X5_20_3_nd) (wX9_X5_X5_20_3_pl k a _) rfl (q_w_get 20 (Nat.le_of_ble_eq_true rfl)) rfl (wX5_X5_fst k _ _ _) (wX9_X5_X5_20_3_pt k a _ _) hl rfl rfl (Nat.le_of_ble_eq_true rfl) dX9_endWith_46 ⟨Nat.le_refl 0, Nat.le_refl 0⟩ (fun H locs hW => ?_)
        exact b_X9_endWith_b49c l D k a A C0 R (sb2 σ 20 3 3 3 (P_X5_copyFrom (sel σ 20 3 3))) v1 v2 v3 hs hR H locs ls hW (lv_sub hl [0, 1, 2, 3] rfl)
      · have hs := hs.1 c_6
        rw [if_pos c_6] at hR
        refine lv_bipush (v := (-2 : Int32)) hx hb dX9_endWith_29 (by decide) ?_
        exact q_iret C0 hW hR dX9_endWith_31
set_option maxHeartbeats 400000 in
set_option maxRecDepth 100000 in
theorem m_X9_endWith (l : Launch) (D : va_G) (k : Nat → ClassId) (a : Nat → Nat) (sz : Nat) (σ : T2) (p0 : Int32) (p1 : Int32) (p2 : Int32) (hs : S_X9_endWith σ p0 p1 p2) : Met l yX9_endWith wsX9_endWith { frames := 6, cells := 0, slots := 0, locals := 155 } (va_Pc [.ref (a 0), .int p0, .int p1, .int p2] (q_B D (tyL k) (wX9 k a σ) sz)) (va_Qi (fun r u => (r, u) = P_X9_endWith σ p0 p1 p2) (fun u => q_E D (tyL k) (va_A (wX9 k a σ) sz) (wX9 k a u)) (va_A (wX9 k a σ) sz)) 0 0 (va_A (wX9 k a σ) sz) := by
  refine q_met [.ref (a 0), .int p0, .int p1, .int p2] (wX9 k a σ) sz (cc := cX9_endWith) (maxL := 4) (ret := (some .int)) (by decide) rfl (Nat.le_of_ble_eq_true rfl) ?_
  intro p e s m args below meth c ls hsz C0 hW hl hin
  subst hsz
  exact b_X9_endWith_b0 l D k a _ C0 _ σ p0 p1 p2 hs rfl s.heap [] ls hW (lv_sub hl [0, 1, 2, 3] rfl)
theorem hin_X9_bestNudge_X5 : ∀ w ∈ u_ws RX5 TX5 3, w ∈ wsX9_bestNudge := by decide +kernel
theorem hin_X9_bestNudge_X7 : ∀ w ∈ u_ws RX7 TX7 7, w ∈ wsX9_bestNudge := by decide +kernel
theorem hin_X9_bestNudge_X8 : ∀ w ∈ u_ws RX8 TX8 10, w ∈ wsX9_bestNudge := by decide +kernel
theorem hin_X9_bestNudge_X9 : ∀ w ∈ u_ws RX9 TX9 7, w ∈ wsX9_bestNudge := by decide +kernel
theorem hd_X9_bestNudge : yX9_bestNudge.cls = RX9 ∧ yX9_bestNudge.cls ≠ "java/lang/invoke/MethodHandle" ∧ yX9_bestNudge.cls ≠ "java/lang/invoke/VarHandle" ∧ (parseMethodDescriptor yX9_bestNudge.desc).map (fun d => d.parameters.length) = some 1 := by decide +kernel
noncomputable def P_X9_bestNudge_b160 (pk58 : T2 → Int32 → Int32 → Int32 → Int32 → Int32 → Int32 × T2) (σ : T2) (v1 : Int32) (v2 : Int32) (v3 : Int32) (v4 : Int32) (v5 : Int32) : Int32 × T2 := pk58 σ v1 v2 v3 v4 (v5 + (1 : Int32))
def S_X9_bestNudge_b160 (sk58 : T2 → Int32 → Int32 → Int32 → Int32 → Int32 → Prop) (σ : T2) (v1 : Int32) (v2 : Int32) (v3 : Int32) (v4 : Int32) (v5 : Int32) : Prop := sk58 σ v1 v2 v3 v4 (v5 + (1 : Int32))
theorem P_X9_bestNudge_b160_e (pk58 : T2 → Int32 → Int32 → Int32 → Int32 → Int32 → Int32 × T2) (σ : T2) (v1 : Int32) (v2 : Int32) (v3 : Int32) (v4 : Int32) (v5 : Int32) : P_X9_bestNudge_b160 pk58 σ v1 v2 v3 v4 v5 = pk58 σ v1 v2 v3 v4 (v5 + (1 : Int32)) := rfl
theorem S_X9_bestNudge_b160_e (sk58 : T2 → Int32 → Int32 → Int32 → Int32 → Int32 → Prop) (σ : T2) (v1 : Int32) (v2 : Int32) (v3 : Int32) (v4 : Int32) (v5 : Int32) : S_X9_bestNudge_b160 sk58 σ v1 v2 v3 v4 v5 = (sk58 σ v1 v2 v3 v4 (v5 + (1 : Int32))) := rfl
noncomputable def P_X9_bestNudge_b150 (pk58 : T2 → Int32 → Int32 → Int32 → Int32 → Int32 → Int32 × T2) (σ : T2) (v1 : Int32) (v5 : Int32) (v6 : Int32) (v7 : Int32) : Int32 × T2 := P_X9_bestNudge_b160 pk58 σ v1 v5 v6 v7 v5
def S_X9_bestNudge_b150 (sk58 : T2 → Int32 → Int32 → Int32 → Int32 → Int32 → Prop) (σ : T2) (v1 : Int32) (v5 : Int32) (v6 : Int32) (v7 : Int32) : Prop := S_X9_bestNudge_b160 sk58 σ v1 v5 v6 v7 v5
theorem P_X9_bestNudge_b150_e (pk58 : T2 → Int32 → Int32 → Int32 → Int32 → Int32 → Int32 × T2) (σ : T2) (v1 : Int32) (v5 : Int32) (v6 : Int32) (v7 : Int32) : P_X9_bestNudge_b150 pk58 σ v1 v5 v6 v7 = P_X9_bestNudge_b160 pk58 σ v1 v5 v6 v7 v5 := rfl
theorem S_X9_bestNudge_b150_e (sk58 : T2 → Int32 → Int32 → Int32 → Int32 → Int32 → Prop) (σ : T2) (v1 : Int32) (v5 : Int32) (v6 : Int32) (v7 : Int32) : S_X9_bestNudge_b150 sk58 σ v1 v5 v6 v7 = (S_X9_bestNudge_b160 sk58 σ v1 v5 v6 v7 v5) := rfl
noncomputable def P_X9_bestNudge_b107c (pk58 : T2 → Int32 → Int32 → Int32 → Int32 → Int32 → Int32 × T2) (σ : T2) (v1 : Int32) (v2 : Int32) (v3 : Int32) (v4 : Int32) (v5 : Int32) : Int32 × T2 := if (σ 34 6) < v3 then (P_X9_bestNudge_b150 pk58 σ v1 v5 (σ 34 6) (σ 34 8)) else (if (σ 34 6) = v3 then (if v4 ≤ (σ 34 8) then (P_X9_bestNudge_b160 pk58 σ v1 v2 v3 v4 v5) else (P_X9_bestNudge_b150 pk58 σ v1 v5 (σ 34 6) (σ 34 8))) else (P_X9_bestNudge_b160 pk58 σ v1 v2 v3 v4 v5))
def S_X9_bestNudge_b107c (sk58 : T2 → Int32 → Int32 → Int32 → Int32 → Int32 → Prop) (σ : T2) (v1 : Int32) (v2 : Int32) (v3 : Int32) (v4 : Int32) (v5 : Int32) : Prop := ((σ 34 6) < v3 → (S_X9_bestNudge_b150 sk58 σ v1 v5 (σ 34 6) (σ 34 8))) ∧ (¬ ((σ 34 6) < v3) → (((σ 34 6) = v3 → ((v4 ≤ (σ 34 8) → (S_X9_bestNudge_b160 sk58 σ v1 v2 v3 v4 v5)) ∧ (¬ (v4 ≤ (σ 34 8)) → (S_X9_bestNudge_b150 sk58 σ v1 v5 (σ 34 6) (σ 34 8))))) ∧ (¬ ((σ 34 6) = v3) → (S_X9_bestNudge_b160 sk58 σ v1 v2 v3 v4 v5))))
theorem P_X9_bestNudge_b107c_e (pk58 : T2 → Int32 → Int32 → Int32 → Int32 → Int32 → Int32 × T2) (σ : T2) (v1 : Int32) (v2 : Int32) (v3 : Int32) (v4 : Int32) (v5 : Int32) : P_X9_bestNudge_b107c pk58 σ v1 v2 v3 v4 v5 = if (σ 34 6) < v3 then (P_X9_bestNudge_b150 pk58 σ v1 v5 (σ 34 6) (σ 34 8)) else (if (σ 34 6) = v3 then (if v4 ≤ (σ 34 8) then (P_X9_bestNudge_b160 pk58 σ v1 v2 v3 v4 v5) else (P_X9_bestNudge_b150 pk58 σ v1 v5 (σ 34 6) (σ 34 8))) else (P_X9_bestNudge_b160 pk58 σ v1 v2 v3 v4 v5)) := rfl
theorem S_X9_bestNudge_b107c_e (sk58 : T2 → Int32 → Int32 → Int32 → Int32 → Int32 → Prop) (σ : T2) (v1 : Int32) (v2 : Int32) (v3 : Int32) (v4 : Int32) (v5 : Int32) : S_X9_bestNudge_b107c sk58 σ v1 v2 v3 v4 v5 = (((σ 34 6) < v3 → (S_X9_bestNudge_b150 sk58 σ v1 v5 (σ 34 6) (σ 34 8))) ∧ (¬ ((σ 34 6) < v3) → (((σ 34 6) = v3 → ((v4 ≤ (σ 34 8) → (S_X9_bestNudge_b160 sk58 σ v1 v2 v3 v4 v5)) ∧ (¬ (v4 ≤ (σ 34 8)) → (S_X9_bestNudge_b150 sk58 σ v1 v5 (σ 34 6) (σ 34 8))))) ∧ (¬ ((σ 34 6) = v3) → (S_X9_bestNudge_b160 sk58 σ v1 v2 v3 v4 v5))))) := rfl
noncomputable def P_X9_bestNudge_b104 (pk58 : T2 → Int32 → Int32 → Int32 → Int32 → Int32 → Int32 × T2) (σ : T2) (v1 : Int32) (v2 : Int32) (v3 : Int32) (v4 : Int32) (v5 : Int32) (t0 : Int32) (t1 : Int32) : Int32 × T2 := P_X9_bestNudge_b107c pk58 (P_X9_playTrial σ t1 t0) v1 v2 v3 v4 v5
def S_X9_bestNudge_b104 (sk58 : T2 → Int32 → Int32 → Int32 → Int32 → Int32 → Prop) (σ : T2) (v1 : Int32) (v2 : Int32) (v3 : Int32) (v4 : Int32) (v5 : Int32) (t0 : Int32) (t1 : Int32) : Prop := (S_X9_playTrial σ t1 t0) ∧ (S_X9_bestNudge_b107c sk58 (P_X9_playTrial σ t1 t0) v1 v2 v3 v4 v5)
theorem P_X9_bestNudge_b104_e (pk58 : T2 → Int32 → Int32 → Int32 → Int32 → Int32 → Int32 × T2) (σ : T2) (v1 : Int32) (v2 : Int32) (v3 : Int32) (v4 : Int32) (v5 : Int32) (t0 : Int32) (t1 : Int32) : P_X9_bestNudge_b104 pk58 σ v1 v2 v3 v4 v5 t0 t1 = P_X9_bestNudge_b107c pk58 (P_X9_playTrial σ t1 t0) v1 v2 v3 v4 v5 := rfl
theorem S_X9_bestNudge_b104_e (sk58 : T2 → Int32 → Int32 → Int32 → Int32 → Int32 → Prop) (σ : T2) (v1 : Int32) (v2 : Int32) (v3 : Int32) (v4 : Int32) (v5 : Int32) (t0 : Int32) (t1 : Int32) : S_X9_bestNudge_b104 sk58 σ v1 v2 v3 v4 v5 t0 t1 = ((S_X9_playTrial σ t1 t0) ∧ (S_X9_bestNudge_b107c sk58 (P_X9_playTrial σ t1 t0) v1 v2 v3 v4 v5)) := rfl
noncomputable def P_X9_bestNudge_b85 (pk58 : T2 → Int32 → Int32 → Int32 → Int32 → Int32 → Int32 × T2) (σ : T2) (v1 : Int32) (v2 : Int32) (v3 : Int32) (v4 : Int32) (v5 : Int32) (t0 : Int32) : Int32 × T2 := if v1 = (3 : Int32) then (P_X9_bestNudge_b104 pk58 σ v1 v2 v3 v4 v5 v5 t0) else (P_X9_bestNudge_b104 pk58 σ v1 v2 v3 v4 v5 (σ 2 3) t0)
def S_X9_bestNudge_b85 (sk58 : T2 → Int32 → Int32 → Int32 → Int32 → Int32 → Prop) (σ : T2) (v1 : Int32) (v2 : Int32) (v3 : Int32) (v4 : Int32) (v5 : Int32) (t0 : Int32) : Prop := (v1 = (3 : Int32) → (S_X9_bestNudge_b104 sk58 σ v1 v2 v3 v4 v5 v5 t0)) ∧ (¬ (v1 = (3 : Int32)) → (S_X9_bestNudge_b104 sk58 σ v1 v2 v3 v4 v5 (σ 2 3) t0))
theorem P_X9_bestNudge_b85_e (pk58 : T2 → Int32 → Int32 → Int32 → Int32 → Int32 → Int32 × T2) (σ : T2) (v1 : Int32) (v2 : Int32) (v3 : Int32) (v4 : Int32) (v5 : Int32) (t0 : Int32) : P_X9_bestNudge_b85 pk58 σ v1 v2 v3 v4 v5 t0 = if v1 = (3 : Int32) then (P_X9_bestNudge_b104 pk58 σ v1 v2 v3 v4 v5 v5 t0) else (P_X9_bestNudge_b104 pk58 σ v1 v2 v3 v4 v5 (σ 2 3) t0) := rfl
theorem S_X9_bestNudge_b85_e (sk58 : T2 → Int32 → Int32 → Int32 → Int32 → Int32 → Prop) (σ : T2) (v1 : Int32) (v2 : Int32) (v3 : Int32) (v4 : Int32) (v5 : Int32) (t0 : Int32) : S_X9_bestNudge_b85 sk58 σ v1 v2 v3 v4 v5 t0 = ((v1 = (3 : Int32) → (S_X9_bestNudge_b104 sk58 σ v1 v2 v3 v4 v5 v5 t0)) ∧ (¬ (v1 = (3 : Int32)) → (S_X9_bestNudge_b104 sk58 σ v1 v2 v3 v4 v5 (σ 2 3) t0))) := rfl
noncomputable def P_X9_bestNudge_b58 (n : Nat) : T2 → Int32 → Int32 → Int32 → Int32 → Int32 → Int32 × T2 := Nat.rec (motive := fun _ => T2 → Int32 → Int32 → Int32 → Int32 → Int32 → Int32 × T2) (fun _ _ _ _ _ _ => (0, fun _ _ => 0)) (fun _ pk58 => fun σ v1 v2 v3 v4 v5 => if (16 : Int32) < v5 then ((v2, σ)) else (if v1 = (2 : Int32) then (P_X9_bestNudge_b85 pk58 σ v1 v2 v3 v4 v5 v5) else (P_X9_bestNudge_b85 pk58 σ v1 v2 v3 v4 v5 (σ 2 2)))) n
def S_X9_bestNudge_b58 (n : Nat) : T2 → Int32 → Int32 → Int32 → Int32 → Int32 → Prop := Nat.rec (motive := fun _ => T2 → Int32 → Int32 → Int32 → Int32 → Int32 → Prop) (fun _ _ _ _ _ _ => False) (fun _ sk58 => fun σ v1 v2 v3 v4 v5 => ((16 : Int32) < v5 → (True)) ∧ (¬ ((16 : Int32) < v5) → ((v1 = (2 : Int32) → (S_X9_bestNudge_b85 sk58 σ v1 v2 v3 v4 v5 v5)) ∧ (¬ (v1 = (2 : Int32)) → (S_X9_bestNudge_b85 sk58 σ v1 v2 v3 v4 v5 (σ 2 2)))))) n
theorem P_X9_bestNudge_b58_e (n : Nat) (σ : T2) (v1 : Int32) (v2 : Int32) (v3 : Int32) (v4 : Int32) (v5 : Int32) : P_X9_bestNudge_b58 (n + 1) σ v1 v2 v3 v4 v5 = if (16 : Int32) < v5 then ((v2, σ)) else (if v1 = (2 : Int32) then (P_X9_bestNudge_b85 (P_X9_bestNudge_b58 n) σ v1 v2 v3 v4 v5 v5) else (P_X9_bestNudge_b85 (P_X9_bestNudge_b58 n) σ v1 v2 v3 v4 v5 (σ 2 2))) := rfl
theorem S_X9_bestNudge_b58_e (n : Nat) (σ : T2) (v1 : Int32) (v2 : Int32) (v3 : Int32) (v4 : Int32) (v5 : Int32) : S_X9_bestNudge_b58 (n + 1) σ v1 v2 v3 v4 v5 = (((16 : Int32) < v5 → (True)) ∧ (¬ ((16 : Int32) < v5) → ((v1 = (2 : Int32) → (S_X9_bestNudge_b85 (S_X9_bestNudge_b58 n) σ v1 v2 v3 v4 v5 v5)) ∧ (¬ (v1 = (2 : Int32)) → (S_X9_bestNudge_b85 (S_X9_bestNudge_b58 n) σ v1 v2 v3 v4 v5 (σ 2 2)))))) := rfl
noncomputable def P_X9_bestNudge_b46c (σ : T2) (v1 : Int32) : Int32 × T2 := P_X9_bestNudge_b58 FU σ v1 (0 : Int32) (1000000 : Int32) (1000000 : Int32) (0 : Int32)
def S_X9_bestNudge_b46c (σ : T2) (v1 : Int32) : Prop := S_X9_bestNudge_b58 FU σ v1 (0 : Int32) (1000000 : Int32) (1000000 : Int32) (0 : Int32)
theorem P_X9_bestNudge_b46c_e (σ : T2) (v1 : Int32) : P_X9_bestNudge_b46c σ v1 = P_X9_bestNudge_b58 FU σ v1 (0 : Int32) (1000000 : Int32) (1000000 : Int32) (0 : Int32) := rfl
theorem S_X9_bestNudge_b46c_e (σ : T2) (v1 : Int32) : S_X9_bestNudge_b46c σ v1 = (S_X9_bestNudge_b58 FU σ v1 (0 : Int32) (1000000 : Int32) (1000000 : Int32) (0 : Int32)) := rfl
noncomputable def P_X9_bestNudge_b13 (σ : T2) (v1 : Int32) : Int32 × T2 := if (σ 3 2) = 0 then (((-6 : Int32), σ)) else (P_X9_bestNudge_b46c (sb2 σ 20 3 3 3 (P_X5_copyFrom (sel σ 20 3 3))) v1)
def S_X9_bestNudge_b13 (σ : T2) (v1 : Int32) : Prop := ((σ 3 2) = 0 → (True)) ∧ (¬ ((σ 3 2) = 0) → ((S_X5_copyFrom (sel σ 20 3 3) ) ∧ (S_X9_bestNudge_b46c (sb2 σ 20 3 3 3 (P_X5_copyFrom (sel σ 20 3 3))) v1)))
theorem P_X9_bestNudge_b13_e (σ : T2) (v1 : Int32) : P_X9_bestNudge_b13 σ v1 = if (σ 3 2) = 0 then (((-6 : Int32), σ)) else (P_X9_bestNudge_b46c (sb2 σ 20 3 3 3 (P_X5_copyFrom (sel σ 20 3 3))) v1) := rfl
theorem S_X9_bestNudge_b13_e (σ : T2) (v1 : Int32) : S_X9_bestNudge_b13 σ v1 = (((σ 3 2) = 0 → (True)) ∧ (¬ ((σ 3 2) = 0) → ((S_X5_copyFrom (sel σ 20 3 3) ) ∧ (S_X9_bestNudge_b46c (sb2 σ 20 3 3 3 (P_X5_copyFrom (sel σ 20 3 3))) v1)))) := rfl
noncomputable def P_X9_bestNudge_b0 (σ : T2) (v1 : Int32) : Int32 × T2 := if v1 = (2 : Int32) then (P_X9_bestNudge_b13 σ v1) else (if v1 = (3 : Int32) then (P_X9_bestNudge_b13 σ v1) else (((-2 : Int32), σ)))
def S_X9_bestNudge_b0 (σ : T2) (v1 : Int32) : Prop := (v1 = (2 : Int32) → (S_X9_bestNudge_b13 σ v1)) ∧ (¬ (v1 = (2 : Int32)) → ((v1 = (3 : Int32) → (S_X9_bestNudge_b13 σ v1)) ∧ (¬ (v1 = (3 : Int32)) → (True))))
theorem P_X9_bestNudge_b0_e (σ : T2) (v1 : Int32) : P_X9_bestNudge_b0 σ v1 = if v1 = (2 : Int32) then (P_X9_bestNudge_b13 σ v1) else (if v1 = (3 : Int32) then (P_X9_bestNudge_b13 σ v1) else (((-2 : Int32), σ))) := rfl
theorem S_X9_bestNudge_b0_e (σ : T2) (v1 : Int32) : S_X9_bestNudge_b0 σ v1 = ((v1 = (2 : Int32) → (S_X9_bestNudge_b13 σ v1)) ∧ (¬ (v1 = (2 : Int32)) → ((v1 = (3 : Int32) → (S_X9_bestNudge_b13 σ v1)) ∧ (¬ (v1 = (3 : Int32)) → (True))))) := rfl
noncomputable def P_X9_bestNudge (σ : T2) (p0 : Int32) : Int32 × T2 := P_X9_bestNudge_b0 σ p0
def S_X9_bestNudge (σ : T2) (p0 : Int32) : Prop := S_X9_bestNudge_b0 σ p0
set_option maxHeartbeats 400000 in
set_option maxRecDepth 100000 in
theorem b_X9_bestNudge_b160 {p : Program} {e : Env} {s : State} {m : MethodId} {args : Array Value} {below : List Frame} {meth : Method} {c : Code} (l : Launch) (D : va_G) (k : Nat → ClassId) (a : Nat → Nat) (A : Nat → Prop) (C0 : q_C p s m meth c args RX9 cX9_bestNudge 8 (some .int) wsX9_bestNudge D (tyL k) A) (R : Int32 × T2) (pk58 : T2 → Int32 → Int32 → Int32 → Int32 → Int32 → Int32 × T2) (sk58 : T2 → Int32 → Int32 → Int32 → Int32 → Int32 → Prop) (hk58 : ∀ (σ : T2) (v1 : Int32) (v2 : Int32) (v3 : Int32) (v4 : Int32) (v5 : Int32), sk58 σ v1 v2 v3 v4 v5 → pk58 σ v1 v2 v3 v4 v5 = R → ∀ (H : Heap) (locs : List Loc) (ls : Array Slot), q_W D A s.heap (wX9 k a σ) H locs → lv_has ls 8 [(0, .ref (a 0)), (1, .int v1), (2, .int v2), (3, .int v3), (4, .int v4), (5, .int v5)] → W p l e { frames := 6, cells := 0, slots := 0, locals := 155 } s m args below meth c H locs 0 0 (MQ below (va_Qi (fun r u => (r, u) = R) (fun u => q_E D (tyL k) A (wX9 k a u)) A) args s 0 0 A) (F0 m 58 ls [])) : ∀ (σ : T2) (v1 : Int32) (v2 : Int32) (v3 : Int32) (v4 : Int32) (v5 : Int32), S_X9_bestNudge_b160 sk58 σ v1 v2 v3 v4 v5 → P_X9_bestNudge_b160 pk58 σ v1 v2 v3 v4 v5 = R → ∀ (H : Heap) (locs : List Loc) (ls : Array Slot), q_W D A s.heap (wX9 k a σ) H locs → lv_has ls 8 [(0, .ref (a 0)), (1, .int v1), (2, .int v2), (3, .int v3), (4, .int v4), (5, .int v5)] → W p l e { frames := 6, cells := 0, slots := 0, locals := 155 } s m args below meth c H locs 0 0 (MQ below (va_Qi (fun r u => (r, u) = R) (fun u => q_E D (tyL k) A (wX9 k a u)) A) args s 0 0 A) (F0 m 160 ls []) := by
  intro σ v1 v2 v3 v4 v5 hs hR H locs ls hW hl
  rw [P_X9_bestNudge_b160_e] at hR
  rw [S_X9_bestNudge_b160_e] at hs
  obtain ⟨hx, hb, hr, hml, hts, hown, hlocks, hK, hA⟩ := id C0
  refine lv_iinc (v := v5 + (1 : Int32)) (lv' := [(5, .int (v5 + (1 : Int32))), (0, .ref (a 0)), (1, .int v1), (2, .int v2), (3, .int v3), (4, .int v4)]) hx hb dX9_bestNudge_160 hl (k := 5) rfl rfl (by decide) rfl (fun ls hl => ?_)
  refine lv_goto (tgt := 58) hx hb dX9_bestNudge_163 (by decide) ?_
  exact hk58 σ v1 v2 v3 v4 (v5 + (1 : Int32)) hs hR H locs ls hW (lv_sub hl [1, 2, 3, 4, 5, 0] rfl)
set_option maxHeartbeats 400000 in
set_option maxRecDepth 100000 in
theorem b_X9_bestNudge_b150 {p : Program} {e : Env} {s : State} {m : MethodId} {args : Array Value} {below : List Frame} {meth : Method} {c : Code} (l : Launch) (D : va_G) (k : Nat → ClassId) (a : Nat → Nat) (A : Nat → Prop) (C0 : q_C p s m meth c args RX9 cX9_bestNudge 8 (some .int) wsX9_bestNudge D (tyL k) A) (R : Int32 × T2) (pk58 : T2 → Int32 → Int32 → Int32 → Int32 → Int32 → Int32 × T2) (sk58 : T2 → Int32 → Int32 → Int32 → Int32 → Int32 → Prop) (hk58 : ∀ (σ : T2) (v1 : Int32) (v2 : Int32) (v3 : Int32) (v4 : Int32) (v5 : Int32), sk58 σ v1 v2 v3 v4 v5 → pk58 σ v1 v2 v3 v4 v5 = R → ∀ (H : Heap) (locs : List Loc) (ls : Array Slot), q_W D A s.heap (wX9 k a σ) H locs → lv_has ls 8 [(0, .ref (a 0)), (1, .int v1), (2, .int v2), (3, .int v3), (4, .int v4), (5, .int v5)] → W p l e { frames := 6, cells := 0, slots := 0, locals := 155 } s m args below meth c H locs 0 0 (MQ below (va_Qi (fun r u => (r, u) = R) (fun u => q_E D (tyL k) A (wX9 k a u)) A) args s 0 0 A) (F0 m 58 ls [])) : ∀ (σ : T2) (v1 : Int32) (v5 : Int32) (v6 : Int32) (v7 : Int32), S_X9_bestNudge_b150 sk58 σ v1 v5 v6 v7 → P_X9_bestNudge_b150 pk58 σ v1 v5 v6 v7 = R → ∀ (H : Heap) (locs : List Loc) (ls : Array Slot), q_W D A s.heap (wX9 k a σ) H locs → lv_has ls 8 [(0, .ref (a 0)), (1, .int v1), (5, .int v5), (6, .int v6), (7, .int v7)] → W p l e { frames := 6, cells := 0, slots := 0, locals := 155 } s m args below meth c H locs 0 0 (MQ below (va_Qi (fun r u => (r, u) = R) (fun u => q_E D (tyL k) A (wX9 k a u)) A) args s 0 0 A) (F0 m 150 ls []) := by
  intro σ v1 v5 v6 v7 hs hR H locs ls hW hl
  rw [P_X9_bestNudge_b150_e] at hR
  rw [S_X9_bestNudge_b150_e] at hs
  obtain ⟨hx, hb, hr, hml, hts, hown, hlocks, hK, hA⟩ := id C0
  refine lv_iload hx hb dX9_bestNudge_150 (lv_at hl 2 rfl) ?_
  refine lv_istore_n (lv' := [(2, .int v5), (0, .ref (a 0)), (1, .int v1), (5, .int v5), (6, .int v6), (7, .int v7)]) hx hb dX9_bestNudge_152 rfl hl (by decide) rfl (fun ls hl => ?_)
  refine lv_iload hx hb dX9_bestNudge_153 (lv_at hl 4 rfl) ?_
  refine lv_istore_n (lv' := [(3, .int v6), (2, .int v5), (0, .ref (a 0)), (1, .int v1), (5, .int v5), (6, .int v6), (7, .int v7)]) hx hb dX9_bestNudge_155 rfl hl (by decide) rfl (fun ls hl => ?_)
  refine lv_iload hx hb dX9_bestNudge_156 (lv_at hl 6 rfl) ?_
  refine lv_istore (lv' := [(4, .int v7), (3, .int v6), (2, .int v5), (0, .ref (a 0)), (1, .int v1), (5, .int v5), (6, .int v6), (7, .int v7)]) hx hb dX9_bestNudge_158 hl (by decide) rfl (fun ls hl => ?_)
  exact b_X9_bestNudge_b160 l D k a A C0 R pk58 sk58 hk58 σ v1 v5 v6 v7 v5 hs hR H locs ls hW (lv_sub hl [3, 4, 2, 1, 0, 5] rfl)
set_option maxHeartbeats 400000 in
set_option maxRecDepth 100000 in
theorem b_X9_bestNudge_b107c {p : Program} {e : Env} {s : State} {m : MethodId} {args : Array Value} {below : List Frame} {meth : Method} {c : Code} (l : Launch) (D : va_G) (k : Nat → ClassId) (a : Nat → Nat) (A : Nat → Prop) (C0 : q_C p s m meth c args RX9 cX9_bestNudge 8 (some .int) wsX9_bestNudge D (tyL k) A) (R : Int32 × T2) (pk58 : T2 → Int32 → Int32 → Int32 → Int32 → Int32 → Int32 × T2) (sk58 : T2 → Int32 → Int32 → Int32 → Int32 → Int32 → Prop) (hk58 : ∀ (σ : T2) (v1 : Int32) (v2 : Int32) (v3 : Int32) (v4 : Int32) (v5 : Int32), sk58 σ v1 v2 v3 v4 v5 → pk58 σ v1 v2 v3 v4 v5 = R → ∀ (H : Heap) (locs : List Loc) (ls : Array Slot), q_W D A s.heap (wX9 k a σ) H locs → lv_has ls 8 [(0, .ref (a 0)), (1, .int v1), (2, .int v2), (3, .int v3), (4, .int v4), (5, .int v5)] → W p l e { frames := 6, cells := 0, slots := 0, locals := 155 } s m args below meth c H locs 0 0 (MQ below (va_Qi (fun r u => (r, u) = R) (fun u => q_E D (tyL k) A (wX9 k a u)) A) args s 0 0 A) (F0 m 58 ls [])) : ∀ (σ : T2) (v1 : Int32) (v2 : Int32) (v3 : Int32) (v4 : Int32) (v5 : Int32), S_X9_bestNudge_b107c sk58 σ v1 v2 v3 v4 v5 → P_X9_bestNudge_b107c pk58 σ v1 v2 v3 v4 v5 = R → ∀ (H : Heap) (locs : List Loc) (ls : Array Slot), q_W D A s.heap (wX9 k a σ) H locs → lv_has ls 8 [(0, .ref (a 0)), (1, .int v1), (2, .int v2), (3, .int v3), (4, .int v4), (5, .int v5)] → W p l e { frames := 6, cells := 0, slots := 0, locals := 155 } s m args below meth c H locs 0 0 (MQ below (va_Qi (fun r u => (r, u) = R) (fun u => q_E D (tyL k) A (wX9 k a u)) A) args s 0 0 A) (F0 m 107 ls []) := by
  intro σ v1 v2 v3 v4 v5 hs hR H locs ls hW hl
  rw [P_X9_bestNudge_b107c_e] at hR
  rw [S_X9_bestNudge_b107c_e] at hs
  obtain ⟨hx, hb, hr, hml, hts, hown, hlocks, hK, hA⟩ := id C0
  have hf16 := hts (.fieldLink RX9 16 "BeatFollower" "trial" "LBeatFollower$Scene;") (by decide +kernel)
  have hf113 := hts (.fieldLink RX9 113 "BeatFollower$Scene" "tally" "LBeatFollower$Tally;") (by decide +kernel)
  have hf199 := hts (.fieldLink RX9 199 "BeatFollower$Tally" "slipsTold" "I") (by decide +kernel)
  have hf234 := hts (.fieldLink RX9 234 "BeatFollower$Tally" "offSum" "I") (by decide +kernel)
  have hinX7 : ∀ w ∈ u_ws RX7 TX7 7, w ∈ wsX9_bestNudge := hin_X9_bestNudge_X7
  have hinX8 : ∀ w ∈ u_ws RX8 TX8 10, w ∈ wsX9_bestNudge := hin_X9_bestNudge_X8
  have hinX9 : ∀ w ∈ u_ws RX9 TX9 7, w ∈ wsX9_bestNudge := hin_X9_bestNudge_X9
  refine lv_aload_n hx hb dX9_bestNudge_107 rfl (lv_at hl 0 rfl) ?_
  refine va_get (v := .ref (a 18)) (C := RX9) (T := TX9) (N := 7) hx hb hts hinX9 hown hK hW.1 0 (q_w_get 0 (Nat.le_of_ble_eq_true rfl)) rfl 1 (by decide) hf16 (fun _ h9 => h9) rfl dX9_bestNudge_108 ?_
  refine va_get (v := .ref (a 34)) (C := RX7) (T := TX7) (N := 7) hx hb hts hinX7 hown hK hW.1 18 (q_w_get 18 (Nat.le_of_ble_eq_true rfl)) rfl 5 (by decide) hf113 (fun _ h9 => h9) rfl dX9_bestNudge_111 ?_
  refine va_get (v := .int (σ 34 6)) (C := RX8) (T := TX8) (N := 10) hx hb hts hinX8 hown hK hW.1 34 (q_w_get 34 (Nat.le_of_ble_eq_true rfl)) rfl 6 (by decide) hf199 (fun _ h9 => h9) rfl dX9_bestNudge_114 ?_
  refine lv_istore (lv' := [(6, .int (σ 34 6)), (0, .ref (a 0)), (1, .int v1), (2, .int v2), (3, .int v3), (4, .int v4), (5, .int v5)]) hx hb dX9_bestNudge_117 hl (by decide) rfl (fun ls hl => ?_)
  refine lv_aload_n hx hb dX9_bestNudge_119 rfl (lv_at hl 1 rfl) ?_
  refine va_get (v := .ref (a 18)) (C := RX9) (T := TX9) (N := 7) hx hb hts hinX9 hown hK hW.1 0 (q_w_get 0 (Nat.le_of_ble_eq_true rfl)) rfl 1 (by decide) hf16 (fun _ h9 => h9) rfl dX9_bestNudge_120 ?_
  refine va_get (v := .ref (a 34)) (C := RX7) (T := TX7) (N := 7) hx hb hts hinX7 hown hK hW.1 18 (q_w_get 18 (Nat.le_of_ble_eq_true rfl)) rfl 5 (by decide) hf113 (fun _ h9 => h9) rfl dX9_bestNudge_123 ?_
  refine va_get (v := .int (σ 34 8)) (C := RX8) (T := TX8) (N := 10) hx hb hts hinX8 hown hK hW.1 34 (q_w_get 34 (Nat.le_of_ble_eq_true rfl)) rfl 8 (by decide) hf234 (fun _ h9 => h9) rfl dX9_bestNudge_126 ?_
  refine lv_istore (lv' := [(7, .int (σ 34 8)), (6, .int (σ 34 6)), (0, .ref (a 0)), (1, .int v1), (2, .int v2), (3, .int v3), (4, .int v4), (5, .int v5)]) hx hb dX9_bestNudge_129 hl (by decide) rfl (fun ls hl => ?_)
  refine lv_iload hx hb dX9_bestNudge_131 (lv_at hl 1 rfl) ?_
  refine lv_iload_n hx hb dX9_bestNudge_133 rfl (lv_at hl 5 rfl) ?_
  refine lv_icmp_lt (tgt := 150) hx hb dX9_bestNudge_134 (by decide) (fun c_8 => ?_) (fun c_8 => ?_)
  · have hs := hs.1 c_8
    rw [if_pos c_8] at hR
    exact b_X9_bestNudge_b150 l D k a A C0 R pk58 sk58 hk58 σ v1 v5 (σ 34 6) (σ 34 8) hs hR H locs ls hW (lv_sub hl [2, 3, 7, 1, 0] rfl)
  · have hs := hs.2 c_8
    rw [if_neg c_8] at hR
    refine lv_iload hx hb dX9_bestNudge_137 (lv_at hl 1 rfl) ?_
    refine lv_iload_n hx hb dX9_bestNudge_139 rfl (lv_at hl 5 rfl) ?_
    refine lv_icmp_ne (tgt := 160) hx hb dX9_bestNudge_140 (by decide) (fun c_9 => ?_) (fun c_9 => ?_)
    · have hs := hs.2 c_9
      rw [if_neg c_9] at hR
      exact b_X9_bestNudge_b160 l D k a A C0 R pk58 sk58 hk58 σ v1 v2 v3 v4 v5 hs hR H locs ls hW (lv_sub hl [2, 3, 4, 5, 6, 7] rfl)
    · have hs := hs.1 c_9
      rw [if_pos c_9] at hR
      refine lv_iload hx hb dX9_bestNudge_143 (lv_at hl 0 rfl) ?_
      refine lv_iload hx hb dX9_bestNudge_145 (lv_at hl 6 rfl) ?_
      refine lv_icmp_ge (tgt := 160) hx hb dX9_bestNudge_147 (by decide) (fun c_10 => ?_) (fun c_10 => ?_)
      · have hs := hs.1 c_10
        rw [if_pos c_10] at hR
        exact b_X9_bestNudge_b160 l D k a A C0 R pk58 sk58 hk58 σ v1 v2 v3 v4 v5 hs hR H locs ls hW (lv_sub hl [2, 3, 4, 5, 6, 7] rfl)
      · have hs := hs.2 c_10
        rw [if_neg c_10] at hR
        exact b_X9_bestNudge_b150 l D k a A C0 R pk58 sk58 hk58 σ v1 v5 (σ 34 6) (σ 34 8) hs hR H locs ls hW (lv_sub hl [2, 3, 7, 1, 0] rfl)
set_option maxHeartbeats 400000 in
set_option maxRecDepth 100000 in
theorem b_X9_bestNudge_b104 {p : Program} {e : Env} {s : State} {m : MethodId} {args : Array Value} {below : List Frame} {meth : Method} {c : Code} (l : Launch) (D : va_G) (k : Nat → ClassId) (a : Nat → Nat) (A : Nat → Prop) (C0 : q_C p s m meth c args RX9 cX9_bestNudge 8 (some .int) wsX9_bestNudge D (tyL k) A) (R : Int32 × T2) (pk58 : T2 → Int32 → Int32 → Int32 → Int32 → Int32 → Int32 × T2) (sk58 : T2 → Int32 → Int32 → Int32 → Int32 → Int32 → Prop) (hk58 : ∀ (σ : T2) (v1 : Int32) (v2 : Int32) (v3 : Int32) (v4 : Int32) (v5 : Int32), sk58 σ v1 v2 v3 v4 v5 → pk58 σ v1 v2 v3 v4 v5 = R → ∀ (H : Heap) (locs : List Loc) (ls : Array Slot), q_W D A s.heap (wX9 k a σ) H locs → lv_has ls 8 [(0, .ref (a 0)), (1, .int v1), (2, .int v2), (3, .int v3), (4, .int v4), (5, .int v5)] → W p l e { frames := 6, cells := 0, slots := 0, locals := 155 } s m args below meth c H locs 0 0 (MQ below (va_Qi (fun r u => (r, u) = R) (fun u => q_E D (tyL k) A (wX9 k a u)) A) args s 0 0 A) (F0 m 58 ls [])) : ∀ (σ : T2) (v1 : Int32) (v2 : Int32) (v3 : Int32) (v4 : Int32) (v5 : Int32) (t0 : Int32) (t1 : Int32), S_X9_bestNudge_b104 sk58 σ v1 v2 v3 v4 v5 t0 t1 → P_X9_bestNudge_b104 pk58 σ v1 v2 v3 v4 v5 t0 t1 = R → ∀ (H : Heap) (locs : List Loc) (ls : Array Slot), q_W D A s.heap (wX9 k a σ) H locs → lv_has ls 8 [(0, .ref (a 0)), (1, .int v1), (2, .int v2), (3, .int v3), (4, .int v4), (5, .int v5)] → W p l e { frames := 6, cells := 0, slots := 0, locals := 155 } s m args below meth c H locs 0 0 (MQ below (va_Qi (fun r u => (r, u) = R) (fun u => q_E D (tyL k) A (wX9 k a u)) A) args s 0 0 A) (F0 m 104 ls [.int t0, .int t1, .ref (a 0)]) := by
  intro σ v1 v2 v3 v4 v5 t0 t1 hs hR H locs ls hW hl
  rw [P_X9_bestNudge_b104_e] at hR
  rw [S_X9_bestNudge_b104_e] at hs
  obtain ⟨hx, hb, hr, hml, hts, hown, hlocks, hK, hA⟩ := id C0
  have hs7 := hs.1
  have hs := hs.2
  refine q_Vv (As := [.int t1, .int t0]) (rest := []) (wf := wX9 k a) (R := P_X9_playTrial σ t1 t0) (wd' := wX9 k a (P_X9_playTrial σ t1 t0)) wX9_is [0, 1, 2, 3] 0 9 C0 hW (m_X9_playTrial l D k a H.size σ t1 t0 hs7) (cwV 2 hts gX9_bestNudge_X9_playTrial rfl rfl rfl hd_X9_playTrial ⟨Nat.le_of_ble_eq_true rfl, Nat.le_of_ble_eq_true rfl⟩) wX9_nd (wX9_pl k a _) rfl (wX9_rec k a _) rfl (wX9_fst k a _ _) (wX9_put k a _ _) hl rfl rfl (Nat.le_of_ble_eq_true rfl) dX9_bestNudge_104 ⟨Nat.le_refl 0, Nat.le_refl 0⟩ (fun H locs hW => ?_)
  exact b_X9_bestNudge_b107c l D k a A C0 R pk58 sk58 hk58 (P_X9_playTrial σ t1 t0) v1 v2 v3 v4 v5 hs hR H locs ls hW (lv_sub hl [0, 1, 2, 3, 4, 5] rfl)
set_option maxHeartbeats 400000 in
set_option maxRecDepth 100000 in
theorem b_X9_bestNudge_b85 {p : Program} {e : Env} {s : State} {m : MethodId} {args : Array Value} {below : List Frame} {meth : Method} {c : Code} (l : Launch) (D : va_G) (k : Nat → ClassId) (a : Nat → Nat) (A : Nat → Prop) (C0 : q_C p s m meth c args RX9 cX9_bestNudge 8 (some .int) wsX9_bestNudge D (tyL k) A) (R : Int32 × T2) (pk58 : T2 → Int32 → Int32 → Int32 → Int32 → Int32 → Int32 × T2) (sk58 : T2 → Int32 → Int32 → Int32 → Int32 → Int32 → Prop) (hk58 : ∀ (σ : T2) (v1 : Int32) (v2 : Int32) (v3 : Int32) (v4 : Int32) (v5 : Int32), sk58 σ v1 v2 v3 v4 v5 → pk58 σ v1 v2 v3 v4 v5 = R → ∀ (H : Heap) (locs : List Loc) (ls : Array Slot), q_W D A s.heap (wX9 k a σ) H locs → lv_has ls 8 [(0, .ref (a 0)), (1, .int v1), (2, .int v2), (3, .int v3), (4, .int v4), (5, .int v5)] → W p l e { frames := 6, cells := 0, slots := 0, locals := 155 } s m args below meth c H locs 0 0 (MQ below (va_Qi (fun r u => (r, u) = R) (fun u => q_E D (tyL k) A (wX9 k a u)) A) args s 0 0 A) (F0 m 58 ls [])) : ∀ (σ : T2) (v1 : Int32) (v2 : Int32) (v3 : Int32) (v4 : Int32) (v5 : Int32) (t0 : Int32), S_X9_bestNudge_b85 sk58 σ v1 v2 v3 v4 v5 t0 → P_X9_bestNudge_b85 pk58 σ v1 v2 v3 v4 v5 t0 = R → ∀ (H : Heap) (locs : List Loc) (ls : Array Slot), q_W D A s.heap (wX9 k a σ) H locs → lv_has ls 8 [(0, .ref (a 0)), (1, .int v1), (2, .int v2), (3, .int v3), (4, .int v4), (5, .int v5)] → W p l e { frames := 6, cells := 0, slots := 0, locals := 155 } s m args below meth c H locs 0 0 (MQ below (va_Qi (fun r u => (r, u) = R) (fun u => q_E D (tyL k) A (wX9 k a u)) A) args s 0 0 A) (F0 m 85 ls [.int t0, .ref (a 0)]) := by
  intro σ v1 v2 v3 v4 v5 t0 hs hR H locs ls hW hl
  rw [P_X9_bestNudge_b85_e] at hR
  rw [S_X9_bestNudge_b85_e] at hs
  obtain ⟨hx, hb, hr, hml, hts, hown, hlocks, hK, hA⟩ := id C0
  have hf10 := hts (.fieldLink RX9 10 "BeatFollower" "scene" "LBeatFollower$Scene;") (by decide +kernel)
  have hf73 := hts (.fieldLink RX9 73 "BeatFollower$Scene" "settings" "[I") (by decide +kernel)
  have hinX7 : ∀ w ∈ u_ws RX7 TX7 7, w ∈ wsX9_bestNudge := hin_X9_bestNudge_X7
  have hinX9 : ∀ w ∈ u_ws RX9 TX9 7, w ∈ wsX9_bestNudge := hin_X9_bestNudge_X9
  refine lv_iload_n hx hb dX9_bestNudge_85 rfl (lv_at hl 1 rfl) ?_
  refine lv_iconst (v := (3 : Int32)) hx hb dX9_bestNudge_86 (by decide) ?_
  refine lv_icmp_ne (tgt := 95) hx hb dX9_bestNudge_87 (by decide) (fun c_6 => ?_) (fun c_6 => ?_)
  · have hs := hs.2 c_6
    rw [if_neg c_6] at hR
    refine lv_aload_n hx hb dX9_bestNudge_95 rfl (lv_at hl 0 rfl) ?_
    refine va_get (v := .ref (a 1)) (C := RX9) (T := TX9) (N := 7) hx hb hts hinX9 hown hK hW.1 0 (q_w_get 0 (Nat.le_of_ble_eq_true rfl)) rfl 0 (by decide) hf10 (fun _ h9 => h9) rfl dX9_bestNudge_96 ?_
    refine va_get (v := .ref (a 2)) (C := RX7) (T := TX7) (N := 7) hx hb hts hinX7 hown hK hW.1 1 (q_w_get 1 (Nat.le_of_ble_eq_true rfl)) rfl 0 (by decide) hf73 (fun _ h9 => h9) rfl dX9_bestNudge_99 ?_
    refine lv_iconst (v := (3 : Int32)) hx hb dX9_bestNudge_102 (by decide) ?_
    refine q_iald (v := σ 2 3) C0 hW 2 (q_w_get 2 (Nat.le_of_ble_eq_true rfl)) rfl vi_3_8 cl_3 rfl dX9_bestNudge_103 ?_
    exact b_X9_bestNudge_b104 l D k a A C0 R pk58 sk58 hk58 σ v1 v2 v3 v4 v5 (σ 2 3) t0 hs hR H locs ls hW (lv_sub hl [0, 1, 2, 3, 4, 5] rfl)
  · have hs := hs.1 c_6
    rw [if_pos c_6] at hR
    refine lv_iload hx hb dX9_bestNudge_90 (lv_at hl 5 rfl) ?_
    refine lv_goto (tgt := 104) hx hb dX9_bestNudge_92 (by decide) ?_
    exact b_X9_bestNudge_b104 l D k a A C0 R pk58 sk58 hk58 σ v1 v2 v3 v4 v5 v5 t0 hs hR H locs ls hW (lv_sub hl [0, 1, 2, 3, 4, 5] rfl)
set_option maxHeartbeats 400000 in
set_option maxRecDepth 100000 in
theorem b_X9_bestNudge_b58 {p : Program} {e : Env} {s : State} {m : MethodId} {args : Array Value} {below : List Frame} {meth : Method} {c : Code} (l : Launch) (D : va_G) (k : Nat → ClassId) (a : Nat → Nat) (A : Nat → Prop) (C0 : q_C p s m meth c args RX9 cX9_bestNudge 8 (some .int) wsX9_bestNudge D (tyL k) A) (R : Int32 × T2) : ∀ n : Nat, ∀ (σ : T2) (v1 : Int32) (v2 : Int32) (v3 : Int32) (v4 : Int32) (v5 : Int32), S_X9_bestNudge_b58 n σ v1 v2 v3 v4 v5 → P_X9_bestNudge_b58 n σ v1 v2 v3 v4 v5 = R → ∀ (H : Heap) (locs : List Loc) (ls : Array Slot), q_W D A s.heap (wX9 k a σ) H locs → lv_has ls 8 [(0, .ref (a 0)), (1, .int v1), (2, .int v2), (3, .int v3), (4, .int v4), (5, .int v5)] → W p l e { frames := 6, cells := 0, slots := 0, locals := 155 } s m args below meth c H locs 0 0 (MQ below (va_Qi (fun r u => (r, u) = R) (fun u => q_E D (tyL k) A (wX9 k a u)) A) args s 0 0 A) (F0 m 58 ls []) := by
  intro n
  induction n with
  | zero => intro σ v1 v2 v3 v4 v5 hs; exact False.elim hs
  | succ n ih =>
    intro σ v1 v2 v3 v4 v5 hs hR H locs ls hW hl
    rw [P_X9_bestNudge_b58_e] at hR
    rw [S_X9_bestNudge_b58_e] at hs
    obtain ⟨hx, hb, hr, hml, hts, hown, hlocks, hK, hA⟩ := id C0
    have hf10 := hts (.fieldLink RX9 10 "BeatFollower" "scene" "LBeatFollower$Scene;") (by decide +kernel)
    have hf73 := hts (.fieldLink RX9 73 "BeatFollower$Scene" "settings" "[I") (by decide +kernel)
    have hinX7 : ∀ w ∈ u_ws RX7 TX7 7, w ∈ wsX9_bestNudge := hin_X9_bestNudge_X7
    have hinX9 : ∀ w ∈ u_ws RX9 TX9 7, w ∈ wsX9_bestNudge := hin_X9_bestNudge_X9
    refine lv_iload hx hb dX9_bestNudge_58 (lv_at hl 5 rfl) ?_
    refine lv_bipush (v := (16 : Int32)) hx hb dX9_bestNudge_60 (by decide) ?_
    refine lv_icmp_gt (tgt := 166) hx hb dX9_bestNudge_62 (by decide) (fun c_4 => ?_) (fun c_4 => ?_)
    · have hs := hs.1 c_4
      rw [if_pos c_4] at hR
      refine lv_iload_n hx hb dX9_bestNudge_166 rfl (lv_at hl 2 rfl) ?_
      exact q_iret C0 hW hR dX9_bestNudge_167
    · have hs := hs.2 c_4
      rw [if_neg c_4] at hR
      refine lv_aload_n hx hb dX9_bestNudge_65 rfl (lv_at hl 0 rfl) ?_
      refine lv_iload_n hx hb dX9_bestNudge_66 rfl (lv_at hl 1 rfl) ?_
      refine lv_iconst (v := (2 : Int32)) hx hb dX9_bestNudge_67 (by decide) ?_
      refine lv_icmp_ne (tgt := 76) hx hb dX9_bestNudge_68 (by decide) (fun c_5 => ?_) (fun c_5 => ?_)
      · have hs := hs.2 c_5
        rw [if_neg c_5] at hR
        refine lv_aload_n hx hb dX9_bestNudge_76 rfl (lv_at hl 0 rfl) ?_
        refine va_get (v := .ref (a 1)) (C := RX9) (T := TX9) (N := 7) hx hb hts hinX9 hown hK hW.1 0 (q_w_get 0 (Nat.le_of_ble_eq_true rfl)) rfl 0 (by decide) hf10 (fun _ h9 => h9) rfl dX9_bestNudge_77 ?_
        refine va_get (v := .ref (a 2)) (C := RX7) (T := TX7) (N := 7) hx hb hts hinX7 hown hK hW.1 1 (q_w_get 1 (Nat.le_of_ble_eq_true rfl)) rfl 0 (by decide) hf73 (fun _ h9 => h9) rfl dX9_bestNudge_80 ?_
        refine lv_iconst (v := (2 : Int32)) hx hb dX9_bestNudge_83 (by decide) ?_
        refine q_iald (v := σ 2 2) C0 hW 2 (q_w_get 2 (Nat.le_of_ble_eq_true rfl)) rfl vi_2_8 cl_2 rfl dX9_bestNudge_84 ?_
        exact b_X9_bestNudge_b85 l D k a A C0 R _ _ ih σ v1 v2 v3 v4 v5 (σ 2 2) hs hR H locs ls hW (lv_sub hl [0, 1, 2, 3, 4, 5] rfl)
      · have hs := hs.1 c_5
        rw [if_pos c_5] at hR
        refine lv_iload hx hb dX9_bestNudge_71 (lv_at hl 5 rfl) ?_
        refine lv_goto (tgt := 85) hx hb dX9_bestNudge_73 (by decide) ?_
        exact b_X9_bestNudge_b85 l D k a A C0 R _ _ ih σ v1 v2 v3 v4 v5 v5 hs hR H locs ls hW (lv_sub hl [0, 1, 2, 3, 4, 5] rfl)
set_option maxHeartbeats 400000 in
set_option maxRecDepth 100000 in
theorem b_X9_bestNudge_b46c {p : Program} {e : Env} {s : State} {m : MethodId} {args : Array Value} {below : List Frame} {meth : Method} {c : Code} (l : Launch) (D : va_G) (k : Nat → ClassId) (a : Nat → Nat) (A : Nat → Prop) (C0 : q_C p s m meth c args RX9 cX9_bestNudge 8 (some .int) wsX9_bestNudge D (tyL k) A) (R : Int32 × T2) : ∀ (σ : T2) (v1 : Int32), S_X9_bestNudge_b46c σ v1 → P_X9_bestNudge_b46c σ v1 = R → ∀ (H : Heap) (locs : List Loc) (ls : Array Slot), q_W D A s.heap (wX9 k a σ) H locs → lv_has ls 8 [(0, .ref (a 0)), (1, .int v1)] → W p l e { frames := 6, cells := 0, slots := 0, locals := 155 } s m args below meth c H locs 0 0 (MQ below (va_Qi (fun r u => (r, u) = R) (fun u => q_E D (tyL k) A (wX9 k a u)) A) args s 0 0 A) (F0 m 46 ls []) := by
  intro σ v1 hs hR H locs ls hW hl
  rw [P_X9_bestNudge_b46c_e] at hR
  rw [S_X9_bestNudge_b46c_e] at hs
  obtain ⟨hx, hb, hr, hml, hts, hown, hlocks, hK, hA⟩ := id C0
  refine lv_iconst (v := (0 : Int32)) hx hb dX9_bestNudge_46 (by decide) ?_
  refine lv_istore_n (lv' := [(2, .int (0 : Int32)), (0, .ref (a 0)), (1, .int v1)]) hx hb dX9_bestNudge_47 rfl hl (by decide) rfl (fun ls hl => ?_)
  refine lv_ldc (v := (1000000 : Int32)) hx hb hown (hts (.constant RX9 240 (1000000 : Int32)) (by decide +kernel)) dX9_bestNudge_48 ?_
  refine lv_istore_n (lv' := [(3, .int (1000000 : Int32)), (2, .int (0 : Int32)), (0, .ref (a 0)), (1, .int v1)]) hx hb dX9_bestNudge_50 rfl hl (by decide) rfl (fun ls hl => ?_)
  refine lv_ldc (v := (1000000 : Int32)) hx hb hown (hts (.constant RX9 240 (1000000 : Int32)) (by decide +kernel)) dX9_bestNudge_51 ?_
  refine lv_istore (lv' := [(4, .int (1000000 : Int32)), (3, .int (1000000 : Int32)), (2, .int (0 : Int32)), (0, .ref (a 0)), (1, .int v1)]) hx hb dX9_bestNudge_53 hl (by decide) rfl (fun ls hl => ?_)
  refine lv_iconst (v := (0 : Int32)) hx hb dX9_bestNudge_55 (by decide) ?_
  refine lv_istore (lv' := [(5, .int (0 : Int32)), (4, .int (1000000 : Int32)), (3, .int (1000000 : Int32)), (2, .int (0 : Int32)), (0, .ref (a 0)), (1, .int v1)]) hx hb dX9_bestNudge_56 hl (by decide) rfl (fun ls hl => ?_)
  exact b_X9_bestNudge_b58 l D k a A C0 R FU σ v1 (0 : Int32) (1000000 : Int32) (1000000 : Int32) (0 : Int32) hs hR H locs ls hW (lv_sub hl [4, 5, 3, 2, 1, 0] rfl)
set_option maxHeartbeats 400000 in
set_option maxRecDepth 100000 in
theorem b_X9_bestNudge_b13 {p : Program} {e : Env} {s : State} {m : MethodId} {args : Array Value} {below : List Frame} {meth : Method} {c : Code} (l : Launch) (D : va_G) (k : Nat → ClassId) (a : Nat → Nat) (A : Nat → Prop) (C0 : q_C p s m meth c args RX9 cX9_bestNudge 8 (some .int) wsX9_bestNudge D (tyL k) A) (R : Int32 × T2) : ∀ (σ : T2) (v1 : Int32), S_X9_bestNudge_b13 σ v1 → P_X9_bestNudge_b13 σ v1 = R → ∀ (H : Heap) (locs : List Loc) (ls : Array Slot), q_W D A s.heap (wX9 k a σ) H locs → lv_has ls 8 [(0, .ref (a 0)), (1, .int v1)] → W p l e { frames := 6, cells := 0, slots := 0, locals := 155 } s m args below meth c H locs 0 0 (MQ below (va_Qi (fun r u => (r, u) = R) (fun u => q_E D (tyL k) A (wX9 k a u)) A) args s 0 0 A) (F0 m 13 ls []) := by
  intro σ v1 hs hR H locs ls hW hl
  rw [P_X9_bestNudge_b13_e] at hR
  rw [S_X9_bestNudge_b13_e] at hs
  obtain ⟨hx, hb, hr, hml, hts, hown, hlocks, hK, hA⟩ := id C0
  have hf10 := hts (.fieldLink RX9 10 "BeatFollower" "scene" "LBeatFollower$Scene;") (by decide +kernel)
  have hf16 := hts (.fieldLink RX9 16 "BeatFollower" "trial" "LBeatFollower$Scene;") (by decide +kernel)
  have hf87 := hts (.fieldLink RX9 87 "BeatFollower$Scene" "plan" "LBeatFollower$Plan;") (by decide +kernel)
  have hf110 := hts (.fieldLink RX9 110 "BeatFollower$Plan" "many" "I") (by decide +kernel)
  have hinX5 : ∀ w ∈ u_ws RX5 TX5 3, w ∈ wsX9_bestNudge := hin_X9_bestNudge_X5
  have hinX7 : ∀ w ∈ u_ws RX7 TX7 7, w ∈ wsX9_bestNudge := hin_X9_bestNudge_X7
  have hinX9 : ∀ w ∈ u_ws RX9 TX9 7, w ∈ wsX9_bestNudge := hin_X9_bestNudge_X9
  refine lv_aload_n hx hb dX9_bestNudge_13 rfl (lv_at hl 0 rfl) ?_
  refine va_get (v := .ref (a 1)) (C := RX9) (T := TX9) (N := 7) hx hb hts hinX9 hown hK hW.1 0 (q_w_get 0 (Nat.le_of_ble_eq_true rfl)) rfl 0 (by decide) hf10 (fun _ h9 => h9) rfl dX9_bestNudge_14 ?_
  refine va_get (v := .ref (a 3)) (C := RX7) (T := TX7) (N := 7) hx hb hts hinX7 hown hK hW.1 1 (q_w_get 1 (Nat.le_of_ble_eq_true rfl)) rfl 1 (by decide) hf87 (fun _ h9 => h9) rfl dX9_bestNudge_17 ?_
  refine va_get (v := .int (σ 3 2)) (C := RX5) (T := TX5) (N := 3) hx hb hts hinX5 hown hK hW.1 3 (q_w_get 3 (Nat.le_of_ble_eq_true rfl)) rfl 2 (by decide) hf110 (fun _ h9 => h9) rfl dX9_bestNudge_20 ?_
  refine lv_if_ne (tgt := 29) hx hb dX9_bestNudge_23 (by decide) (fun c_2 => ?_) (fun c_2 => ?_)
  · have hs := hs.2 c_2
    rw [if_neg c_2] at hR
    refine lv_aload_n hx hb dX9_bestNudge_29 rfl (lv_at hl 0 rfl) ?_
    refine va_get (v := .ref (a 18)) (C := RX9) (T := TX9) (N := 7) hx hb hts hinX9 hown hK hW.1 0 (q_w_get 0 (Nat.le_of_ble_eq_true rfl)) rfl 1 (by decide) hf16 (fun _ h9 => h9) rfl dX9_bestNudge_30 ?_
    refine va_get (v := .ref (a 20)) (C := RX7) (T := TX7) (N := 7) hx hb hts hinX7 hown hK hW.1 18 (q_w_get 18 (Nat.le_of_ble_eq_true rfl)) rfl 1 (by decide) hf87 (fun _ h9 => h9) rfl dX9_bestNudge_33 ?_
    refine lv_aload_n hx hb dX9_bestNudge_36 rfl (lv_at hl 0 rfl) ?_
    refine va_get (v := .ref (a 1)) (C := RX9) (T := TX9) (N := 7) hx hb hts hinX9 hown hK hW.1 0 (q_w_get 0 (Nat.le_of_ble_eq_true rfl)) rfl 0 (by decide) hf10 (fun _ h9 => h9) rfl dX9_bestNudge_37 ?_
    refine va_get (v := .ref (a 3)) (C := RX7) (T := TX7) (N := 7) hx hb hts hinX7 hown hK hW.1 1 (q_w_get 1 (Nat.le_of_ble_eq_true rfl)) rfl 1 (by decide) hf87 (fun _ h9 => h9) rfl dX9_bestNudge_40 ?_
    have hs3 := hs.1
    have hs := hs.2
    refine q_Vv (As := [.ref (a 3)]) (rest := []) (wf := wX5_X5 k (sel a 20 3 3)) (R := P_X5_copyFrom (sel σ 20 3 3)) (wd' := wX9 k a (sb2 σ 20 3 3 3 (P_X5_copyFrom (sel σ 20 3 3)))) (wX9_X5_X5_20_3_is) [0, 1, 2, 3] 20 5 C0 hW (m_X5_copyFrom l D k (sel a 20 3 3) H.size (sel σ 20 3 3)  hs3) (cwV 1 hts gX9_bestNudge_X5_copyFrom rfl rfl rfl hd_X5_copyFrom ⟨Nat.le_of_ble_eq_true rfl, Nat.le_of_ble_eq_true rfl⟩) (wX9_X5_X5_20_3_nd) (wX9_X5_X5_20_3_pl k a _) rfl (q_w_get 20 (Nat.le_of_ble_eq_true rfl)) rfl (wX5_X5_fst k _ _ _) (wX9_X5_X5_20_3_pt k a _ _) hl rfl rfl (Nat.le_of_ble_eq_true rfl) dX9_bestNudge_43 ⟨Nat.le_refl 0, Nat.le_refl 0⟩ (fun H locs hW => ?_)
    exact b_X9_bestNudge_b46c l D k a A C0 R (sb2 σ 20 3 3 3 (P_X5_copyFrom (sel σ 20 3 3))) v1 hs hR H locs ls hW (lv_sub hl [0, 1] rfl)
  · have hs := hs.1 c_2
    rw [if_pos c_2] at hR
    refine lv_bipush (v := (-6 : Int32)) hx hb dX9_bestNudge_26 (by decide) ?_
    exact q_iret C0 hW hR dX9_bestNudge_28
set_option maxHeartbeats 400000 in
set_option maxRecDepth 100000 in
theorem b_X9_bestNudge_b0 {p : Program} {e : Env} {s : State} {m : MethodId} {args : Array Value} {below : List Frame} {meth : Method} {c : Code} (l : Launch) (D : va_G) (k : Nat → ClassId) (a : Nat → Nat) (A : Nat → Prop) (C0 : q_C p s m meth c args RX9 cX9_bestNudge 8 (some .int) wsX9_bestNudge D (tyL k) A) (R : Int32 × T2) : ∀ (σ : T2) (v1 : Int32), S_X9_bestNudge_b0 σ v1 → P_X9_bestNudge_b0 σ v1 = R → ∀ (H : Heap) (locs : List Loc) (ls : Array Slot), q_W D A s.heap (wX9 k a σ) H locs → lv_has ls 8 [(0, .ref (a 0)), (1, .int v1)] → W p l e { frames := 6, cells := 0, slots := 0, locals := 155 } s m args below meth c H locs 0 0 (MQ below (va_Qi (fun r u => (r, u) = R) (fun u => q_E D (tyL k) A (wX9 k a u)) A) args s 0 0 A) (F0 m 0 ls []) := by
  intro σ v1 hs hR H locs ls hW hl
  rw [P_X9_bestNudge_b0_e] at hR
  rw [S_X9_bestNudge_b0_e] at hs
  obtain ⟨hx, hb, hr, hml, hts, hown, hlocks, hK, hA⟩ := id C0
  refine lv_iload_n hx hb dX9_bestNudge_0 rfl (lv_at hl 1 rfl) ?_
  refine lv_iconst (v := (2 : Int32)) hx hb dX9_bestNudge_1 (by decide) ?_
  refine lv_icmp_eq (tgt := 13) hx hb dX9_bestNudge_2 (by decide) (fun c_1 => ?_) (fun c_1 => ?_)
  · have hs := hs.1 c_1
    rw [if_pos c_1] at hR
    exact b_X9_bestNudge_b13 l D k a A C0 R σ v1 hs hR H locs ls hW (lv_sub hl [0, 1] rfl)
  · have hs := hs.2 c_1
    rw [if_neg c_1] at hR
    refine lv_iload_n hx hb dX9_bestNudge_5 rfl (lv_at hl 1 rfl) ?_
    refine lv_iconst (v := (3 : Int32)) hx hb dX9_bestNudge_6 (by decide) ?_
    refine lv_icmp_eq (tgt := 13) hx hb dX9_bestNudge_7 (by decide) (fun c_11 => ?_) (fun c_11 => ?_)
    · have hs := hs.1 c_11
      rw [if_pos c_11] at hR
      exact b_X9_bestNudge_b13 l D k a A C0 R σ v1 hs hR H locs ls hW (lv_sub hl [0, 1] rfl)
    · have hs := hs.2 c_11
      rw [if_neg c_11] at hR
      refine lv_bipush (v := (-2 : Int32)) hx hb dX9_bestNudge_10 (by decide) ?_
      exact q_iret C0 hW hR dX9_bestNudge_12
set_option maxHeartbeats 400000 in
set_option maxRecDepth 100000 in
theorem m_X9_bestNudge (l : Launch) (D : va_G) (k : Nat → ClassId) (a : Nat → Nat) (sz : Nat) (σ : T2) (p0 : Int32) (hs : S_X9_bestNudge σ p0) : Met l yX9_bestNudge wsX9_bestNudge { frames := 6, cells := 0, slots := 0, locals := 155 } (va_Pc [.ref (a 0), .int p0] (q_B D (tyL k) (wX9 k a σ) sz)) (va_Qi (fun r u => (r, u) = P_X9_bestNudge σ p0) (fun u => q_E D (tyL k) (va_A (wX9 k a σ) sz) (wX9 k a u)) (va_A (wX9 k a σ) sz)) 0 0 (va_A (wX9 k a σ) sz) := by
  refine q_met [.ref (a 0), .int p0] (wX9 k a σ) sz (cc := cX9_bestNudge) (maxL := 8) (ret := (some .int)) (by decide) rfl (Nat.le_of_ble_eq_true rfl) ?_
  intro p e s m args below meth c ls hsz C0 hW hl hin
  subst hsz
  exact b_X9_bestNudge_b0 l D k a _ C0 _ σ p0 hs rfl s.heap [] ls hW (lv_sub hl [0, 1] rfl)
theorem hin_X9_worstBeat_X5 : ∀ w ∈ u_ws RX5 TX5 3, w ∈ wsX9_worstBeat := by decide +kernel
theorem hin_X9_worstBeat_X7 : ∀ w ∈ u_ws RX7 TX7 7, w ∈ wsX9_worstBeat := by decide +kernel
theorem hin_X9_worstBeat_X8 : ∀ w ∈ u_ws RX8 TX8 10, w ∈ wsX9_worstBeat := by decide +kernel
theorem hin_X9_worstBeat_X9 : ∀ w ∈ u_ws RX9 TX9 7, w ∈ wsX9_worstBeat := by decide +kernel
theorem hd_X9_worstBeat : yX9_worstBeat.cls = RX9 ∧ yX9_worstBeat.cls ≠ "java/lang/invoke/MethodHandle" ∧ yX9_worstBeat.cls ≠ "java/lang/invoke/VarHandle" ∧ (parseMethodDescriptor yX9_worstBeat.desc).map (fun d => d.parameters.length) = some 1 := by decide +kernel
noncomputable def P_X9_worstBeat_b120 (pk36 : T2 → Int32 → Int32 → Int32 → Int32 → Int32 × T2) (σ : T2) (v1 : Int32) (v2 : Int32) (v3 : Int32) (v4 : Int32) : Int32 × T2 := pk36 σ v1 v2 v3 (v4 + (1 : Int32))
def S_X9_worstBeat_b120 (sk36 : T2 → Int32 → Int32 → Int32 → Int32 → Prop) (σ : T2) (v1 : Int32) (v2 : Int32) (v3 : Int32) (v4 : Int32) : Prop := sk36 σ v1 v2 v3 (v4 + (1 : Int32))
theorem P_X9_worstBeat_b120_e (pk36 : T2 → Int32 → Int32 → Int32 → Int32 → Int32 × T2) (σ : T2) (v1 : Int32) (v2 : Int32) (v3 : Int32) (v4 : Int32) : P_X9_worstBeat_b120 pk36 σ v1 v2 v3 v4 = pk36 σ v1 v2 v3 (v4 + (1 : Int32)) := rfl
theorem S_X9_worstBeat_b120_e (sk36 : T2 → Int32 → Int32 → Int32 → Int32 → Prop) (σ : T2) (v1 : Int32) (v2 : Int32) (v3 : Int32) (v4 : Int32) : S_X9_worstBeat_b120 sk36 σ v1 v2 v3 v4 = (sk36 σ v1 v2 v3 (v4 + (1 : Int32))) := rfl
noncomputable def P_X9_worstBeat_b92c (pk36 : T2 → Int32 → Int32 → Int32 → Int32 → Int32 × T2) (σ : T2) (v1 : Int32) (v2 : Int32) (v3 : Int32) (v4 : Int32) : Int32 × T2 := if v3 ≤ (σ 34 6) then (P_X9_worstBeat_b120 pk36 σ v1 v2 v3 v4) else (P_X9_worstBeat_b120 pk36 σ v1 v4 (σ 34 6) v4)
def S_X9_worstBeat_b92c (sk36 : T2 → Int32 → Int32 → Int32 → Int32 → Prop) (σ : T2) (v1 : Int32) (v2 : Int32) (v3 : Int32) (v4 : Int32) : Prop := (v3 ≤ (σ 34 6) → (S_X9_worstBeat_b120 sk36 σ v1 v2 v3 v4)) ∧ (¬ (v3 ≤ (σ 34 6)) → (S_X9_worstBeat_b120 sk36 σ v1 v4 (σ 34 6) v4))
theorem P_X9_worstBeat_b92c_e (pk36 : T2 → Int32 → Int32 → Int32 → Int32 → Int32 × T2) (σ : T2) (v1 : Int32) (v2 : Int32) (v3 : Int32) (v4 : Int32) : P_X9_worstBeat_b92c pk36 σ v1 v2 v3 v4 = if v3 ≤ (σ 34 6) then (P_X9_worstBeat_b120 pk36 σ v1 v2 v3 v4) else (P_X9_worstBeat_b120 pk36 σ v1 v4 (σ 34 6) v4) := rfl
theorem S_X9_worstBeat_b92c_e (sk36 : T2 → Int32 → Int32 → Int32 → Int32 → Prop) (σ : T2) (v1 : Int32) (v2 : Int32) (v3 : Int32) (v4 : Int32) : S_X9_worstBeat_b92c sk36 σ v1 v2 v3 v4 = ((v3 ≤ (σ 34 6) → (S_X9_worstBeat_b120 sk36 σ v1 v2 v3 v4)) ∧ (¬ (v3 ≤ (σ 34 6)) → (S_X9_worstBeat_b120 sk36 σ v1 v4 (σ 34 6) v4))) := rfl
noncomputable def P_X9_worstBeat_b70c (pk36 : T2 → Int32 → Int32 → Int32 → Int32 → Int32 × T2) (σ : T2) (v1 : Int32) (v2 : Int32) (v3 : Int32) (v4 : Int32) : Int32 × T2 := P_X9_worstBeat_b92c pk36 (P_X9_playTrial σ (σ 2 2) (σ 2 3)) v1 v2 v3 v4
def S_X9_worstBeat_b70c (sk36 : T2 → Int32 → Int32 → Int32 → Int32 → Prop) (σ : T2) (v1 : Int32) (v2 : Int32) (v3 : Int32) (v4 : Int32) : Prop := (S_X9_playTrial σ (σ 2 2) (σ 2 3)) ∧ (S_X9_worstBeat_b92c sk36 (P_X9_playTrial σ (σ 2 2) (σ 2 3)) v1 v2 v3 v4)
theorem P_X9_worstBeat_b70c_e (pk36 : T2 → Int32 → Int32 → Int32 → Int32 → Int32 × T2) (σ : T2) (v1 : Int32) (v2 : Int32) (v3 : Int32) (v4 : Int32) : P_X9_worstBeat_b70c pk36 σ v1 v2 v3 v4 = P_X9_worstBeat_b92c pk36 (P_X9_playTrial σ (σ 2 2) (σ 2 3)) v1 v2 v3 v4 := rfl
theorem S_X9_worstBeat_b70c_e (sk36 : T2 → Int32 → Int32 → Int32 → Int32 → Prop) (σ : T2) (v1 : Int32) (v2 : Int32) (v3 : Int32) (v4 : Int32) : S_X9_worstBeat_b70c sk36 σ v1 v2 v3 v4 = ((S_X9_playTrial σ (σ 2 2) (σ 2 3)) ∧ (S_X9_worstBeat_b92c sk36 (P_X9_playTrial σ (σ 2 2) (σ 2 3)) v1 v2 v3 v4)) := rfl
noncomputable def P_X9_worstBeat_b36 (n : Nat) : T2 → Int32 → Int32 → Int32 → Int32 → Int32 × T2 := Nat.rec (motive := fun _ => T2 → Int32 → Int32 → Int32 → Int32 → Int32 × T2) (fun _ _ _ _ _ => (0, fun _ _ => 0)) (fun _ pk36 => fun σ v1 v2 v3 v4 => if (σ 3 2) ≤ v4 then (if v1 = 0 then ((v2, σ)) else ((v3, σ))) else (P_X9_worstBeat_b70c pk36 (sb2 σ 20 3 3 3 (P_X5_copyWithout (sel σ 20 3 3) v4)) v1 v2 v3 v4)) n
def S_X9_worstBeat_b36 (n : Nat) : T2 → Int32 → Int32 → Int32 → Int32 → Prop := Nat.rec (motive := fun _ => T2 → Int32 → Int32 → Int32 → Int32 → Prop) (fun _ _ _ _ _ => False) (fun _ sk36 => fun σ v1 v2 v3 v4 => ((σ 3 2) ≤ v4 → ((v1 = 0 → (True)) ∧ (¬ (v1 = 0) → (True)))) ∧ (¬ ((σ 3 2) ≤ v4) → ((S_X5_copyWithout (sel σ 20 3 3) v4) ∧ (S_X9_worstBeat_b70c sk36 (sb2 σ 20 3 3 3 (P_X5_copyWithout (sel σ 20 3 3) v4)) v1 v2 v3 v4)))) n
theorem P_X9_worstBeat_b36_e (n : Nat) (σ : T2) (v1 : Int32) (v2 : Int32) (v3 : Int32) (v4 : Int32) : P_X9_worstBeat_b36 (n + 1) σ v1 v2 v3 v4 = if (σ 3 2) ≤ v4 then (if v1 = 0 then ((v2, σ)) else ((v3, σ))) else (P_X9_worstBeat_b70c (P_X9_worstBeat_b36 n) (sb2 σ 20 3 3 3 (P_X5_copyWithout (sel σ 20 3 3) v4)) v1 v2 v3 v4) := rfl
theorem S_X9_worstBeat_b36_e (n : Nat) (σ : T2) (v1 : Int32) (v2 : Int32) (v3 : Int32) (v4 : Int32) : S_X9_worstBeat_b36 (n + 1) σ v1 v2 v3 v4 = (((σ 3 2) ≤ v4 → ((v1 = 0 → (True)) ∧ (¬ (v1 = 0) → (True)))) ∧ (¬ ((σ 3 2) ≤ v4) → ((S_X5_copyWithout (sel σ 20 3 3) v4) ∧ (S_X9_worstBeat_b70c (S_X9_worstBeat_b36 n) (sb2 σ 20 3 3 3 (P_X5_copyWithout (sel σ 20 3 3) v4)) v1 v2 v3 v4)))) := rfl
noncomputable def P_X9_worstBeat_b0 (σ : T2) (v1 : Int32) : Int32 × T2 := if (P_X9_isIn v1 (0 : Int32) (1 : Int32)) = 0 then (((-2 : Int32), σ)) else (if (σ 3 2) = 0 then (((-6 : Int32), σ)) else (P_X9_worstBeat_b36 FU σ v1 (0 : Int32) (1000000 : Int32) (0 : Int32)))
def S_X9_worstBeat_b0 (σ : T2) (v1 : Int32) : Prop := (S_X9_isIn v1 (0 : Int32) (1 : Int32)) ∧ (((P_X9_isIn v1 (0 : Int32) (1 : Int32)) = 0 → (True)) ∧ (¬ ((P_X9_isIn v1 (0 : Int32) (1 : Int32)) = 0) → (((σ 3 2) = 0 → (True)) ∧ (¬ ((σ 3 2) = 0) → (S_X9_worstBeat_b36 FU σ v1 (0 : Int32) (1000000 : Int32) (0 : Int32))))))
theorem P_X9_worstBeat_b0_e (σ : T2) (v1 : Int32) : P_X9_worstBeat_b0 σ v1 = if (P_X9_isIn v1 (0 : Int32) (1 : Int32)) = 0 then (((-2 : Int32), σ)) else (if (σ 3 2) = 0 then (((-6 : Int32), σ)) else (P_X9_worstBeat_b36 FU σ v1 (0 : Int32) (1000000 : Int32) (0 : Int32))) := rfl
theorem S_X9_worstBeat_b0_e (σ : T2) (v1 : Int32) : S_X9_worstBeat_b0 σ v1 = ((S_X9_isIn v1 (0 : Int32) (1 : Int32)) ∧ (((P_X9_isIn v1 (0 : Int32) (1 : Int32)) = 0 → (True)) ∧ (¬ ((P_X9_isIn v1 (0 : Int32) (1 : Int32)) = 0) → (((σ 3 2) = 0 → (True)) ∧ (¬ ((σ 3 2) = 0) → (S_X9_worstBeat_b36 FU σ v1 (0 : Int32) (1000000 : Int32) (0 : Int32))))))) := rfl
noncomputable def P_X9_worstBeat (σ : T2) (p0 : Int32) : Int32 × T2 := P_X9_worstBeat_b0 σ p0
def S_X9_worstBeat (σ : T2) (p0 : Int32) : Prop := S_X9_worstBeat_b0 σ p0
set_option maxHeartbeats 400000 in
set_option maxRecDepth 100000 in
theorem b_X9_worstBeat_b120 {p : Program} {e : Env} {s : State} {m : MethodId} {args : Array Value} {below : List Frame} {meth : Method} {c : Code} (l : Launch) (D : va_G) (k : Nat → ClassId) (a : Nat → Nat) (A : Nat → Prop) (C0 : q_C p s m meth c args RX9 cX9_worstBeat 5 (some .int) wsX9_worstBeat D (tyL k) A) (R : Int32 × T2) (pk36 : T2 → Int32 → Int32 → Int32 → Int32 → Int32 × T2) (sk36 : T2 → Int32 → Int32 → Int32 → Int32 → Prop) (hk36 : ∀ (σ : T2) (v1 : Int32) (v2 : Int32) (v3 : Int32) (v4 : Int32), sk36 σ v1 v2 v3 v4 → pk36 σ v1 v2 v3 v4 = R → ∀ (H : Heap) (locs : List Loc) (ls : Array Slot), q_W D A s.heap (wX9 k a σ) H locs → lv_has ls 5 [(0, .ref (a 0)), (1, .int v1), (2, .int v2), (3, .int v3), (4, .int v4)] → W p l e { frames := 6, cells := 0, slots := 0, locals := 155 } s m args below meth c H locs 0 0 (MQ below (va_Qi (fun r u => (r, u) = R) (fun u => q_E D (tyL k) A (wX9 k a u)) A) args s 0 0 A) (F0 m 36 ls [])) : ∀ (σ : T2) (v1 : Int32) (v2 : Int32) (v3 : Int32) (v4 : Int32), S_X9_worstBeat_b120 sk36 σ v1 v2 v3 v4 → P_X9_worstBeat_b120 pk36 σ v1 v2 v3 v4 = R → ∀ (H : Heap) (locs : List Loc) (ls : Array Slot), q_W D A s.heap (wX9 k a σ) H locs → lv_has ls 5 [(0, .ref (a 0)), (1, .int v1), (2, .int v2), (3, .int v3), (4, .int v4)] → W p l e { frames := 6, cells := 0, slots := 0, locals := 155 } s m args below meth c H locs 0 0 (MQ below (va_Qi (fun r u => (r, u) = R) (fun u => q_E D (tyL k) A (wX9 k a u)) A) args s 0 0 A) (F0 m 120 ls []) := by
  intro σ v1 v2 v3 v4 hs hR H locs ls hW hl
  rw [P_X9_worstBeat_b120_e] at hR
  rw [S_X9_worstBeat_b120_e] at hs
  obtain ⟨hx, hb, hr, hml, hts, hown, hlocks, hK, hA⟩ := id C0
  refine lv_iinc (v := v4 + (1 : Int32)) (lv' := [(4, .int (v4 + (1 : Int32))), (0, .ref (a 0)), (1, .int v1), (2, .int v2), (3, .int v3)]) hx hb dX9_worstBeat_120 hl (k := 4) rfl rfl (by decide) rfl (fun ls hl => ?_)
  refine lv_goto (tgt := 36) hx hb dX9_worstBeat_123 (by decide) ?_
  exact hk36 σ v1 v2 v3 (v4 + (1 : Int32)) hs hR H locs ls hW (lv_sub hl [1, 2, 3, 4, 0] rfl)
set_option maxHeartbeats 400000 in
set_option maxRecDepth 100000 in
theorem b_X9_worstBeat_b92c {p : Program} {e : Env} {s : State} {m : MethodId} {args : Array Value} {below : List Frame} {meth : Method} {c : Code} (l : Launch) (D : va_G) (k : Nat → ClassId) (a : Nat → Nat) (A : Nat → Prop) (C0 : q_C p s m meth c args RX9 cX9_worstBeat 5 (some .int) wsX9_worstBeat D (tyL k) A) (R : Int32 × T2) (pk36 : T2 → Int32 → Int32 → Int32 → Int32 → Int32 × T2) (sk36 : T2 → Int32 → Int32 → Int32 → Int32 → Prop) (hk36 : ∀ (σ : T2) (v1 : Int32) (v2 : Int32) (v3 : Int32) (v4 : Int32), sk36 σ v1 v2 v3 v4 → pk36 σ v1 v2 v3 v4 = R → ∀ (H : Heap) (locs : List Loc) (ls : Array Slot), q_W D A s.heap (wX9 k a σ) H locs → lv_has ls 5 [(0, .ref (a 0)), (1, .int v1), (2, .int v2), (3, .int v3), (4, .int v4)] → W p l e { frames := 6, cells := 0, slots := 0, locals := 155 } s m args below meth c H locs 0 0 (MQ below (va_Qi (fun r u => (r, u) = R) (fun u => q_E D (tyL k) A (wX9 k a u)) A) args s 0 0 A) (F0 m 36 ls [])) : ∀ (σ : T2) (v1 : Int32) (v2 : Int32) (v3 : Int32) (v4 : Int32), S_X9_worstBeat_b92c sk36 σ v1 v2 v3 v4 → P_X9_worstBeat_b92c pk36 σ v1 v2 v3 v4 = R → ∀ (H : Heap) (locs : List Loc) (ls : Array Slot), q_W D A s.heap (wX9 k a σ) H locs → lv_has ls 5 [(0, .ref (a 0)), (1, .int v1), (2, .int v2), (3, .int v3), (4, .int v4)] → W p l e { frames := 6, cells := 0, slots := 0, locals := 155 } s m args below meth c H locs 0 0 (MQ below (va_Qi (fun r u => (r, u) = R) (fun u => q_E D (tyL k) A (wX9 k a u)) A) args s 0 0 A) (F0 m 92 ls []) := by
  intro σ v1 v2 v3 v4 hs hR H locs ls hW hl
  rw [P_X9_worstBeat_b92c_e] at hR
  rw [S_X9_worstBeat_b92c_e] at hs
  obtain ⟨hx, hb, hr, hml, hts, hown, hlocks, hK, hA⟩ := id C0
  have hf16 := hts (.fieldLink RX9 16 "BeatFollower" "trial" "LBeatFollower$Scene;") (by decide +kernel)
  have hf113 := hts (.fieldLink RX9 113 "BeatFollower$Scene" "tally" "LBeatFollower$Tally;") (by decide +kernel)
  have hf199 := hts (.fieldLink RX9 199 "BeatFollower$Tally" "slipsTold" "I") (by decide +kernel)
  have hinX7 : ∀ w ∈ u_ws RX7 TX7 7, w ∈ wsX9_worstBeat := hin_X9_worstBeat_X7
  have hinX8 : ∀ w ∈ u_ws RX8 TX8 10, w ∈ wsX9_worstBeat := hin_X9_worstBeat_X8
  have hinX9 : ∀ w ∈ u_ws RX9 TX9 7, w ∈ wsX9_worstBeat := hin_X9_worstBeat_X9
  refine lv_aload_n hx hb dX9_worstBeat_92 rfl (lv_at hl 0 rfl) ?_
  refine va_get (v := .ref (a 18)) (C := RX9) (T := TX9) (N := 7) hx hb hts hinX9 hown hK hW.1 0 (q_w_get 0 (Nat.le_of_ble_eq_true rfl)) rfl 1 (by decide) hf16 (fun _ h9 => h9) rfl dX9_worstBeat_93 ?_
  refine va_get (v := .ref (a 34)) (C := RX7) (T := TX7) (N := 7) hx hb hts hinX7 hown hK hW.1 18 (q_w_get 18 (Nat.le_of_ble_eq_true rfl)) rfl 5 (by decide) hf113 (fun _ h9 => h9) rfl dX9_worstBeat_96 ?_
  refine va_get (v := .int (σ 34 6)) (C := RX8) (T := TX8) (N := 10) hx hb hts hinX8 hown hK hW.1 34 (q_w_get 34 (Nat.le_of_ble_eq_true rfl)) rfl 6 (by decide) hf199 (fun _ h9 => h9) rfl dX9_worstBeat_99 ?_
  refine lv_iload_n hx hb dX9_worstBeat_102 rfl (lv_at hl 3 rfl) ?_
  refine lv_icmp_ge (tgt := 120) hx hb dX9_worstBeat_103 (by decide) (fun c_8 => ?_) (fun c_8 => ?_)
  · have hs := hs.1 c_8
    rw [if_pos c_8] at hR
    exact b_X9_worstBeat_b120 l D k a A C0 R pk36 sk36 hk36 σ v1 v2 v3 v4 hs hR H locs ls hW (lv_sub hl [0, 1, 2, 3, 4] rfl)
  · have hs := hs.2 c_8
    rw [if_neg c_8] at hR
    refine lv_iload hx hb dX9_worstBeat_106 (lv_at hl 4 rfl) ?_
    refine lv_istore_n (lv' := [(2, .int v4), (0, .ref (a 0)), (1, .int v1), (3, .int v3), (4, .int v4)]) hx hb dX9_worstBeat_108 rfl hl (by decide) rfl (fun ls hl => ?_)
    refine lv_aload_n hx hb dX9_worstBeat_109 rfl (lv_at hl 1 rfl) ?_
    refine va_get (v := .ref (a 18)) (C := RX9) (T := TX9) (N := 7) hx hb hts hinX9 hown hK hW.1 0 (q_w_get 0 (Nat.le_of_ble_eq_true rfl)) rfl 1 (by decide) hf16 (fun _ h9 => h9) rfl dX9_worstBeat_110 ?_
    refine va_get (v := .ref (a 34)) (C := RX7) (T := TX7) (N := 7) hx hb hts hinX7 hown hK hW.1 18 (q_w_get 18 (Nat.le_of_ble_eq_true rfl)) rfl 5 (by decide) hf113 (fun _ h9 => h9) rfl dX9_worstBeat_113 ?_
    refine va_get (v := .int (σ 34 6)) (C := RX8) (T := TX8) (N := 10) hx hb hts hinX8 hown hK hW.1 34 (q_w_get 34 (Nat.le_of_ble_eq_true rfl)) rfl 6 (by decide) hf199 (fun _ h9 => h9) rfl dX9_worstBeat_116 ?_
    refine lv_istore_n (lv' := [(3, .int (σ 34 6)), (2, .int v4), (0, .ref (a 0)), (1, .int v1), (4, .int v4)]) hx hb dX9_worstBeat_119 rfl hl (by decide) rfl (fun ls hl => ?_)
    exact b_X9_worstBeat_b120 l D k a A C0 R pk36 sk36 hk36 σ v1 v4 (σ 34 6) v4 hs hR H locs ls hW (lv_sub hl [2, 3, 1, 0, 4] rfl)
set_option maxHeartbeats 400000 in
set_option maxRecDepth 100000 in
theorem b_X9_worstBeat_b70c {p : Program} {e : Env} {s : State} {m : MethodId} {args : Array Value} {below : List Frame} {meth : Method} {c : Code} (l : Launch) (D : va_G) (k : Nat → ClassId) (a : Nat → Nat) (A : Nat → Prop) (C0 : q_C p s m meth c args RX9 cX9_worstBeat 5 (some .int) wsX9_worstBeat D (tyL k) A) (R : Int32 × T2) (pk36 : T2 → Int32 → Int32 → Int32 → Int32 → Int32 × T2) (sk36 : T2 → Int32 → Int32 → Int32 → Int32 → Prop) (hk36 : ∀ (σ : T2) (v1 : Int32) (v2 : Int32) (v3 : Int32) (v4 : Int32), sk36 σ v1 v2 v3 v4 → pk36 σ v1 v2 v3 v4 = R → ∀ (H : Heap) (locs : List Loc) (ls : Array Slot), q_W D A s.heap (wX9 k a σ) H locs → lv_has ls 5 [(0, .ref (a 0)), (1, .int v1), (2, .int v2), (3, .int v3), (4, .int v4)] → W p l e { frames := 6, cells := 0, slots := 0, locals := 155 } s m args below meth c H locs 0 0 (MQ below (va_Qi (fun r u => (r, u) = R) (fun u => q_E D (tyL k) A (wX9 k a u)) A) args s 0 0 A) (F0 m 36 ls [])) : ∀ (σ : T2) (v1 : Int32) (v2 : Int32) (v3 : Int32) (v4 : Int32), S_X9_worstBeat_b70c sk36 σ v1 v2 v3 v4 → P_X9_worstBeat_b70c pk36 σ v1 v2 v3 v4 = R → ∀ (H : Heap) (locs : List Loc) (ls : Array Slot), q_W D A s.heap (wX9 k a σ) H locs → lv_has ls 5 [(0, .ref (a 0)), (1, .int v1), (2, .int v2), (3, .int v3), (4, .int v4)] → W p l e { frames := 6, cells := 0, slots := 0, locals := 155 } s m args below meth c H locs 0 0 (MQ below (va_Qi (fun r u => (r, u) = R) (fun u => q_E D (tyL k) A (wX9 k a u)) A) args s 0 0 A) (F0 m 70 ls []) := by
  intro σ v1 v2 v3 v4 hs hR H locs ls hW hl
  rw [P_X9_worstBeat_b70c_e] at hR
  rw [S_X9_worstBeat_b70c_e] at hs
  obtain ⟨hx, hb, hr, hml, hts, hown, hlocks, hK, hA⟩ := id C0
  have hf10 := hts (.fieldLink RX9 10 "BeatFollower" "scene" "LBeatFollower$Scene;") (by decide +kernel)
  have hf73 := hts (.fieldLink RX9 73 "BeatFollower$Scene" "settings" "[I") (by decide +kernel)
  have hinX7 : ∀ w ∈ u_ws RX7 TX7 7, w ∈ wsX9_worstBeat := hin_X9_worstBeat_X7
  have hinX9 : ∀ w ∈ u_ws RX9 TX9 7, w ∈ wsX9_worstBeat := hin_X9_worstBeat_X9
  refine lv_aload_n hx hb dX9_worstBeat_70 rfl (lv_at hl 0 rfl) ?_
  refine lv_aload_n hx hb dX9_worstBeat_71 rfl (lv_at hl 0 rfl) ?_
  refine va_get (v := .ref (a 1)) (C := RX9) (T := TX9) (N := 7) hx hb hts hinX9 hown hK hW.1 0 (q_w_get 0 (Nat.le_of_ble_eq_true rfl)) rfl 0 (by decide) hf10 (fun _ h9 => h9) rfl dX9_worstBeat_72 ?_
  refine va_get (v := .ref (a 2)) (C := RX7) (T := TX7) (N := 7) hx hb hts hinX7 hown hK hW.1 1 (q_w_get 1 (Nat.le_of_ble_eq_true rfl)) rfl 0 (by decide) hf73 (fun _ h9 => h9) rfl dX9_worstBeat_75 ?_
  refine lv_iconst (v := (2 : Int32)) hx hb dX9_worstBeat_78 (by decide) ?_
  refine q_iald (v := σ 2 2) C0 hW 2 (q_w_get 2 (Nat.le_of_ble_eq_true rfl)) rfl vi_2_8 cl_2 rfl dX9_worstBeat_79 ?_
  refine lv_aload_n hx hb dX9_worstBeat_80 rfl (lv_at hl 0 rfl) ?_
  refine va_get (v := .ref (a 1)) (C := RX9) (T := TX9) (N := 7) hx hb hts hinX9 hown hK hW.1 0 (q_w_get 0 (Nat.le_of_ble_eq_true rfl)) rfl 0 (by decide) hf10 (fun _ h9 => h9) rfl dX9_worstBeat_81 ?_
  refine va_get (v := .ref (a 2)) (C := RX7) (T := TX7) (N := 7) hx hb hts hinX7 hown hK hW.1 1 (q_w_get 1 (Nat.le_of_ble_eq_true rfl)) rfl 0 (by decide) hf73 (fun _ h9 => h9) rfl dX9_worstBeat_84 ?_
  refine lv_iconst (v := (3 : Int32)) hx hb dX9_worstBeat_87 (by decide) ?_
  refine q_iald (v := σ 2 3) C0 hW 2 (q_w_get 2 (Nat.le_of_ble_eq_true rfl)) rfl vi_3_8 cl_3 rfl dX9_worstBeat_88 ?_
  have hs7 := hs.1
  have hs := hs.2
  refine q_Vv (As := [.int (σ 2 2), .int (σ 2 3)]) (rest := []) (wf := wX9 k a) (R := P_X9_playTrial σ (σ 2 2) (σ 2 3)) (wd' := wX9 k a (P_X9_playTrial σ (σ 2 2) (σ 2 3))) wX9_is [0, 1, 2, 3] 0 9 C0 hW (m_X9_playTrial l D k a H.size σ (σ 2 2) (σ 2 3) hs7) (cwV 2 hts gX9_worstBeat_X9_playTrial rfl rfl rfl hd_X9_playTrial ⟨Nat.le_of_ble_eq_true rfl, Nat.le_of_ble_eq_true rfl⟩) wX9_nd (wX9_pl k a _) rfl (wX9_rec k a _) rfl (wX9_fst k a _ _) (wX9_put k a _ _) hl rfl rfl (Nat.le_of_ble_eq_true rfl) dX9_worstBeat_89 ⟨Nat.le_refl 0, Nat.le_refl 0⟩ (fun H locs hW => ?_)
  exact b_X9_worstBeat_b92c l D k a A C0 R pk36 sk36 hk36 (P_X9_playTrial σ (σ 2 2) (σ 2 3)) v1 v2 v3 v4 hs hR H locs ls hW (lv_sub hl [0, 1, 2, 3, 4] rfl)
set_option maxHeartbeats 400000 in
set_option maxRecDepth 100000 in
theorem b_X9_worstBeat_b36 {p : Program} {e : Env} {s : State} {m : MethodId} {args : Array Value} {below : List Frame} {meth : Method} {c : Code} (l : Launch) (D : va_G) (k : Nat → ClassId) (a : Nat → Nat) (A : Nat → Prop) (C0 : q_C p s m meth c args RX9 cX9_worstBeat 5 (some .int) wsX9_worstBeat D (tyL k) A) (R : Int32 × T2) : ∀ n : Nat, ∀ (σ : T2) (v1 : Int32) (v2 : Int32) (v3 : Int32) (v4 : Int32), S_X9_worstBeat_b36 n σ v1 v2 v3 v4 → P_X9_worstBeat_b36 n σ v1 v2 v3 v4 = R → ∀ (H : Heap) (locs : List Loc) (ls : Array Slot), q_W D A s.heap (wX9 k a σ) H locs → lv_has ls 5 [(0, .ref (a 0)), (1, .int v1), (2, .int v2), (3, .int v3), (4, .int v4)] → W p l e { frames := 6, cells := 0, slots := 0, locals := 155 } s m args below meth c H locs 0 0 (MQ below (va_Qi (fun r u => (r, u) = R) (fun u => q_E D (tyL k) A (wX9 k a u)) A) args s 0 0 A) (F0 m 36 ls []) := by
  intro n
  induction n with
  | zero => intro σ v1 v2 v3 v4 hs; exact False.elim hs
  | succ n ih =>
    intro σ v1 v2 v3 v4 hs hR H locs ls hW hl
    rw [P_X9_worstBeat_b36_e] at hR
    rw [S_X9_worstBeat_b36_e] at hs
    obtain ⟨hx, hb, hr, hml, hts, hown, hlocks, hK, hA⟩ := id C0
    have hf10 := hts (.fieldLink RX9 10 "BeatFollower" "scene" "LBeatFollower$Scene;") (by decide +kernel)
    have hf16 := hts (.fieldLink RX9 16 "BeatFollower" "trial" "LBeatFollower$Scene;") (by decide +kernel)
    have hf87 := hts (.fieldLink RX9 87 "BeatFollower$Scene" "plan" "LBeatFollower$Plan;") (by decide +kernel)
    have hf110 := hts (.fieldLink RX9 110 "BeatFollower$Plan" "many" "I") (by decide +kernel)
    have hinX5 : ∀ w ∈ u_ws RX5 TX5 3, w ∈ wsX9_worstBeat := hin_X9_worstBeat_X5
    have hinX7 : ∀ w ∈ u_ws RX7 TX7 7, w ∈ wsX9_worstBeat := hin_X9_worstBeat_X7
    have hinX9 : ∀ w ∈ u_ws RX9 TX9 7, w ∈ wsX9_worstBeat := hin_X9_worstBeat_X9
    refine lv_iload hx hb dX9_worstBeat_36 (lv_at hl 4 rfl) ?_
    refine lv_aload_n hx hb dX9_worstBeat_38 rfl (lv_at hl 0 rfl) ?_
    refine va_get (v := .ref (a 1)) (C := RX9) (T := TX9) (N := 7) hx hb hts hinX9 hown hK hW.1 0 (q_w_get 0 (Nat.le_of_ble_eq_true rfl)) rfl 0 (by decide) hf10 (fun _ h9 => h9) rfl dX9_worstBeat_39 ?_
    refine va_get (v := .ref (a 3)) (C := RX7) (T := TX7) (N := 7) hx hb hts hinX7 hown hK hW.1 1 (q_w_get 1 (Nat.le_of_ble_eq_true rfl)) rfl 1 (by decide) hf87 (fun _ h9 => h9) rfl dX9_worstBeat_42 ?_
    refine va_get (v := .int (σ 3 2)) (C := RX5) (T := TX5) (N := 3) hx hb hts hinX5 hown hK hW.1 3 (q_w_get 3 (Nat.le_of_ble_eq_true rfl)) rfl 2 (by decide) hf110 (fun _ h9 => h9) rfl dX9_worstBeat_45 ?_
    refine lv_icmp_ge (tgt := 126) hx hb dX9_worstBeat_48 (by decide) (fun c_4 => ?_) (fun c_4 => ?_)
    · have hs := hs.1 c_4
      rw [if_pos c_4] at hR
      refine lv_iload_n hx hb dX9_worstBeat_126 rfl (lv_at hl 1 rfl) ?_
      refine lv_if_ne (tgt := 134) hx hb dX9_worstBeat_127 (by decide) (fun c_5 => ?_) (fun c_5 => ?_)
      · have hs := hs.2 c_5
        rw [if_neg c_5] at hR
        refine lv_iload_n hx hb dX9_worstBeat_134 rfl (lv_at hl 3 rfl) ?_
        exact q_iret C0 hW hR dX9_worstBeat_135
      · have hs := hs.1 c_5
        rw [if_pos c_5] at hR
        refine lv_iload_n hx hb dX9_worstBeat_130 rfl (lv_at hl 2 rfl) ?_
        refine lv_goto (tgt := 135) hx hb dX9_worstBeat_131 (by decide) ?_
        exact q_iret C0 hW hR dX9_worstBeat_135
    · have hs := hs.2 c_4
      rw [if_neg c_4] at hR
      refine lv_aload_n hx hb dX9_worstBeat_51 rfl (lv_at hl 0 rfl) ?_
      refine va_get (v := .ref (a 18)) (C := RX9) (T := TX9) (N := 7) hx hb hts hinX9 hown hK hW.1 0 (q_w_get 0 (Nat.le_of_ble_eq_true rfl)) rfl 1 (by decide) hf16 (fun _ h9 => h9) rfl dX9_worstBeat_52 ?_
      refine va_get (v := .ref (a 20)) (C := RX7) (T := TX7) (N := 7) hx hb hts hinX7 hown hK hW.1 18 (q_w_get 18 (Nat.le_of_ble_eq_true rfl)) rfl 1 (by decide) hf87 (fun _ h9 => h9) rfl dX9_worstBeat_55 ?_
      refine lv_aload_n hx hb dX9_worstBeat_58 rfl (lv_at hl 0 rfl) ?_
      refine va_get (v := .ref (a 1)) (C := RX9) (T := TX9) (N := 7) hx hb hts hinX9 hown hK hW.1 0 (q_w_get 0 (Nat.le_of_ble_eq_true rfl)) rfl 0 (by decide) hf10 (fun _ h9 => h9) rfl dX9_worstBeat_59 ?_
      refine va_get (v := .ref (a 3)) (C := RX7) (T := TX7) (N := 7) hx hb hts hinX7 hown hK hW.1 1 (q_w_get 1 (Nat.le_of_ble_eq_true rfl)) rfl 1 (by decide) hf87 (fun _ h9 => h9) rfl dX9_worstBeat_62 ?_
      refine lv_iload hx hb dX9_worstBeat_65 (lv_at hl 4 rfl) ?_
      have hs6 := hs.1
      have hs := hs.2
      refine q_Vv (As := [.ref (a 3), .int v4]) (rest := []) (wf := wX5_X5 k (sel a 20 3 3)) (R := P_X5_copyWithout (sel σ 20 3 3) v4) (wd' := wX9 k a (sb2 σ 20 3 3 3 (P_X5_copyWithout (sel σ 20 3 3) v4))) (wX9_X5_X5_20_3_is) [0, 1, 2, 3] 20 5 C0 hW (m_X5_copyWithout l D k (sel a 20 3 3) H.size (sel σ 20 3 3) v4 hs6) (cwV 2 hts gX9_worstBeat_X5_copyWithout rfl rfl rfl hd_X5_copyWithout ⟨Nat.le_of_ble_eq_true rfl, Nat.le_of_ble_eq_true rfl⟩) (wX9_X5_X5_20_3_nd) (wX9_X5_X5_20_3_pl k a _) rfl (q_w_get 20 (Nat.le_of_ble_eq_true rfl)) rfl (wX5_X5_fst k _ _ _) (wX9_X5_X5_20_3_pt k a _ _) hl rfl rfl (Nat.le_of_ble_eq_true rfl) dX9_worstBeat_67 ⟨Nat.le_refl 0, Nat.le_refl 0⟩ (fun H locs hW => ?_)
      exact b_X9_worstBeat_b70c l D k a A C0 R _ _ ih (sb2 σ 20 3 3 3 (P_X5_copyWithout (sel σ 20 3 3) v4)) v1 v2 v3 v4 hs hR H locs ls hW (lv_sub hl [0, 1, 2, 3, 4] rfl)
set_option maxHeartbeats 400000 in
set_option maxRecDepth 100000 in
theorem b_X9_worstBeat_b0 {p : Program} {e : Env} {s : State} {m : MethodId} {args : Array Value} {below : List Frame} {meth : Method} {c : Code} (l : Launch) (D : va_G) (k : Nat → ClassId) (a : Nat → Nat) (A : Nat → Prop) (C0 : q_C p s m meth c args RX9 cX9_worstBeat 5 (some .int) wsX9_worstBeat D (tyL k) A) (R : Int32 × T2) : ∀ (σ : T2) (v1 : Int32), S_X9_worstBeat_b0 σ v1 → P_X9_worstBeat_b0 σ v1 = R → ∀ (H : Heap) (locs : List Loc) (ls : Array Slot), q_W D A s.heap (wX9 k a σ) H locs → lv_has ls 5 [(0, .ref (a 0)), (1, .int v1)] → W p l e { frames := 6, cells := 0, slots := 0, locals := 155 } s m args below meth c H locs 0 0 (MQ below (va_Qi (fun r u => (r, u) = R) (fun u => q_E D (tyL k) A (wX9 k a u)) A) args s 0 0 A) (F0 m 0 ls []) := by
  intro σ v1 hs hR H locs ls hW hl
  rw [P_X9_worstBeat_b0_e] at hR
  rw [S_X9_worstBeat_b0_e] at hs
  obtain ⟨hx, hb, hr, hml, hts, hown, hlocks, hK, hA⟩ := id C0
  have hf10 := hts (.fieldLink RX9 10 "BeatFollower" "scene" "LBeatFollower$Scene;") (by decide +kernel)
  have hf87 := hts (.fieldLink RX9 87 "BeatFollower$Scene" "plan" "LBeatFollower$Plan;") (by decide +kernel)
  have hf110 := hts (.fieldLink RX9 110 "BeatFollower$Plan" "many" "I") (by decide +kernel)
  have hinX5 : ∀ w ∈ u_ws RX5 TX5 3, w ∈ wsX9_worstBeat := hin_X9_worstBeat_X5
  have hinX7 : ∀ w ∈ u_ws RX7 TX7 7, w ∈ wsX9_worstBeat := hin_X9_worstBeat_X7
  have hinX9 : ∀ w ∈ u_ws RX9 TX9 7, w ∈ wsX9_worstBeat := hin_X9_worstBeat_X9
  refine lv_iload_n hx hb dX9_worstBeat_0 rfl (lv_at hl 1 rfl) ?_
  refine lv_iconst (v := (0 : Int32)) hx hb dX9_worstBeat_1 (by decide) ?_
  refine lv_iconst (v := (1 : Int32)) hx hb dX9_worstBeat_2 (by decide) ?_
  have hs1 := hs.1
  have hs := hs.2
  refine q_Si (As := [.int v1, .int (0 : Int32), .int (1 : Int32)]) (rest := []) (R := P_X9_isIn v1 (0 : Int32) (1 : Int32)) ⟨hx, hb, hml, hown, hts⟩ (m_X9_isIn l v1 (0 : Int32) (1 : Int32) hs1) (va_cwS 3 hts gX9_worstBeat_X9_isIn rfl rfl rfl hd_X9_isIn ⟨Nat.le_of_ble_eq_true rfl, Nat.le_of_ble_eq_true rfl⟩) hl rfl rfl (Nat.le_of_ble_eq_true rfl) dX9_worstBeat_3 ⟨Nat.le_refl 0, Nat.le_refl 0⟩ ?_
  refine lv_if_ne (tgt := 12) hx hb dX9_worstBeat_6 (by decide) (fun c_2 => ?_) (fun c_2 => ?_)
  · have hs := hs.2 c_2
    rw [if_neg c_2] at hR
    refine lv_aload_n hx hb dX9_worstBeat_12 rfl (lv_at hl 0 rfl) ?_
    refine va_get (v := .ref (a 1)) (C := RX9) (T := TX9) (N := 7) hx hb hts hinX9 hown hK hW.1 0 (q_w_get 0 (Nat.le_of_ble_eq_true rfl)) rfl 0 (by decide) hf10 (fun _ h9 => h9) rfl dX9_worstBeat_13 ?_
    refine va_get (v := .ref (a 3)) (C := RX7) (T := TX7) (N := 7) hx hb hts hinX7 hown hK hW.1 1 (q_w_get 1 (Nat.le_of_ble_eq_true rfl)) rfl 1 (by decide) hf87 (fun _ h9 => h9) rfl dX9_worstBeat_16 ?_
    refine va_get (v := .int (σ 3 2)) (C := RX5) (T := TX5) (N := 3) hx hb hts hinX5 hown hK hW.1 3 (q_w_get 3 (Nat.le_of_ble_eq_true rfl)) rfl 2 (by decide) hf110 (fun _ h9 => h9) rfl dX9_worstBeat_19 ?_
    refine lv_if_ne (tgt := 28) hx hb dX9_worstBeat_22 (by decide) (fun c_3 => ?_) (fun c_3 => ?_)
    · have hs := hs.2 c_3
      rw [if_neg c_3] at hR
      refine lv_iconst (v := (0 : Int32)) hx hb dX9_worstBeat_28 (by decide) ?_
      refine lv_istore_n (lv' := [(2, .int (0 : Int32)), (0, .ref (a 0)), (1, .int v1)]) hx hb dX9_worstBeat_29 rfl hl (by decide) rfl (fun ls hl => ?_)
      refine lv_ldc (v := (1000000 : Int32)) hx hb hown (hts (.constant RX9 240 (1000000 : Int32)) (by decide +kernel)) dX9_worstBeat_30 ?_
      refine lv_istore_n (lv' := [(3, .int (1000000 : Int32)), (2, .int (0 : Int32)), (0, .ref (a 0)), (1, .int v1)]) hx hb dX9_worstBeat_32 rfl hl (by decide) rfl (fun ls hl => ?_)
      refine lv_iconst (v := (0 : Int32)) hx hb dX9_worstBeat_33 (by decide) ?_
      refine lv_istore (lv' := [(4, .int (0 : Int32)), (3, .int (1000000 : Int32)), (2, .int (0 : Int32)), (0, .ref (a 0)), (1, .int v1)]) hx hb dX9_worstBeat_34 hl (by decide) rfl (fun ls hl => ?_)
      exact b_X9_worstBeat_b36 l D k a A C0 R FU σ v1 (0 : Int32) (1000000 : Int32) (0 : Int32) hs hR H locs ls hW (lv_sub hl [3, 4, 2, 1, 0] rfl)
    · have hs := hs.1 c_3
      rw [if_pos c_3] at hR
      refine lv_bipush (v := (-6 : Int32)) hx hb dX9_worstBeat_25 (by decide) ?_
      exact q_iret C0 hW hR dX9_worstBeat_27
  · have hs := hs.1 c_2
    rw [if_pos c_2] at hR
    refine lv_bipush (v := (-2 : Int32)) hx hb dX9_worstBeat_9 (by decide) ?_
    exact q_iret C0 hW hR dX9_worstBeat_11
set_option maxHeartbeats 400000 in
set_option maxRecDepth 100000 in
theorem m_X9_worstBeat (l : Launch) (D : va_G) (k : Nat → ClassId) (a : Nat → Nat) (sz : Nat) (σ : T2) (p0 : Int32) (hs : S_X9_worstBeat σ p0) : Met l yX9_worstBeat wsX9_worstBeat { frames := 6, cells := 0, slots := 0, locals := 155 } (va_Pc [.ref (a 0), .int p0] (q_B D (tyL k) (wX9 k a σ) sz)) (va_Qi (fun r u => (r, u) = P_X9_worstBeat σ p0) (fun u => q_E D (tyL k) (va_A (wX9 k a σ) sz) (wX9 k a u)) (va_A (wX9 k a σ) sz)) 0 0 (va_A (wX9 k a σ) sz) := by
  refine q_met [.ref (a 0), .int p0] (wX9 k a σ) sz (cc := cX9_worstBeat) (maxL := 5) (ret := (some .int)) (by decide) rfl (Nat.le_of_ble_eq_true rfl) ?_
  intro p e s m args below meth c ls hsz C0 hW hl hin
  subst hsz
  exact b_X9_worstBeat_b0 l D k a _ C0 _ σ p0 hs rfl s.heap [] ls hW (lv_sub hl [0, 1] rfl)
theorem hin_X9_put_X4 : ∀ w ∈ u_ws RX4 TX4 2, w ∈ wsX9_put := by decide +kernel
theorem hin_X9_put_X9 : ∀ w ∈ u_ws RX9 TX9 7, w ∈ wsX9_put := by decide +kernel
theorem hd_X9_put : yX9_put.cls = RX9 ∧ yX9_put.cls ≠ "java/lang/invoke/MethodHandle" ∧ yX9_put.cls ≠ "java/lang/invoke/VarHandle" ∧ (parseMethodDescriptor yX9_put.desc).map (fun d => d.parameters.length) = some 1 := by decide +kernel
noncomputable def P_X9_put_b59c (pk34 : T2 → Int64 → Int32 → Int32 × T2) (σ : T2) (v1 : Int64) (v4 : Int32) : Int32 × T2 := pk34 σ v1 (v4 + (-1 : Int32))
def S_X9_put_b59c (sk34 : T2 → Int64 → Int32 → Prop) (σ : T2) (v1 : Int64) (v4 : Int32) : Prop := sk34 σ v1 (v4 + (-1 : Int32))
theorem P_X9_put_b59c_e (pk34 : T2 → Int64 → Int32 → Int32 × T2) (σ : T2) (v1 : Int64) (v4 : Int32) : P_X9_put_b59c pk34 σ v1 v4 = pk34 σ v1 (v4 + (-1 : Int32)) := rfl
theorem S_X9_put_b59c_e (sk34 : T2 → Int64 → Int32 → Prop) (σ : T2) (v1 : Int64) (v4 : Int32) : S_X9_put_b59c sk34 σ v1 v4 = (sk34 σ v1 (v4 + (-1 : Int32))) := rfl
noncomputable def P_X9_put_b34 (n : Nat) : T2 → Int64 → Int32 → Int32 × T2 := Nat.rec (motive := fun _ => T2 → Int64 → Int32 → Int32 × T2) (fun _ _ _ => (0, fun _ _ => 0)) (fun _ pk34 => fun σ v1 v4 => if v4 < 0 then ((σ 175 1, σ)) else (P_X9_put_b59c pk34 (sb σ 175 2 (P_X4_append (fun j => σ (175 + j)) ((((((v1.toUInt64 >>> (((8 : Int32) * v4).toInt64.toUInt64 &&& Int64.toUInt64 63)).toInt64) &&& (255 : Int64)).toInt32).toUInt32 % 65536).toInt32))) v1 v4)) n
def S_X9_put_b34 (n : Nat) : T2 → Int64 → Int32 → Prop := Nat.rec (motive := fun _ => T2 → Int64 → Int32 → Prop) (fun _ _ _ => False) (fun _ sk34 => fun σ v1 v4 => (v4 < 0 → (True)) ∧ (¬ (v4 < 0) → ((S_X4_append (fun j => σ (175 + j)) ((((((v1.toUInt64 >>> (((8 : Int32) * v4).toInt64.toUInt64 &&& Int64.toUInt64 63)).toInt64) &&& (255 : Int64)).toInt32).toUInt32 % 65536).toInt32)) ∧ (S_X9_put_b59c sk34 (sb σ 175 2 (P_X4_append (fun j => σ (175 + j)) ((((((v1.toUInt64 >>> (((8 : Int32) * v4).toInt64.toUInt64 &&& Int64.toUInt64 63)).toInt64) &&& (255 : Int64)).toInt32).toUInt32 % 65536).toInt32))) v1 v4)))) n
theorem P_X9_put_b34_e (n : Nat) (σ : T2) (v1 : Int64) (v4 : Int32) : P_X9_put_b34 (n + 1) σ v1 v4 = if v4 < 0 then ((σ 175 1, σ)) else (P_X9_put_b59c (P_X9_put_b34 n) (sb σ 175 2 (P_X4_append (fun j => σ (175 + j)) ((((((v1.toUInt64 >>> (((8 : Int32) * v4).toInt64.toUInt64 &&& Int64.toUInt64 63)).toInt64) &&& (255 : Int64)).toInt32).toUInt32 % 65536).toInt32))) v1 v4) := rfl
theorem S_X9_put_b34_e (n : Nat) (σ : T2) (v1 : Int64) (v4 : Int32) : S_X9_put_b34 (n + 1) σ v1 v4 = ((v4 < 0 → (True)) ∧ (¬ (v4 < 0) → ((S_X4_append (fun j => σ (175 + j)) ((((((v1.toUInt64 >>> (((8 : Int32) * v4).toInt64.toUInt64 &&& Int64.toUInt64 63)).toInt64) &&& (255 : Int64)).toInt32).toUInt32 % 65536).toInt32)) ∧ (S_X9_put_b59c (S_X9_put_b34 n) (sb σ 175 2 (P_X4_append (fun j => σ (175 + j)) ((((((v1.toUInt64 >>> (((8 : Int32) * v4).toInt64.toUInt64 &&& Int64.toUInt64 63)).toInt64) &&& (255 : Int64)).toInt32).toUInt32 % 65536).toInt32))) v1 v4)))) := rfl
noncomputable def P_X9_put_b0 (σ : T2) (v1 : Int64) : Int32 × T2 := if (P_X9_charactersIn v1) = 0 then (((-2 : Int32), σ)) else (if ((σ 175 1) + (P_X9_charactersIn v1)) ≤ (80 : Int32) then (P_X9_put_b34 FU σ v1 ((P_X9_charactersIn v1) - (1 : Int32))) else (((-4 : Int32), σ)))
def S_X9_put_b0 (σ : T2) (v1 : Int64) : Prop := (S_X9_charactersIn v1) ∧ (((P_X9_charactersIn v1) = 0 → (True)) ∧ (¬ ((P_X9_charactersIn v1) = 0) → ((((σ 175 1) + (P_X9_charactersIn v1)) ≤ (80 : Int32) → (S_X9_put_b34 FU σ v1 ((P_X9_charactersIn v1) - (1 : Int32)))) ∧ (¬ (((σ 175 1) + (P_X9_charactersIn v1)) ≤ (80 : Int32)) → (True)))))
theorem P_X9_put_b0_e (σ : T2) (v1 : Int64) : P_X9_put_b0 σ v1 = if (P_X9_charactersIn v1) = 0 then (((-2 : Int32), σ)) else (if ((σ 175 1) + (P_X9_charactersIn v1)) ≤ (80 : Int32) then (P_X9_put_b34 FU σ v1 ((P_X9_charactersIn v1) - (1 : Int32))) else (((-4 : Int32), σ))) := rfl
theorem S_X9_put_b0_e (σ : T2) (v1 : Int64) : S_X9_put_b0 σ v1 = ((S_X9_charactersIn v1) ∧ (((P_X9_charactersIn v1) = 0 → (True)) ∧ (¬ ((P_X9_charactersIn v1) = 0) → ((((σ 175 1) + (P_X9_charactersIn v1)) ≤ (80 : Int32) → (S_X9_put_b34 FU σ v1 ((P_X9_charactersIn v1) - (1 : Int32)))) ∧ (¬ (((σ 175 1) + (P_X9_charactersIn v1)) ≤ (80 : Int32)) → (True)))))) := rfl
noncomputable def P_X9_put (σ : T2) (p0 : Int64) : Int32 × T2 := P_X9_put_b0 σ p0
def S_X9_put (σ : T2) (p0 : Int64) : Prop := S_X9_put_b0 σ p0
set_option maxHeartbeats 400000 in
set_option maxRecDepth 100000 in
theorem b_X9_put_b59c {p : Program} {e : Env} {s : State} {m : MethodId} {args : Array Value} {below : List Frame} {meth : Method} {c : Code} (l : Launch) (D : va_G) (k : Nat → ClassId) (a : Nat → Nat) (A : Nat → Prop) (C0 : q_C p s m meth c args RX9 cX9_put 5 (some .int) wsX9_put D (tyL k) A) (R : Int32 × T2) (pk34 : T2 → Int64 → Int32 → Int32 × T2) (sk34 : T2 → Int64 → Int32 → Prop) (hk34 : ∀ (σ : T2) (v1 : Int64) (v4 : Int32), sk34 σ v1 v4 → pk34 σ v1 v4 = R → ∀ (H : Heap) (locs : List Loc) (ls : Array Slot), q_W D A s.heap (wX9 k a σ) H locs → lv_has ls 5 [(0, .ref (a 0)), (1, .long v1), (4, .int v4)] → W p l e { frames := 2, cells := 0, slots := 0, locals := 47 } s m args below meth c H locs 0 0 (MQ below (va_Qi (fun r u => (r, u) = R) (fun u => q_E D (tyL k) A (wX9 k a u)) A) args s 0 0 A) (F0 m 34 ls [])) : ∀ (σ : T2) (v1 : Int64) (v4 : Int32), S_X9_put_b59c sk34 σ v1 v4 → P_X9_put_b59c pk34 σ v1 v4 = R → ∀ (H : Heap) (locs : List Loc) (ls : Array Slot), q_W D A s.heap (wX9 k a σ) H locs → lv_has ls 5 [(0, .ref (a 0)), (1, .long v1), (4, .int v4)] → W p l e { frames := 2, cells := 0, slots := 0, locals := 47 } s m args below meth c H locs 0 0 (MQ below (va_Qi (fun r u => (r, u) = R) (fun u => q_E D (tyL k) A (wX9 k a u)) A) args s 0 0 A) (F0 m 59 ls []) := by
  intro σ v1 v4 hs hR H locs ls hW hl
  rw [P_X9_put_b59c_e] at hR
  rw [S_X9_put_b59c_e] at hs
  obtain ⟨hx, hb, hr, hml, hts, hown, hlocks, hK, hA⟩ := id C0
  refine lv_iinc (v := v4 + (-1 : Int32)) (lv' := [(4, .int (v4 + (-1 : Int32))), (0, .ref (a 0)), (1, .long v1)]) hx hb dX9_put_59 hl (k := 2) rfl rfl (by decide) rfl (fun ls hl => ?_)
  refine lv_goto (tgt := 34) hx hb dX9_put_62 (by decide) ?_
  exact hk34 σ v1 (v4 + (-1 : Int32)) hs hR H locs ls hW (lv_sub hl [1, 2, 0] rfl)
set_option maxHeartbeats 400000 in
set_option maxRecDepth 100000 in
theorem b_X9_put_b34 {p : Program} {e : Env} {s : State} {m : MethodId} {args : Array Value} {below : List Frame} {meth : Method} {c : Code} (l : Launch) (D : va_G) (k : Nat → ClassId) (a : Nat → Nat) (A : Nat → Prop) (C0 : q_C p s m meth c args RX9 cX9_put 5 (some .int) wsX9_put D (tyL k) A) (R : Int32 × T2) : ∀ n : Nat, ∀ (σ : T2) (v1 : Int64) (v4 : Int32), S_X9_put_b34 n σ v1 v4 → P_X9_put_b34 n σ v1 v4 = R → ∀ (H : Heap) (locs : List Loc) (ls : Array Slot), q_W D A s.heap (wX9 k a σ) H locs → lv_has ls 5 [(0, .ref (a 0)), (1, .long v1), (4, .int v4)] → W p l e { frames := 2, cells := 0, slots := 0, locals := 47 } s m args below meth c H locs 0 0 (MQ below (va_Qi (fun r u => (r, u) = R) (fun u => q_E D (tyL k) A (wX9 k a u)) A) args s 0 0 A) (F0 m 34 ls []) := by
  intro n
  induction n with
  | zero => intro σ v1 v4 hs; exact False.elim hs
  | succ n ih =>
    intro σ v1 v4 hs hR H locs ls hW hl
    rw [P_X9_put_b34_e] at hR
    rw [S_X9_put_b34_e] at hs
    obtain ⟨hx, hb, hr, hml, hts, hown, hlocks, hK, hA⟩ := id C0
    have hf37 := hts (.fieldLink RX9 37 "BeatFollower" "pad" "LBeatFollower$Pad;") (by decide +kernel)
    have hf214 := hts (.fieldLink RX9 214 "BeatFollower$Pad" "length" "I") (by decide +kernel)
    have hinX4 : ∀ w ∈ u_ws RX4 TX4 2, w ∈ wsX9_put := hin_X9_put_X4
    have hinX9 : ∀ w ∈ u_ws RX9 TX9 7, w ∈ wsX9_put := hin_X9_put_X9
    refine lv_iload hx hb dX9_put_34 (lv_at hl 2 rfl) ?_
    refine lv_if_lt (tgt := 65) hx hb dX9_put_36 (by decide) (fun c_4 => ?_) (fun c_4 => ?_)
    · have hs := hs.1 c_4
      rw [if_pos c_4] at hR
      refine lv_aload_n hx hb dX9_put_65 rfl (lv_at hl 0 rfl) ?_
      refine va_get (v := .ref (a 175)) (C := RX9) (T := TX9) (N := 7) hx hb hts hinX9 hown hK hW.1 0 (q_w_get 0 (Nat.le_of_ble_eq_true rfl)) rfl 5 (by decide) hf37 (fun _ h9 => h9) rfl dX9_put_66 ?_
      refine va_get (v := .int (σ 175 1)) (C := RX4) (T := TX4) (N := 2) hx hb hts hinX4 hown hK hW.1 175 (q_w_get 175 (Nat.le_of_ble_eq_true rfl)) rfl 1 (by decide) hf214 (fun _ h9 => h9) rfl dX9_put_69 ?_
      exact q_iret C0 hW hR dX9_put_72
    · have hs := hs.2 c_4
      rw [if_neg c_4] at hR
      refine lv_aload_n hx hb dX9_put_39 rfl (lv_at hl 0 rfl) ?_
      refine va_get (v := .ref (a 175)) (C := RX9) (T := TX9) (N := 7) hx hb hts hinX9 hown hK hW.1 0 (q_w_get 0 (Nat.le_of_ble_eq_true rfl)) rfl 5 (by decide) hf37 (fun _ h9 => h9) rfl dX9_put_40 ?_
      refine lv_lload_n hx hb dX9_put_43 rfl (lv_at hl 1 rfl) ?_
      refine lv_bipush (v := (8 : Int32)) hx hb dX9_put_44 (by decide) ?_
      refine lv_iload hx hb dX9_put_46 (lv_at hl 2 rfl) ?_
      refine lv_imul hx hb dX9_put_48 ?_
      refine lv_lushr (v := (v1.toUInt64 >>> (((8 : Int32) * v4).toInt64.toUInt64 &&& Int64.toUInt64 63)).toInt64) hx hb dX9_put_49 rfl ?_
      refine lv_ldc2 (v := (255 : Int64)) hx hb hown (hts (.constantLong RX9 249 (255)) (by decide +kernel)) dX9_put_50 ?_
      refine lv_land hx hb dX9_put_53 ?_
      refine lv_l2i (v := (((v1.toUInt64 >>> (((8 : Int32) * v4).toInt64.toUInt64 &&& Int64.toUInt64 63)).toInt64) &&& (255 : Int64)).toInt32) hx hb dX9_put_54 rfl ?_
      refine lv_i2c (v := (((((v1.toUInt64 >>> (((8 : Int32) * v4).toInt64.toUInt64 &&& Int64.toUInt64 63)).toInt64) &&& (255 : Int64)).toInt32).toUInt32 % 65536).toInt32) hx hb dX9_put_55 rfl ?_
      have hs5 := hs.1
      have hs := hs.2
      refine q_Vv (As := [.int ((((((v1.toUInt64 >>> (((8 : Int32) * v4).toInt64.toUInt64 &&& Int64.toUInt64 63)).toInt64) &&& (255 : Int64)).toInt32).toUInt32 % 65536).toInt32)]) (rest := []) (wf := wX4 k (fun j => a (175 + j))) (R := P_X4_append (fun j => σ (175 + j)) ((((((v1.toUInt64 >>> (((8 : Int32) * v4).toInt64.toUInt64 &&& Int64.toUInt64 63)).toInt64) &&& (255 : Int64)).toInt32).toUInt32 % 65536).toInt32)) (wd' := wX9 k a (sb σ 175 2 (P_X4_append (fun j => σ (175 + j)) ((((((v1.toUInt64 >>> (((8 : Int32) * v4).toInt64.toUInt64 &&& Int64.toUInt64 63)).toInt64) &&& (255 : Int64)).toInt32).toUInt32 % 65536).toInt32)))) (wX9_X4_175_is) [0, 1, 2, 3] 175 4 C0 hW (m_X4_append l D k (fun j => a (175 + j)) H.size (fun j => σ (175 + j)) ((((((v1.toUInt64 >>> (((8 : Int32) * v4).toInt64.toUInt64 &&& Int64.toUInt64 63)).toInt64) &&& (255 : Int64)).toInt32).toUInt32 % 65536).toInt32) hs5) (cwV 1 hts gX9_put_X4_append rfl rfl rfl hd_X4_append ⟨Nat.le_of_ble_eq_true rfl, Nat.le_of_ble_eq_true rfl⟩) (wX9_X4_175_nd) (wX9_X4_175_pl k a _) rfl (q_w_get 175 (Nat.le_of_ble_eq_true rfl)) rfl (wX4_fst k _ _ _) (wX9_X4_175_pt k a _ _) hl rfl rfl (Nat.le_of_ble_eq_true rfl) dX9_put_56 ⟨Nat.le_refl 0, Nat.le_refl 0⟩ (fun H locs hW => ?_)
      exact b_X9_put_b59c l D k a A C0 R _ _ ih (sb σ 175 2 (P_X4_append (fun j => σ (175 + j)) ((((((v1.toUInt64 >>> (((8 : Int32) * v4).toInt64.toUInt64 &&& Int64.toUInt64 63)).toInt64) &&& (255 : Int64)).toInt32).toUInt32 % 65536).toInt32))) v1 v4 hs hR H locs ls hW (lv_sub hl [0, 1, 2] rfl)
set_option maxHeartbeats 400000 in
set_option maxRecDepth 100000 in
theorem b_X9_put_b0 {p : Program} {e : Env} {s : State} {m : MethodId} {args : Array Value} {below : List Frame} {meth : Method} {c : Code} (l : Launch) (D : va_G) (k : Nat → ClassId) (a : Nat → Nat) (A : Nat → Prop) (C0 : q_C p s m meth c args RX9 cX9_put 5 (some .int) wsX9_put D (tyL k) A) (R : Int32 × T2) : ∀ (σ : T2) (v1 : Int64), S_X9_put_b0 σ v1 → P_X9_put_b0 σ v1 = R → ∀ (H : Heap) (locs : List Loc) (ls : Array Slot), q_W D A s.heap (wX9 k a σ) H locs → lv_has ls 5 [(0, .ref (a 0)), (1, .long v1)] → W p l e { frames := 2, cells := 0, slots := 0, locals := 47 } s m args below meth c H locs 0 0 (MQ below (va_Qi (fun r u => (r, u) = R) (fun u => q_E D (tyL k) A (wX9 k a u)) A) args s 0 0 A) (F0 m 0 ls []) := by
  intro σ v1 hs hR H locs ls hW hl
  rw [P_X9_put_b0_e] at hR
  rw [S_X9_put_b0_e] at hs
  obtain ⟨hx, hb, hr, hml, hts, hown, hlocks, hK, hA⟩ := id C0
  have hf37 := hts (.fieldLink RX9 37 "BeatFollower" "pad" "LBeatFollower$Pad;") (by decide +kernel)
  have hf214 := hts (.fieldLink RX9 214 "BeatFollower$Pad" "length" "I") (by decide +kernel)
  have hinX4 : ∀ w ∈ u_ws RX4 TX4 2, w ∈ wsX9_put := hin_X9_put_X4
  have hinX9 : ∀ w ∈ u_ws RX9 TX9 7, w ∈ wsX9_put := hin_X9_put_X9
  refine lv_lload_n hx hb dX9_put_0 rfl (lv_at hl 1 rfl) ?_
  have hs1 := hs.1
  have hs := hs.2
  refine q_Si (As := [.long v1]) (rest := []) (R := P_X9_charactersIn v1) ⟨hx, hb, hml, hown, hts⟩ (m_X9_charactersIn l v1 hs1) (va_cwS 1 hts gX9_put_X9_charactersIn rfl rfl rfl hd_X9_charactersIn ⟨Nat.le_of_ble_eq_true rfl, Nat.le_of_ble_eq_true rfl⟩) hl rfl rfl (Nat.le_of_ble_eq_true rfl) dX9_put_1 ⟨Nat.le_refl 0, Nat.le_refl 0⟩ ?_
  refine lv_istore_n (lv' := [(3, .int (P_X9_charactersIn v1)), (0, .ref (a 0)), (1, .long v1)]) hx hb dX9_put_4 rfl hl (by decide) rfl (fun ls hl => ?_)
  refine lv_iload_n hx hb dX9_put_5 rfl (lv_at hl 0 rfl) ?_
  refine lv_if_ne (tgt := 12) hx hb dX9_put_6 (by decide) (fun c_2 => ?_) (fun c_2 => ?_)
  · have hs := hs.2 c_2
    rw [if_neg c_2] at hR
    refine lv_aload_n hx hb dX9_put_12 rfl (lv_at hl 1 rfl) ?_
    refine va_get (v := .ref (a 175)) (C := RX9) (T := TX9) (N := 7) hx hb hts hinX9 hown hK hW.1 0 (q_w_get 0 (Nat.le_of_ble_eq_true rfl)) rfl 5 (by decide) hf37 (fun _ h9 => h9) rfl dX9_put_13 ?_
    refine va_get (v := .int (σ 175 1)) (C := RX4) (T := TX4) (N := 2) hx hb hts hinX4 hown hK hW.1 175 (q_w_get 175 (Nat.le_of_ble_eq_true rfl)) rfl 1 (by decide) hf214 (fun _ h9 => h9) rfl dX9_put_16 ?_
    refine lv_iload_n hx hb dX9_put_19 rfl (lv_at hl 0 rfl) ?_
    refine lv_iadd hx hb dX9_put_20 ?_
    refine lv_bipush (v := (80 : Int32)) hx hb dX9_put_21 (by decide) ?_
    refine lv_icmp_le (tgt := 29) hx hb dX9_put_23 (by decide) (fun c_3 => ?_) (fun c_3 => ?_)
    · have hs := hs.1 c_3
      rw [if_pos c_3] at hR
      refine lv_iload_n hx hb dX9_put_29 rfl (lv_at hl 0 rfl) ?_
      refine lv_iconst (v := (1 : Int32)) hx hb dX9_put_30 (by decide) ?_
      refine lv_isub hx hb dX9_put_31 ?_
      refine lv_istore (lv' := [(4, .int ((P_X9_charactersIn v1) - (1 : Int32))), (3, .int (P_X9_charactersIn v1)), (0, .ref (a 0)), (1, .long v1)]) hx hb dX9_put_32 hl (by decide) rfl (fun ls hl => ?_)
      exact b_X9_put_b34 l D k a A C0 R FU σ v1 ((P_X9_charactersIn v1) - (1 : Int32)) hs hR H locs ls hW (lv_sub hl [2, 3, 0] rfl)
    · have hs := hs.2 c_3
      rw [if_neg c_3] at hR
      refine lv_bipush (v := (-4 : Int32)) hx hb dX9_put_26 (by decide) ?_
      exact q_iret C0 hW hR dX9_put_28
  · have hs := hs.1 c_2
    rw [if_pos c_2] at hR
    refine lv_bipush (v := (-2 : Int32)) hx hb dX9_put_9 (by decide) ?_
    exact q_iret C0 hW hR dX9_put_11
set_option maxHeartbeats 400000 in
set_option maxRecDepth 100000 in
theorem m_X9_put (l : Launch) (D : va_G) (k : Nat → ClassId) (a : Nat → Nat) (sz : Nat) (σ : T2) (p0 : Int64) (hs : S_X9_put σ p0) : Met l yX9_put wsX9_put { frames := 2, cells := 0, slots := 0, locals := 47 } (va_Pc [.ref (a 0), .long p0] (q_B D (tyL k) (wX9 k a σ) sz)) (va_Qi (fun r u => (r, u) = P_X9_put σ p0) (fun u => q_E D (tyL k) (va_A (wX9 k a σ) sz) (wX9 k a u)) (va_A (wX9 k a σ) sz)) 0 0 (va_A (wX9 k a σ) sz) := by
  refine q_met [.ref (a 0), .long p0] (wX9 k a σ) sz (cc := cX9_put) (maxL := 5) (ret := (some .int)) (by decide) rfl (Nat.le_of_ble_eq_true rfl) ?_
  intro p e s m args below meth c ls hsz C0 hW hl hin
  subst hsz
  exact b_X9_put_b0 l D k a _ C0 _ σ p0 hs rfl s.heap [] ls hW (lv_sub hl [0, 1] rfl)
theorem hin_X9_wipe_X4 : ∀ w ∈ u_ws RX4 TX4 2, w ∈ wsX9_wipe := by decide +kernel
theorem hin_X9_wipe_X9 : ∀ w ∈ u_ws RX9 TX9 7, w ∈ wsX9_wipe := by decide +kernel
theorem hd_X9_wipe : yX9_wipe.cls = RX9 ∧ yX9_wipe.cls ≠ "java/lang/invoke/MethodHandle" ∧ yX9_wipe.cls ≠ "java/lang/invoke/VarHandle" ∧ (parseMethodDescriptor yX9_wipe.desc).map (fun d => d.parameters.length) = some 0 := by decide +kernel
noncomputable def P_X9_wipe_b0 (σ : T2) : Int32 × T2 := (σ 175 1, u2 σ 175 (upd (σ 175) 1 (0 : Int32)))
def S_X9_wipe_b0 (σ : T2) : Prop := True
theorem P_X9_wipe_b0_e (σ : T2) : P_X9_wipe_b0 σ = (σ 175 1, u2 σ 175 (upd (σ 175) 1 (0 : Int32))) := rfl
theorem S_X9_wipe_b0_e (σ : T2) : S_X9_wipe_b0 σ = (True) := rfl
noncomputable def P_X9_wipe (σ : T2) : Int32 × T2 := P_X9_wipe_b0 σ
def S_X9_wipe (σ : T2) : Prop := S_X9_wipe_b0 σ
set_option maxHeartbeats 400000 in
set_option maxRecDepth 100000 in
theorem b_X9_wipe_b0 {p : Program} {e : Env} {s : State} {m : MethodId} {args : Array Value} {below : List Frame} {meth : Method} {c : Code} (l : Launch) (D : va_G) (k : Nat → ClassId) (a : Nat → Nat) (A : Nat → Prop) (C0 : q_C p s m meth c args RX9 cX9_wipe 2 (some .int) wsX9_wipe D (tyL k) A) (R : Int32 × T2) : ∀ (σ : T2), S_X9_wipe_b0 σ → P_X9_wipe_b0 σ = R → ∀ (H : Heap) (locs : List Loc) (ls : Array Slot), q_W D A s.heap (wX9 k a σ) H locs → lv_has ls 2 [(0, .ref (a 0))] → W p l e { frames := 0, cells := 0, slots := 0, locals := 0 } s m args below meth c H locs 0 0 (MQ below (va_Qi (fun r u => (r, u) = R) (fun u => q_E D (tyL k) A (wX9 k a u)) A) args s 0 0 A) (F0 m 0 ls []) := by
  intro σ hs hR H locs ls hW hl
  rw [P_X9_wipe_b0_e] at hR
  rw [S_X9_wipe_b0_e] at hs
  obtain ⟨hx, hb, hr, hml, hts, hown, hlocks, hK, hA⟩ := id C0
  have hf37 := hts (.fieldLink RX9 37 "BeatFollower" "pad" "LBeatFollower$Pad;") (by decide +kernel)
  have hf214 := hts (.fieldLink RX9 214 "BeatFollower$Pad" "length" "I") (by decide +kernel)
  have hinX4 : ∀ w ∈ u_ws RX4 TX4 2, w ∈ wsX9_wipe := hin_X9_wipe_X4
  have hinX9 : ∀ w ∈ u_ws RX9 TX9 7, w ∈ wsX9_wipe := hin_X9_wipe_X9
  refine lv_aload_n hx hb dX9_wipe_0 rfl (lv_at hl 0 rfl) ?_
  refine va_get (v := .ref (a 175)) (C := RX9) (T := TX9) (N := 7) hx hb hts hinX9 hown hK hW.1 0 (q_w_get 0 (Nat.le_of_ble_eq_true rfl)) rfl 5 (by decide) hf37 (fun _ h9 => h9) rfl dX9_wipe_1 ?_
  refine va_get (v := .int (σ 175 1)) (C := RX4) (T := TX4) (N := 2) hx hb hts hinX4 hown hK hW.1 175 (q_w_get 175 (Nat.le_of_ble_eq_true rfl)) rfl 1 (by decide) hf214 (fun _ h9 => h9) rfl dX9_wipe_4 ?_
  refine lv_istore_n (lv' := [(1, .int (σ 175 1)), (0, .ref (a 0))]) hx hb dX9_wipe_7 rfl hl (by decide) rfl (fun ls hl => ?_)
  refine lv_aload_n hx hb dX9_wipe_8 rfl (lv_at hl 1 rfl) ?_
  refine va_get (v := .ref (a 175)) (C := RX9) (T := TX9) (N := 7) hx hb hts hinX9 hown hK hW.1 0 (q_w_get 0 (Nat.le_of_ble_eq_true rfl)) rfl 5 (by decide) hf37 (fun _ h9 => h9) rfl dX9_wipe_9 ?_
  refine lv_iconst (v := (0 : Int32)) hx hb dX9_wipe_12 (by decide) ?_
  refine q_putf (ty := .int) (wd' := wX9 k a (u2 σ 175 (upd (σ 175) 1 (0 : Int32)))) C0 hW hinX4 tyX4 tyX4_ok nmX4 175 (q_w_get 175 (Nat.le_of_ble_eq_true rfl)) rfl 1 (by decide) hf214 rfl (by decide +kernel) rfl rfl (Nat.le_of_ble_eq_true rfl) dX9_wipe_13 (fX4_s1 _ _ _) (wX9_s175 k a _ _) (fun H locs hW => ?_)
  refine lv_iload_n hx hb dX9_wipe_16 rfl (lv_at hl 0 rfl) ?_
  exact q_iret C0 hW hR dX9_wipe_17
set_option maxHeartbeats 400000 in
set_option maxRecDepth 100000 in
theorem m_X9_wipe (l : Launch) (D : va_G) (k : Nat → ClassId) (a : Nat → Nat) (sz : Nat) (σ : T2) (hs : S_X9_wipe σ) : Met l yX9_wipe wsX9_wipe { frames := 0, cells := 0, slots := 0, locals := 0 } (va_Pc [.ref (a 0)] (q_B D (tyL k) (wX9 k a σ) sz)) (va_Qi (fun r u => (r, u) = P_X9_wipe σ) (fun u => q_E D (tyL k) (va_A (wX9 k a σ) sz) (wX9 k a u)) (va_A (wX9 k a σ) sz)) 0 0 (va_A (wX9 k a σ) sz) := by
  refine q_met [.ref (a 0)] (wX9 k a σ) sz (cc := cX9_wipe) (maxL := 2) (ret := (some .int)) (by decide) rfl (Nat.le_of_ble_eq_true rfl) ?_
  intro p e s m args below meth c ls hsz C0 hW hl hin
  subst hsz
  exact b_X9_wipe_b0 l D k a _ C0 _ σ  hs rfl s.heap [] ls hW (lv_sub hl [0] rfl)
theorem hin_X9_fault_X6 : ∀ w ∈ u_ws RX6 TX6 7, w ∈ wsX9_fault := by decide +kernel
theorem hin_X9_fault_X9 : ∀ w ∈ u_ws RX9 TX9 7, w ∈ wsX9_fault := by decide +kernel
theorem hd_X9_fault : yX9_fault.cls = RX9 ∧ yX9_fault.cls ≠ "java/lang/invoke/MethodHandle" ∧ yX9_fault.cls ≠ "java/lang/invoke/VarHandle" ∧ (parseMethodDescriptor yX9_fault.desc).map (fun d => d.parameters.length) = some 0 := by decide +kernel
noncomputable def P_X9_fault_b0 (σ : T2) : Int32 × T2 := ((sb2 σ 177 3 175 2 (P_X6_read (sel σ 177 3 175))) 177 3, sb2 σ 177 3 175 2 (P_X6_read (sel σ 177 3 175)))
def S_X9_fault_b0 (σ : T2) : Prop := (S_X6_read (sel σ 177 3 175) ) ∧ (True)
theorem P_X9_fault_b0_e (σ : T2) : P_X9_fault_b0 σ = ((sb2 σ 177 3 175 2 (P_X6_read (sel σ 177 3 175))) 177 3, sb2 σ 177 3 175 2 (P_X6_read (sel σ 177 3 175))) := rfl
theorem S_X9_fault_b0_e (σ : T2) : S_X9_fault_b0 σ = ((S_X6_read (sel σ 177 3 175) ) ∧ (True)) := rfl
noncomputable def P_X9_fault (σ : T2) : Int32 × T2 := P_X9_fault_b0 σ
def S_X9_fault (σ : T2) : Prop := S_X9_fault_b0 σ
set_option maxHeartbeats 400000 in
set_option maxRecDepth 100000 in
theorem b_X9_fault_b0 {p : Program} {e : Env} {s : State} {m : MethodId} {args : Array Value} {below : List Frame} {meth : Method} {c : Code} (l : Launch) (D : va_G) (k : Nat → ClassId) (a : Nat → Nat) (A : Nat → Prop) (C0 : q_C p s m meth c args RX9 cX9_fault 1 (some .int) wsX9_fault D (tyL k) A) (R : Int32 × T2) : ∀ (σ : T2), S_X9_fault_b0 σ → P_X9_fault_b0 σ = R → ∀ (H : Heap) (locs : List Loc) (ls : Array Slot), q_W D A s.heap (wX9 k a σ) H locs → lv_has ls 1 [(0, .ref (a 0))] → W p l e { frames := 6, cells := 0, slots := 0, locals := 135 } s m args below meth c H locs 0 0 (MQ below (va_Qi (fun r u => (r, u) = R) (fun u => q_E D (tyL k) A (wX9 k a u)) A) args s 0 0 A) (F0 m 0 ls []) := by
  intro σ hs hR H locs ls hW hl
  rw [P_X9_fault_b0_e] at hR
  rw [S_X9_fault_b0_e] at hs
  obtain ⟨hx, hb, hr, hml, hts, hown, hlocks, hK, hA⟩ := id C0
  have hf37 := hts (.fieldLink RX9 37 "BeatFollower" "pad" "LBeatFollower$Pad;") (by decide +kernel)
  have hf44 := hts (.fieldLink RX9 44 "BeatFollower" "reader" "LBeatFollower$Reader;") (by decide +kernel)
  have hf258 := hts (.fieldLink RX9 258 "BeatFollower$Reader" "fault" "I") (by decide +kernel)
  have hinX6 : ∀ w ∈ u_ws RX6 TX6 7, w ∈ wsX9_fault := hin_X9_fault_X6
  have hinX9 : ∀ w ∈ u_ws RX9 TX9 7, w ∈ wsX9_fault := hin_X9_fault_X9
  refine lv_aload_n hx hb dX9_fault_0 rfl (lv_at hl 0 rfl) ?_
  refine va_get (v := .ref (a 177)) (C := RX9) (T := TX9) (N := 7) hx hb hts hinX9 hown hK hW.1 0 (q_w_get 0 (Nat.le_of_ble_eq_true rfl)) rfl 6 (by decide) hf44 (fun _ h9 => h9) rfl dX9_fault_1 ?_
  refine lv_aload_n hx hb dX9_fault_4 rfl (lv_at hl 0 rfl) ?_
  refine va_get (v := .ref (a 175)) (C := RX9) (T := TX9) (N := 7) hx hb hts hinX9 hown hK hW.1 0 (q_w_get 0 (Nat.le_of_ble_eq_true rfl)) rfl 5 (by decide) hf37 (fun _ h9 => h9) rfl dX9_fault_5 ?_
  have hs1 := hs.1
  have hs := hs.2
  refine q_Vv (As := [.ref (a 175)]) (rest := []) (wf := wX6_X4 k (sel a 177 3 175)) (R := P_X6_read (sel σ 177 3 175)) (wd' := wX9 k a (sb2 σ 177 3 175 2 (P_X6_read (sel σ 177 3 175)))) (wX9_X6_X4_177_175_is) [0, 1, 2, 3] 177 6 C0 hW (m_X6_read l D k (sel a 177 3 175) H.size (sel σ 177 3 175)  hs1) (cwV 1 hts gX9_fault_X6_read rfl rfl rfl hd_X6_read ⟨Nat.le_of_ble_eq_true rfl, Nat.le_of_ble_eq_true rfl⟩) (wX9_X6_X4_177_175_nd) (wX9_X6_X4_177_175_pl k a _) rfl (q_w_get 177 (Nat.le_of_ble_eq_true rfl)) rfl (wX6_X4_fst k _ _ _) (wX9_X6_X4_177_175_pt k a _ _) hl rfl rfl (Nat.le_of_ble_eq_true rfl) dX9_fault_8 ⟨Nat.le_refl 0, Nat.le_refl 0⟩ (fun H locs hW => ?_)
  refine lv_aload_n hx hb dX9_fault_11 rfl (lv_at hl 0 rfl) ?_
  refine va_get (v := .ref (a 177)) (C := RX9) (T := TX9) (N := 7) hx hb hts hinX9 hown hK hW.1 0 (q_w_get 0 (Nat.le_of_ble_eq_true rfl)) rfl 6 (by decide) hf44 (fun _ h9 => h9) rfl dX9_fault_12 ?_
  refine va_get (v := .int ((sb2 σ 177 3 175 2 (P_X6_read (sel σ 177 3 175))) 177 3)) (C := RX6) (T := TX6) (N := 7) hx hb hts hinX6 hown hK hW.1 177 (q_w_get 177 (Nat.le_of_ble_eq_true rfl)) rfl 3 (by decide) hf258 (fun _ h9 => h9) rfl dX9_fault_15 ?_
  exact q_iret C0 hW hR dX9_fault_18
set_option maxHeartbeats 400000 in
set_option maxRecDepth 100000 in
theorem m_X9_fault (l : Launch) (D : va_G) (k : Nat → ClassId) (a : Nat → Nat) (sz : Nat) (σ : T2) (hs : S_X9_fault σ) : Met l yX9_fault wsX9_fault { frames := 6, cells := 0, slots := 0, locals := 135 } (va_Pc [.ref (a 0)] (q_B D (tyL k) (wX9 k a σ) sz)) (va_Qi (fun r u => (r, u) = P_X9_fault σ) (fun u => q_E D (tyL k) (va_A (wX9 k a σ) sz) (wX9 k a u)) (va_A (wX9 k a σ) sz)) 0 0 (va_A (wX9 k a σ) sz) := by
  refine q_met [.ref (a 0)] (wX9 k a σ) sz (cc := cX9_fault) (maxL := 1) (ret := (some .int)) (by decide) rfl (Nat.le_of_ble_eq_true rfl) ?_
  intro p e s m args below meth c ls hsz C0 hW hl hin
  subst hsz
  exact b_X9_fault_b0 l D k a _ C0 _ σ  hs rfl s.heap [] ls hW (lv_sub hl [0] rfl)
theorem hin_X9_plan_X4 : ∀ w ∈ u_ws RX4 TX4 2, w ∈ wsX9_plan := by decide +kernel
theorem hin_X9_plan_X5 : ∀ w ∈ u_ws RX5 TX5 3, w ∈ wsX9_plan := by decide +kernel
theorem hin_X9_plan_X6 : ∀ w ∈ u_ws RX6 TX6 7, w ∈ wsX9_plan := by decide +kernel
theorem hin_X9_plan_X7 : ∀ w ∈ u_ws RX7 TX7 7, w ∈ wsX9_plan := by decide +kernel
theorem hin_X9_plan_X9 : ∀ w ∈ u_ws RX9 TX9 7, w ∈ wsX9_plan := by decide +kernel
theorem hd_X9_plan : yX9_plan.cls = RX9 ∧ yX9_plan.cls ≠ "java/lang/invoke/MethodHandle" ∧ yX9_plan.cls ≠ "java/lang/invoke/VarHandle" ∧ (parseMethodDescriptor yX9_plan.desc).map (fun d => d.parameters.length) = some 0 := by decide +kernel
noncomputable def P_X9_plan_b140c (σ : T2) : Int32 × T2 := (σ 3 2, u2 σ 175 (upd (σ 175) 1 (0 : Int32)))
def S_X9_plan_b140c (σ : T2) : Prop := True
theorem P_X9_plan_b140c_e (σ : T2) : P_X9_plan_b140c σ = (σ 3 2, u2 σ 175 (upd (σ 175) 1 (0 : Int32))) := rfl
theorem S_X9_plan_b140c_e (σ : T2) : S_X9_plan_b140c σ = (True) := rfl
noncomputable def P_X9_plan_b123c (σ : T2) : Int32 × T2 := P_X9_plan_b140c (sb2 σ 3 3 20 3 (P_X5_copyFrom (sel σ 3 3 20)))
def S_X9_plan_b123c (σ : T2) : Prop := (S_X5_copyFrom (sel σ 3 3 20) ) ∧ (S_X9_plan_b140c (sb2 σ 3 3 20 3 (P_X5_copyFrom (sel σ 3 3 20))))
theorem P_X9_plan_b123c_e (σ : T2) : P_X9_plan_b123c σ = P_X9_plan_b140c (sb2 σ 3 3 20 3 (P_X5_copyFrom (sel σ 3 3 20))) := rfl
theorem S_X9_plan_b123c_e (σ : T2) : S_X9_plan_b123c σ = ((S_X5_copyFrom (sel σ 3 3 20) ) ∧ (S_X9_plan_b140c (sb2 σ 3 3 20 3 (P_X5_copyFrom (sel σ 3 3 20))))) := rfl
noncomputable def P_X9_plan_b112 (σ : T2) : Int32 × T2 := P_X9_plan_b123c (sb2 σ 35 104 1 17 (P_X3_record (sel σ 35 104 1)))
def S_X9_plan_b112 (σ : T2) : Prop := (S_X3_record (sel σ 35 104 1) ) ∧ (S_X9_plan_b123c (sb2 σ 35 104 1 17 (P_X3_record (sel σ 35 104 1))))
theorem P_X9_plan_b112_e (σ : T2) : P_X9_plan_b112 σ = P_X9_plan_b123c (sb2 σ 35 104 1 17 (P_X3_record (sel σ 35 104 1))) := rfl
theorem S_X9_plan_b112_e (σ : T2) : S_X9_plan_b112 σ = ((S_X3_record (sel σ 35 104 1) ) ∧ (S_X9_plan_b123c (sb2 σ 35 104 1 17 (P_X3_record (sel σ 35 104 1))))) := rfl
noncomputable def P_X9_plan_b57c (σ : T2) (t0 : Int32) : Int32 × T2 := if t0 = 0 then (((-4 : Int32), σ)) else (if (P_X5_has (fun j => σ (20 + j)) (σ 3 2)) = 0 then (P_X9_plan_b112 σ) else (if (σ 1 6) < (P_X5_timeOf (fun j => σ (20 + j)) (σ 3 2)) then (P_X9_plan_b112 σ) else (((-5 : Int32), σ))))
def S_X9_plan_b57c (σ : T2) (t0 : Int32) : Prop := (t0 = 0 → (True)) ∧ (¬ (t0 = 0) → ((S_X5_has (fun j => σ (20 + j)) (σ 3 2)) ∧ (((P_X5_has (fun j => σ (20 + j)) (σ 3 2)) = 0 → (S_X9_plan_b112 σ)) ∧ (¬ ((P_X5_has (fun j => σ (20 + j)) (σ 3 2)) = 0) → ((S_X5_timeOf (fun j => σ (20 + j)) (σ 3 2)) ∧ (((σ 1 6) < (P_X5_timeOf (fun j => σ (20 + j)) (σ 3 2)) → (S_X9_plan_b112 σ)) ∧ (¬ ((σ 1 6) < (P_X5_timeOf (fun j => σ (20 + j)) (σ 3 2))) → (True))))))))
theorem P_X9_plan_b57c_e (σ : T2) (t0 : Int32) : P_X9_plan_b57c σ t0 = if t0 = 0 then (((-4 : Int32), σ)) else (if (P_X5_has (fun j => σ (20 + j)) (σ 3 2)) = 0 then (P_X9_plan_b112 σ) else (if (σ 1 6) < (P_X5_timeOf (fun j => σ (20 + j)) (σ 3 2)) then (P_X9_plan_b112 σ) else (((-5 : Int32), σ)))) := rfl
theorem S_X9_plan_b57c_e (σ : T2) (t0 : Int32) : S_X9_plan_b57c σ t0 = ((t0 = 0 → (True)) ∧ (¬ (t0 = 0) → ((S_X5_has (fun j => σ (20 + j)) (σ 3 2)) ∧ (((P_X5_has (fun j => σ (20 + j)) (σ 3 2)) = 0 → (S_X9_plan_b112 σ)) ∧ (¬ ((P_X5_has (fun j => σ (20 + j)) (σ 3 2)) = 0) → ((S_X5_timeOf (fun j => σ (20 + j)) (σ 3 2)) ∧ (((σ 1 6) < (P_X5_timeOf (fun j => σ (20 + j)) (σ 3 2)) → (S_X9_plan_b112 σ)) ∧ (¬ ((σ 1 6) < (P_X5_timeOf (fun j => σ (20 + j)) (σ 3 2))) → (True))))))))) := rfl
noncomputable def P_X9_plan_b43c (σ : T2) : Int32 × T2 := P_X9_plan_b57c (sb2 σ 20 3 177 3 ((P_X5_appendAll (sel σ 20 3 177)).2)) ((P_X5_appendAll (sel σ 20 3 177)).1)
def S_X9_plan_b43c (σ : T2) : Prop := (S_X5_appendAll (sel σ 20 3 177) ) ∧ (S_X9_plan_b57c (sb2 σ 20 3 177 3 ((P_X5_appendAll (sel σ 20 3 177)).2)) ((P_X5_appendAll (sel σ 20 3 177)).1))
theorem P_X9_plan_b43c_e (σ : T2) : P_X9_plan_b43c σ = P_X9_plan_b57c (sb2 σ 20 3 177 3 ((P_X5_appendAll (sel σ 20 3 177)).2)) ((P_X5_appendAll (sel σ 20 3 177)).1) := rfl
theorem S_X9_plan_b43c_e (σ : T2) : S_X9_plan_b43c σ = ((S_X5_appendAll (sel σ 20 3 177) ) ∧ (S_X9_plan_b57c (sb2 σ 20 3 177 3 ((P_X5_appendAll (sel σ 20 3 177)).2)) ((P_X5_appendAll (sel σ 20 3 177)).1))) := rfl
noncomputable def P_X9_plan_b11c (σ : T2) : Int32 × T2 := if (σ 177 3) = (-6 : Int32) then (P_X9_plan_b43c (sb2 σ 20 3 3 3 (P_X5_copyFrom (sel σ 20 3 3)))) else (((-3 : Int32), σ))
def S_X9_plan_b11c (σ : T2) : Prop := ((σ 177 3) = (-6 : Int32) → ((S_X5_copyFrom (sel σ 20 3 3) ) ∧ (S_X9_plan_b43c (sb2 σ 20 3 3 3 (P_X5_copyFrom (sel σ 20 3 3)))))) ∧ (¬ ((σ 177 3) = (-6 : Int32)) → (True))
theorem P_X9_plan_b11c_e (σ : T2) : P_X9_plan_b11c σ = if (σ 177 3) = (-6 : Int32) then (P_X9_plan_b43c (sb2 σ 20 3 3 3 (P_X5_copyFrom (sel σ 20 3 3)))) else (((-3 : Int32), σ)) := rfl
theorem S_X9_plan_b11c_e (σ : T2) : S_X9_plan_b11c σ = (((σ 177 3) = (-6 : Int32) → ((S_X5_copyFrom (sel σ 20 3 3) ) ∧ (S_X9_plan_b43c (sb2 σ 20 3 3 3 (P_X5_copyFrom (sel σ 20 3 3)))))) ∧ (¬ ((σ 177 3) = (-6 : Int32)) → (True))) := rfl
noncomputable def P_X9_plan_b0 (σ : T2) : Int32 × T2 := P_X9_plan_b11c (sb2 σ 177 3 175 2 (P_X6_read (sel σ 177 3 175)))
def S_X9_plan_b0 (σ : T2) : Prop := (S_X6_read (sel σ 177 3 175) ) ∧ (S_X9_plan_b11c (sb2 σ 177 3 175 2 (P_X6_read (sel σ 177 3 175))))
theorem P_X9_plan_b0_e (σ : T2) : P_X9_plan_b0 σ = P_X9_plan_b11c (sb2 σ 177 3 175 2 (P_X6_read (sel σ 177 3 175))) := rfl
theorem S_X9_plan_b0_e (σ : T2) : S_X9_plan_b0 σ = ((S_X6_read (sel σ 177 3 175) ) ∧ (S_X9_plan_b11c (sb2 σ 177 3 175 2 (P_X6_read (sel σ 177 3 175))))) := rfl
noncomputable def P_X9_plan (σ : T2) : Int32 × T2 := P_X9_plan_b0 σ
def S_X9_plan (σ : T2) : Prop := S_X9_plan_b0 σ
set_option maxHeartbeats 400000 in
set_option maxRecDepth 100000 in
theorem b_X9_plan_b140c {p : Program} {e : Env} {s : State} {m : MethodId} {args : Array Value} {below : List Frame} {meth : Method} {c : Code} (l : Launch) (D : va_G) (k : Nat → ClassId) (a : Nat → Nat) (A : Nat → Prop) (C0 : q_C p s m meth c args RX9 cX9_plan 2 (some .int) wsX9_plan D (tyL k) A) (R : Int32 × T2) : ∀ (σ : T2), S_X9_plan_b140c σ → P_X9_plan_b140c σ = R → ∀ (H : Heap) (locs : List Loc) (ls : Array Slot), q_W D A s.heap (wX9 k a σ) H locs → lv_has ls 2 [(0, .ref (a 0))] → W p l e { frames := 6, cells := 0, slots := 0, locals := 135 } s m args below meth c H locs 0 0 (MQ below (va_Qi (fun r u => (r, u) = R) (fun u => q_E D (tyL k) A (wX9 k a u)) A) args s 0 0 A) (F0 m 140 ls []) := by
  intro σ hs hR H locs ls hW hl
  rw [P_X9_plan_b140c_e] at hR
  rw [S_X9_plan_b140c_e] at hs
  obtain ⟨hx, hb, hr, hml, hts, hown, hlocks, hK, hA⟩ := id C0
  have hf10 := hts (.fieldLink RX9 10 "BeatFollower" "scene" "LBeatFollower$Scene;") (by decide +kernel)
  have hf37 := hts (.fieldLink RX9 37 "BeatFollower" "pad" "LBeatFollower$Pad;") (by decide +kernel)
  have hf87 := hts (.fieldLink RX9 87 "BeatFollower$Scene" "plan" "LBeatFollower$Plan;") (by decide +kernel)
  have hf110 := hts (.fieldLink RX9 110 "BeatFollower$Plan" "many" "I") (by decide +kernel)
  have hf214 := hts (.fieldLink RX9 214 "BeatFollower$Pad" "length" "I") (by decide +kernel)
  have hinX4 : ∀ w ∈ u_ws RX4 TX4 2, w ∈ wsX9_plan := hin_X9_plan_X4
  have hinX5 : ∀ w ∈ u_ws RX5 TX5 3, w ∈ wsX9_plan := hin_X9_plan_X5
  have hinX7 : ∀ w ∈ u_ws RX7 TX7 7, w ∈ wsX9_plan := hin_X9_plan_X7
  have hinX9 : ∀ w ∈ u_ws RX9 TX9 7, w ∈ wsX9_plan := hin_X9_plan_X9
  refine lv_aload_n hx hb dX9_plan_140 rfl (lv_at hl 0 rfl) ?_
  refine va_get (v := .ref (a 175)) (C := RX9) (T := TX9) (N := 7) hx hb hts hinX9 hown hK hW.1 0 (q_w_get 0 (Nat.le_of_ble_eq_true rfl)) rfl 5 (by decide) hf37 (fun _ h9 => h9) rfl dX9_plan_141 ?_
  refine lv_iconst (v := (0 : Int32)) hx hb dX9_plan_144 (by decide) ?_
  refine q_putf (ty := .int) (wd' := wX9 k a (u2 σ 175 (upd (σ 175) 1 (0 : Int32)))) C0 hW hinX4 tyX4 tyX4_ok nmX4 175 (q_w_get 175 (Nat.le_of_ble_eq_true rfl)) rfl 1 (by decide) hf214 rfl (by decide +kernel) rfl rfl (Nat.le_of_ble_eq_true rfl) dX9_plan_145 (fX4_s1 _ _ _) (wX9_s175 k a _ _) (fun H locs hW => ?_)
  refine lv_aload_n hx hb dX9_plan_148 rfl (lv_at hl 0 rfl) ?_
  refine va_get (v := .ref (a 1)) (C := RX9) (T := TX9) (N := 7) hx hb hts hinX9 hown hK hW.1 0 (q_w_get 0 (Nat.le_of_ble_eq_true rfl)) rfl 0 (by decide) hf10 (fun _ h9 => h9) rfl dX9_plan_149 ?_
  refine va_get (v := .ref (a 3)) (C := RX7) (T := TX7) (N := 7) hx hb hts hinX7 hown hK hW.1 1 (q_w_get 1 (Nat.le_of_ble_eq_true rfl)) rfl 1 (by decide) hf87 (fun _ h9 => h9) rfl dX9_plan_152 ?_
  refine va_get (v := .int (σ 3 2)) (C := RX5) (T := TX5) (N := 3) hx hb hts hinX5 hown hK hW.1 3 (q_w_get 3 (Nat.le_of_ble_eq_true rfl)) rfl 2 (by decide) hf110 (fun _ h9 => h9) rfl dX9_plan_155 ?_
  exact q_iret C0 hW hR dX9_plan_158
set_option maxHeartbeats 400000 in
set_option maxRecDepth 100000 in
theorem b_X9_plan_b123c {p : Program} {e : Env} {s : State} {m : MethodId} {args : Array Value} {below : List Frame} {meth : Method} {c : Code} (l : Launch) (D : va_G) (k : Nat → ClassId) (a : Nat → Nat) (A : Nat → Prop) (C0 : q_C p s m meth c args RX9 cX9_plan 2 (some .int) wsX9_plan D (tyL k) A) (R : Int32 × T2) : ∀ (σ : T2), S_X9_plan_b123c σ → P_X9_plan_b123c σ = R → ∀ (H : Heap) (locs : List Loc) (ls : Array Slot), q_W D A s.heap (wX9 k a σ) H locs → lv_has ls 2 [(0, .ref (a 0))] → W p l e { frames := 6, cells := 0, slots := 0, locals := 135 } s m args below meth c H locs 0 0 (MQ below (va_Qi (fun r u => (r, u) = R) (fun u => q_E D (tyL k) A (wX9 k a u)) A) args s 0 0 A) (F0 m 123 ls []) := by
  intro σ hs hR H locs ls hW hl
  rw [P_X9_plan_b123c_e] at hR
  rw [S_X9_plan_b123c_e] at hs
  obtain ⟨hx, hb, hr, hml, hts, hown, hlocks, hK, hA⟩ := id C0
  have hf10 := hts (.fieldLink RX9 10 "BeatFollower" "scene" "LBeatFollower$Scene;") (by decide +kernel)
  have hf16 := hts (.fieldLink RX9 16 "BeatFollower" "trial" "LBeatFollower$Scene;") (by decide +kernel)
  have hf87 := hts (.fieldLink RX9 87 "BeatFollower$Scene" "plan" "LBeatFollower$Plan;") (by decide +kernel)
  have hinX7 : ∀ w ∈ u_ws RX7 TX7 7, w ∈ wsX9_plan := hin_X9_plan_X7
  have hinX9 : ∀ w ∈ u_ws RX9 TX9 7, w ∈ wsX9_plan := hin_X9_plan_X9
  refine lv_aload_n hx hb dX9_plan_123 rfl (lv_at hl 0 rfl) ?_
  refine va_get (v := .ref (a 1)) (C := RX9) (T := TX9) (N := 7) hx hb hts hinX9 hown hK hW.1 0 (q_w_get 0 (Nat.le_of_ble_eq_true rfl)) rfl 0 (by decide) hf10 (fun _ h9 => h9) rfl dX9_plan_124 ?_
  refine va_get (v := .ref (a 3)) (C := RX7) (T := TX7) (N := 7) hx hb hts hinX7 hown hK hW.1 1 (q_w_get 1 (Nat.le_of_ble_eq_true rfl)) rfl 1 (by decide) hf87 (fun _ h9 => h9) rfl dX9_plan_127 ?_
  refine lv_aload_n hx hb dX9_plan_130 rfl (lv_at hl 0 rfl) ?_
  refine va_get (v := .ref (a 18)) (C := RX9) (T := TX9) (N := 7) hx hb hts hinX9 hown hK hW.1 0 (q_w_get 0 (Nat.le_of_ble_eq_true rfl)) rfl 1 (by decide) hf16 (fun _ h9 => h9) rfl dX9_plan_131 ?_
  refine va_get (v := .ref (a 20)) (C := RX7) (T := TX7) (N := 7) hx hb hts hinX7 hown hK hW.1 18 (q_w_get 18 (Nat.le_of_ble_eq_true rfl)) rfl 1 (by decide) hf87 (fun _ h9 => h9) rfl dX9_plan_134 ?_
  have hs9 := hs.1
  have hs := hs.2
  refine q_Vv (As := [.ref (a 20)]) (rest := []) (wf := wX5_X5 k (sel a 3 3 20)) (R := P_X5_copyFrom (sel σ 3 3 20)) (wd' := wX9 k a (sb2 σ 3 3 20 3 (P_X5_copyFrom (sel σ 3 3 20)))) (wX9_X5_X5_3_20_is) [0, 1, 2, 3] 3 5 C0 hW (m_X5_copyFrom l D k (sel a 3 3 20) H.size (sel σ 3 3 20)  hs9) (cwV 1 hts gX9_plan_X5_copyFrom rfl rfl rfl hd_X5_copyFrom ⟨Nat.le_of_ble_eq_true rfl, Nat.le_of_ble_eq_true rfl⟩) (wX9_X5_X5_3_20_nd) (wX9_X5_X5_3_20_pl k a _) rfl (q_w_get 3 (Nat.le_of_ble_eq_true rfl)) rfl (wX5_X5_fst k _ _ _) (wX9_X5_X5_3_20_pt k a _ _) hl rfl rfl (Nat.le_of_ble_eq_true rfl) dX9_plan_137 ⟨Nat.le_refl 0, Nat.le_refl 0⟩ (fun H locs hW => ?_)
  exact b_X9_plan_b140c l D k a A C0 R (sb2 σ 3 3 20 3 (P_X5_copyFrom (sel σ 3 3 20))) hs hR H locs ls hW (lv_sub hl [0] rfl)
set_option maxHeartbeats 400000 in
set_option maxRecDepth 100000 in
theorem b_X9_plan_b112 {p : Program} {e : Env} {s : State} {m : MethodId} {args : Array Value} {below : List Frame} {meth : Method} {c : Code} (l : Launch) (D : va_G) (k : Nat → ClassId) (a : Nat → Nat) (A : Nat → Prop) (C0 : q_C p s m meth c args RX9 cX9_plan 2 (some .int) wsX9_plan D (tyL k) A) (R : Int32 × T2) : ∀ (σ : T2), S_X9_plan_b112 σ → P_X9_plan_b112 σ = R → ∀ (H : Heap) (locs : List Loc) (ls : Array Slot), q_W D A s.heap (wX9 k a σ) H locs → lv_has ls 2 [(0, .ref (a 0))] → W p l e { frames := 6, cells := 0, slots := 0, locals := 135 } s m args below meth c H locs 0 0 (MQ below (va_Qi (fun r u => (r, u) = R) (fun u => q_E D (tyL k) A (wX9 k a u)) A) args s 0 0 A) (F0 m 112 ls []) := by
  intro σ hs hR H locs ls hW hl
  rw [P_X9_plan_b112_e] at hR
  rw [S_X9_plan_b112_e] at hs
  obtain ⟨hx, hb, hr, hml, hts, hown, hlocks, hK, hA⟩ := id C0
  have hf10 := hts (.fieldLink RX9 10 "BeatFollower" "scene" "LBeatFollower$Scene;") (by decide +kernel)
  have hf22 := hts (.fieldLink RX9 22 "BeatFollower" "history" "LBeatFollower$History;") (by decide +kernel)
  have hinX9 : ∀ w ∈ u_ws RX9 TX9 7, w ∈ wsX9_plan := hin_X9_plan_X9
  refine lv_aload_n hx hb dX9_plan_112 rfl (lv_at hl 0 rfl) ?_
  refine va_get (v := .ref (a 35)) (C := RX9) (T := TX9) (N := 7) hx hb hts hinX9 hown hK hW.1 0 (q_w_get 0 (Nat.le_of_ble_eq_true rfl)) rfl 2 (by decide) hf22 (fun _ h9 => h9) rfl dX9_plan_113 ?_
  refine lv_aload_n hx hb dX9_plan_116 rfl (lv_at hl 0 rfl) ?_
  refine va_get (v := .ref (a 1)) (C := RX9) (T := TX9) (N := 7) hx hb hts hinX9 hown hK hW.1 0 (q_w_get 0 (Nat.le_of_ble_eq_true rfl)) rfl 0 (by decide) hf10 (fun _ h9 => h9) rfl dX9_plan_117 ?_
  have hs8 := hs.1
  have hs := hs.2
  refine q_Vv (As := [.ref (a 1)]) (rest := []) (wf := wX3_X7 k (sel a 35 104 1)) (R := P_X3_record (sel σ 35 104 1)) (wd' := wX9 k a (sb2 σ 35 104 1 17 (P_X3_record (sel σ 35 104 1)))) (wX9_X3_X7_35_1_is) [0, 1, 2, 3] 35 3 C0 hW (m_X3_record l D k (sel a 35 104 1) H.size (sel σ 35 104 1)  hs8) (cwV 1 hts gX9_plan_X3_record rfl rfl rfl hd_X3_record ⟨Nat.le_of_ble_eq_true rfl, Nat.le_of_ble_eq_true rfl⟩) (wX9_X3_X7_35_1_nd) (wX9_X3_X7_35_1_pl k a _) rfl (q_w_get 35 (Nat.le_of_ble_eq_true rfl)) rfl (wX3_X7_fst k _ _ _) (wX9_X3_X7_35_1_pt k a _ _) hl rfl rfl (Nat.le_of_ble_eq_true rfl) dX9_plan_120 ⟨Nat.le_refl 0, Nat.le_refl 0⟩ (fun H locs hW => ?_)
  exact b_X9_plan_b123c l D k a A C0 R (sb2 σ 35 104 1 17 (P_X3_record (sel σ 35 104 1))) hs hR H locs ls hW (lv_sub hl [0] rfl)
set_option maxHeartbeats 400000 in
set_option maxRecDepth 100000 in
theorem b_X9_plan_b57c {p : Program} {e : Env} {s : State} {m : MethodId} {args : Array Value} {below : List Frame} {meth : Method} {c : Code} (l : Launch) (D : va_G) (k : Nat → ClassId) (a : Nat → Nat) (A : Nat → Prop) (C0 : q_C p s m meth c args RX9 cX9_plan 2 (some .int) wsX9_plan D (tyL k) A) (R : Int32 × T2) : ∀ (σ : T2) (t0 : Int32), S_X9_plan_b57c σ t0 → P_X9_plan_b57c σ t0 = R → ∀ (H : Heap) (locs : List Loc) (ls : Array Slot), q_W D A s.heap (wX9 k a σ) H locs → lv_has ls 2 [(0, .ref (a 0))] → W p l e { frames := 6, cells := 0, slots := 0, locals := 135 } s m args below meth c H locs 0 0 (MQ below (va_Qi (fun r u => (r, u) = R) (fun u => q_E D (tyL k) A (wX9 k a u)) A) args s 0 0 A) (F0 m 57 ls [.int t0]) := by
  intro σ t0 hs hR H locs ls hW hl
  rw [P_X9_plan_b57c_e] at hR
  rw [S_X9_plan_b57c_e] at hs
  obtain ⟨hx, hb, hr, hml, hts, hown, hlocks, hK, hA⟩ := id C0
  have hf10 := hts (.fieldLink RX9 10 "BeatFollower" "scene" "LBeatFollower$Scene;") (by decide +kernel)
  have hf16 := hts (.fieldLink RX9 16 "BeatFollower" "trial" "LBeatFollower$Scene;") (by decide +kernel)
  have hf87 := hts (.fieldLink RX9 87 "BeatFollower$Scene" "plan" "LBeatFollower$Plan;") (by decide +kernel)
  have hf103 := hts (.fieldLink RX9 103 "BeatFollower$Scene" "time" "I") (by decide +kernel)
  have hf110 := hts (.fieldLink RX9 110 "BeatFollower$Plan" "many" "I") (by decide +kernel)
  have hinX5 : ∀ w ∈ u_ws RX5 TX5 3, w ∈ wsX9_plan := hin_X9_plan_X5
  have hinX7 : ∀ w ∈ u_ws RX7 TX7 7, w ∈ wsX9_plan := hin_X9_plan_X7
  have hinX9 : ∀ w ∈ u_ws RX9 TX9 7, w ∈ wsX9_plan := hin_X9_plan_X9
  refine lv_if_ne (tgt := 63) hx hb dX9_plan_57 (by decide) (fun c_5 => ?_) (fun c_5 => ?_)
  · have hs := hs.2 c_5
    rw [if_neg c_5] at hR
    refine lv_aload_n hx hb dX9_plan_63 rfl (lv_at hl 0 rfl) ?_
    refine va_get (v := .ref (a 1)) (C := RX9) (T := TX9) (N := 7) hx hb hts hinX9 hown hK hW.1 0 (q_w_get 0 (Nat.le_of_ble_eq_true rfl)) rfl 0 (by decide) hf10 (fun _ h9 => h9) rfl dX9_plan_64 ?_
    refine va_get (v := .ref (a 3)) (C := RX7) (T := TX7) (N := 7) hx hb hts hinX7 hown hK hW.1 1 (q_w_get 1 (Nat.le_of_ble_eq_true rfl)) rfl 1 (by decide) hf87 (fun _ h9 => h9) rfl dX9_plan_67 ?_
    refine va_get (v := .int (σ 3 2)) (C := RX5) (T := TX5) (N := 3) hx hb hts hinX5 hown hK hW.1 3 (q_w_get 3 (Nat.le_of_ble_eq_true rfl)) rfl 2 (by decide) hf110 (fun _ h9 => h9) rfl dX9_plan_70 ?_
    refine lv_istore_n (lv' := [(1, .int (σ 3 2)), (0, .ref (a 0))]) hx hb dX9_plan_73 rfl hl (by decide) rfl (fun ls hl => ?_)
    refine lv_aload_n hx hb dX9_plan_74 rfl (lv_at hl 1 rfl) ?_
    refine va_get (v := .ref (a 18)) (C := RX9) (T := TX9) (N := 7) hx hb hts hinX9 hown hK hW.1 0 (q_w_get 0 (Nat.le_of_ble_eq_true rfl)) rfl 1 (by decide) hf16 (fun _ h9 => h9) rfl dX9_plan_75 ?_
    refine va_get (v := .ref (a 20)) (C := RX7) (T := TX7) (N := 7) hx hb hts hinX7 hown hK hW.1 18 (q_w_get 18 (Nat.le_of_ble_eq_true rfl)) rfl 1 (by decide) hf87 (fun _ h9 => h9) rfl dX9_plan_78 ?_
    refine lv_iload_n hx hb dX9_plan_81 rfl (lv_at hl 0 rfl) ?_
    have hs6 := hs.1
    have hs := hs.2
    refine q_Vi (As := [.int (σ 3 2)]) (rest := []) (R := P_X5_has (fun j => σ (20 + j)) (σ 3 2)) (wX9_X5_20_is) [0, 1, 2, 3] 20 5 C0 hW (m_X5_has l D k (fun j => a (20 + j)) _ (fun j => σ (20 + j)) (σ 3 2) hs6) (cwV 1 hts gX9_plan_X5_has rfl rfl rfl hd_X5_has ⟨Nat.le_of_ble_eq_true rfl, Nat.le_of_ble_eq_true rfl⟩) (wX9_X5_20_nd) (wX9_X5_20_pl k a _) rfl (q_w_get 20 (Nat.le_of_ble_eq_true rfl)) rfl hl rfl rfl (Nat.le_of_ble_eq_true rfl) dX9_plan_82 ⟨Nat.le_refl 0, Nat.le_refl 0⟩ ?_
    refine lv_if_eq (tgt := 112) hx hb dX9_plan_85 (by decide) (fun c_7 => ?_) (fun c_7 => ?_)
    · have hs := hs.1 c_7
      rw [if_pos c_7] at hR
      exact b_X9_plan_b112 l D k a A C0 R σ hs hR H locs ls hW (lv_sub hl [1] rfl)
    · have hs := hs.2 c_7
      rw [if_neg c_7] at hR
      refine lv_aload_n hx hb dX9_plan_88 rfl (lv_at hl 1 rfl) ?_
      refine va_get (v := .ref (a 18)) (C := RX9) (T := TX9) (N := 7) hx hb hts hinX9 hown hK hW.1 0 (q_w_get 0 (Nat.le_of_ble_eq_true rfl)) rfl 1 (by decide) hf16 (fun _ h9 => h9) rfl dX9_plan_89 ?_
      refine va_get (v := .ref (a 20)) (C := RX7) (T := TX7) (N := 7) hx hb hts hinX7 hown hK hW.1 18 (q_w_get 18 (Nat.le_of_ble_eq_true rfl)) rfl 1 (by decide) hf87 (fun _ h9 => h9) rfl dX9_plan_92 ?_
      refine lv_iload_n hx hb dX9_plan_95 rfl (lv_at hl 0 rfl) ?_
      have hs10 := hs.1
      have hs := hs.2
      refine q_Vi (As := [.int (σ 3 2)]) (rest := []) (R := P_X5_timeOf (fun j => σ (20 + j)) (σ 3 2)) (wX9_X5_20_is) [0, 1, 2, 3] 20 5 C0 hW (m_X5_timeOf l D k (fun j => a (20 + j)) _ (fun j => σ (20 + j)) (σ 3 2) hs10) (cwV 1 hts gX9_plan_X5_timeOf rfl rfl rfl hd_X5_timeOf ⟨Nat.le_of_ble_eq_true rfl, Nat.le_of_ble_eq_true rfl⟩) (wX9_X5_20_nd) (wX9_X5_20_pl k a _) rfl (q_w_get 20 (Nat.le_of_ble_eq_true rfl)) rfl hl rfl rfl (Nat.le_of_ble_eq_true rfl) dX9_plan_96 ⟨Nat.le_refl 0, Nat.le_refl 0⟩ ?_
      refine lv_aload_n hx hb dX9_plan_99 rfl (lv_at hl 1 rfl) ?_
      refine va_get (v := .ref (a 1)) (C := RX9) (T := TX9) (N := 7) hx hb hts hinX9 hown hK hW.1 0 (q_w_get 0 (Nat.le_of_ble_eq_true rfl)) rfl 0 (by decide) hf10 (fun _ h9 => h9) rfl dX9_plan_100 ?_
      refine va_get (v := .int (σ 1 6)) (C := RX7) (T := TX7) (N := 7) hx hb hts hinX7 hown hK hW.1 1 (q_w_get 1 (Nat.le_of_ble_eq_true rfl)) rfl 6 (by decide) hf103 (fun _ h9 => h9) rfl dX9_plan_103 ?_
      refine lv_icmp_gt (tgt := 112) hx hb dX9_plan_106 (by decide) (fun c_11 => ?_) (fun c_11 => ?_)
      · have hs := hs.1 c_11
        rw [if_pos c_11] at hR
        exact b_X9_plan_b112 l D k a A C0 R σ hs hR H locs ls hW (lv_sub hl [1] rfl)
      · have hs := hs.2 c_11
        rw [if_neg c_11] at hR
        refine lv_bipush (v := (-5 : Int32)) hx hb dX9_plan_109 (by decide) ?_
        exact q_iret C0 hW hR dX9_plan_111
  · have hs := hs.1 c_5
    rw [if_pos c_5] at hR
    refine lv_bipush (v := (-4 : Int32)) hx hb dX9_plan_60 (by decide) ?_
    exact q_iret C0 hW hR dX9_plan_62
set_option maxHeartbeats 400000 in
set_option maxRecDepth 100000 in
theorem b_X9_plan_b43c {p : Program} {e : Env} {s : State} {m : MethodId} {args : Array Value} {below : List Frame} {meth : Method} {c : Code} (l : Launch) (D : va_G) (k : Nat → ClassId) (a : Nat → Nat) (A : Nat → Prop) (C0 : q_C p s m meth c args RX9 cX9_plan 2 (some .int) wsX9_plan D (tyL k) A) (R : Int32 × T2) : ∀ (σ : T2), S_X9_plan_b43c σ → P_X9_plan_b43c σ = R → ∀ (H : Heap) (locs : List Loc) (ls : Array Slot), q_W D A s.heap (wX9 k a σ) H locs → lv_has ls 2 [(0, .ref (a 0))] → W p l e { frames := 6, cells := 0, slots := 0, locals := 135 } s m args below meth c H locs 0 0 (MQ below (va_Qi (fun r u => (r, u) = R) (fun u => q_E D (tyL k) A (wX9 k a u)) A) args s 0 0 A) (F0 m 43 ls []) := by
  intro σ hs hR H locs ls hW hl
  rw [P_X9_plan_b43c_e] at hR
  rw [S_X9_plan_b43c_e] at hs
  obtain ⟨hx, hb, hr, hml, hts, hown, hlocks, hK, hA⟩ := id C0
  have hf16 := hts (.fieldLink RX9 16 "BeatFollower" "trial" "LBeatFollower$Scene;") (by decide +kernel)
  have hf44 := hts (.fieldLink RX9 44 "BeatFollower" "reader" "LBeatFollower$Reader;") (by decide +kernel)
  have hf87 := hts (.fieldLink RX9 87 "BeatFollower$Scene" "plan" "LBeatFollower$Plan;") (by decide +kernel)
  have hinX7 : ∀ w ∈ u_ws RX7 TX7 7, w ∈ wsX9_plan := hin_X9_plan_X7
  have hinX9 : ∀ w ∈ u_ws RX9 TX9 7, w ∈ wsX9_plan := hin_X9_plan_X9
  refine lv_aload_n hx hb dX9_plan_43 rfl (lv_at hl 0 rfl) ?_
  refine va_get (v := .ref (a 18)) (C := RX9) (T := TX9) (N := 7) hx hb hts hinX9 hown hK hW.1 0 (q_w_get 0 (Nat.le_of_ble_eq_true rfl)) rfl 1 (by decide) hf16 (fun _ h9 => h9) rfl dX9_plan_44 ?_
  refine va_get (v := .ref (a 20)) (C := RX7) (T := TX7) (N := 7) hx hb hts hinX7 hown hK hW.1 18 (q_w_get 18 (Nat.le_of_ble_eq_true rfl)) rfl 1 (by decide) hf87 (fun _ h9 => h9) rfl dX9_plan_47 ?_
  refine lv_aload_n hx hb dX9_plan_50 rfl (lv_at hl 0 rfl) ?_
  refine va_get (v := .ref (a 177)) (C := RX9) (T := TX9) (N := 7) hx hb hts hinX9 hown hK hW.1 0 (q_w_get 0 (Nat.le_of_ble_eq_true rfl)) rfl 6 (by decide) hf44 (fun _ h9 => h9) rfl dX9_plan_51 ?_
  have hs4 := hs.1
  have hs := hs.2
  refine q_Viw (As := [.ref (a 177)]) (rest := []) (wf := wX5_X6 k (sel a 20 3 177)) (R := P_X5_appendAll (sel σ 20 3 177)) (wd' := wX9 k a (sb2 σ 20 3 177 3 ((P_X5_appendAll (sel σ 20 3 177)).2))) (wX9_X5_X6_20_177_is) [0, 1, 2, 3] 20 5 C0 hW (m_X5_appendAll l D k (sel a 20 3 177) H.size (sel σ 20 3 177)  hs4) (cwV 1 hts gX9_plan_X5_appendAll rfl rfl rfl hd_X5_appendAll ⟨Nat.le_of_ble_eq_true rfl, Nat.le_of_ble_eq_true rfl⟩) (wX9_X5_X6_20_177_nd) (wX9_X5_X6_20_177_pl k a _) rfl (q_w_get 20 (Nat.le_of_ble_eq_true rfl)) rfl (wX5_X6_fst k _ _ _) (wX9_X5_X6_20_177_pt k a _ _) hl rfl rfl (Nat.le_of_ble_eq_true rfl) dX9_plan_54 ⟨Nat.le_refl 0, Nat.le_refl 0⟩ (fun H locs hW => ?_)
  exact b_X9_plan_b57c l D k a A C0 R (sb2 σ 20 3 177 3 ((P_X5_appendAll (sel σ 20 3 177)).2)) ((P_X5_appendAll (sel σ 20 3 177)).1) hs hR H locs ls hW (lv_sub hl [0] rfl)
set_option maxHeartbeats 400000 in
set_option maxRecDepth 100000 in
theorem b_X9_plan_b11c {p : Program} {e : Env} {s : State} {m : MethodId} {args : Array Value} {below : List Frame} {meth : Method} {c : Code} (l : Launch) (D : va_G) (k : Nat → ClassId) (a : Nat → Nat) (A : Nat → Prop) (C0 : q_C p s m meth c args RX9 cX9_plan 2 (some .int) wsX9_plan D (tyL k) A) (R : Int32 × T2) : ∀ (σ : T2), S_X9_plan_b11c σ → P_X9_plan_b11c σ = R → ∀ (H : Heap) (locs : List Loc) (ls : Array Slot), q_W D A s.heap (wX9 k a σ) H locs → lv_has ls 2 [(0, .ref (a 0))] → W p l e { frames := 6, cells := 0, slots := 0, locals := 135 } s m args below meth c H locs 0 0 (MQ below (va_Qi (fun r u => (r, u) = R) (fun u => q_E D (tyL k) A (wX9 k a u)) A) args s 0 0 A) (F0 m 11 ls []) := by
  intro σ hs hR H locs ls hW hl
  rw [P_X9_plan_b11c_e] at hR
  rw [S_X9_plan_b11c_e] at hs
  obtain ⟨hx, hb, hr, hml, hts, hown, hlocks, hK, hA⟩ := id C0
  have hf10 := hts (.fieldLink RX9 10 "BeatFollower" "scene" "LBeatFollower$Scene;") (by decide +kernel)
  have hf16 := hts (.fieldLink RX9 16 "BeatFollower" "trial" "LBeatFollower$Scene;") (by decide +kernel)
  have hf44 := hts (.fieldLink RX9 44 "BeatFollower" "reader" "LBeatFollower$Reader;") (by decide +kernel)
  have hf87 := hts (.fieldLink RX9 87 "BeatFollower$Scene" "plan" "LBeatFollower$Plan;") (by decide +kernel)
  have hf258 := hts (.fieldLink RX9 258 "BeatFollower$Reader" "fault" "I") (by decide +kernel)
  have hinX6 : ∀ w ∈ u_ws RX6 TX6 7, w ∈ wsX9_plan := hin_X9_plan_X6
  have hinX7 : ∀ w ∈ u_ws RX7 TX7 7, w ∈ wsX9_plan := hin_X9_plan_X7
  have hinX9 : ∀ w ∈ u_ws RX9 TX9 7, w ∈ wsX9_plan := hin_X9_plan_X9
  refine lv_aload_n hx hb dX9_plan_11 rfl (lv_at hl 0 rfl) ?_
  refine va_get (v := .ref (a 177)) (C := RX9) (T := TX9) (N := 7) hx hb hts hinX9 hown hK hW.1 0 (q_w_get 0 (Nat.le_of_ble_eq_true rfl)) rfl 6 (by decide) hf44 (fun _ h9 => h9) rfl dX9_plan_12 ?_
  refine va_get (v := .int (σ 177 3)) (C := RX6) (T := TX6) (N := 7) hx hb hts hinX6 hown hK hW.1 177 (q_w_get 177 (Nat.le_of_ble_eq_true rfl)) rfl 3 (by decide) hf258 (fun _ h9 => h9) rfl dX9_plan_15 ?_
  refine lv_bipush (v := (-6 : Int32)) hx hb dX9_plan_18 (by decide) ?_
  refine lv_icmp_eq (tgt := 26) hx hb dX9_plan_20 (by decide) (fun c_2 => ?_) (fun c_2 => ?_)
  · have hs := hs.1 c_2
    rw [if_pos c_2] at hR
    refine lv_aload_n hx hb dX9_plan_26 rfl (lv_at hl 0 rfl) ?_
    refine va_get (v := .ref (a 18)) (C := RX9) (T := TX9) (N := 7) hx hb hts hinX9 hown hK hW.1 0 (q_w_get 0 (Nat.le_of_ble_eq_true rfl)) rfl 1 (by decide) hf16 (fun _ h9 => h9) rfl dX9_plan_27 ?_
    refine va_get (v := .ref (a 20)) (C := RX7) (T := TX7) (N := 7) hx hb hts hinX7 hown hK hW.1 18 (q_w_get 18 (Nat.le_of_ble_eq_true rfl)) rfl 1 (by decide) hf87 (fun _ h9 => h9) rfl dX9_plan_30 ?_
    refine lv_aload_n hx hb dX9_plan_33 rfl (lv_at hl 0 rfl) ?_
    refine va_get (v := .ref (a 1)) (C := RX9) (T := TX9) (N := 7) hx hb hts hinX9 hown hK hW.1 0 (q_w_get 0 (Nat.le_of_ble_eq_true rfl)) rfl 0 (by decide) hf10 (fun _ h9 => h9) rfl dX9_plan_34 ?_
    refine va_get (v := .ref (a 3)) (C := RX7) (T := TX7) (N := 7) hx hb hts hinX7 hown hK hW.1 1 (q_w_get 1 (Nat.le_of_ble_eq_true rfl)) rfl 1 (by decide) hf87 (fun _ h9 => h9) rfl dX9_plan_37 ?_
    have hs3 := hs.1
    have hs := hs.2
    refine q_Vv (As := [.ref (a 3)]) (rest := []) (wf := wX5_X5 k (sel a 20 3 3)) (R := P_X5_copyFrom (sel σ 20 3 3)) (wd' := wX9 k a (sb2 σ 20 3 3 3 (P_X5_copyFrom (sel σ 20 3 3)))) (wX9_X5_X5_20_3_is) [0, 1, 2, 3] 20 5 C0 hW (m_X5_copyFrom l D k (sel a 20 3 3) H.size (sel σ 20 3 3)  hs3) (cwV 1 hts gX9_plan_X5_copyFrom rfl rfl rfl hd_X5_copyFrom ⟨Nat.le_of_ble_eq_true rfl, Nat.le_of_ble_eq_true rfl⟩) (wX9_X5_X5_20_3_nd) (wX9_X5_X5_20_3_pl k a _) rfl (q_w_get 20 (Nat.le_of_ble_eq_true rfl)) rfl (wX5_X5_fst k _ _ _) (wX9_X5_X5_20_3_pt k a _ _) hl rfl rfl (Nat.le_of_ble_eq_true rfl) dX9_plan_40 ⟨Nat.le_refl 0, Nat.le_refl 0⟩ (fun H locs hW => ?_)
    exact b_X9_plan_b43c l D k a A C0 R (sb2 σ 20 3 3 3 (P_X5_copyFrom (sel σ 20 3 3))) hs hR H locs ls hW (lv_sub hl [0] rfl)
  · have hs := hs.2 c_2
    rw [if_neg c_2] at hR
    refine lv_bipush (v := (-3 : Int32)) hx hb dX9_plan_23 (by decide) ?_
    exact q_iret C0 hW hR dX9_plan_25
set_option maxHeartbeats 400000 in
set_option maxRecDepth 100000 in
theorem b_X9_plan_b0 {p : Program} {e : Env} {s : State} {m : MethodId} {args : Array Value} {below : List Frame} {meth : Method} {c : Code} (l : Launch) (D : va_G) (k : Nat → ClassId) (a : Nat → Nat) (A : Nat → Prop) (C0 : q_C p s m meth c args RX9 cX9_plan 2 (some .int) wsX9_plan D (tyL k) A) (R : Int32 × T2) : ∀ (σ : T2), S_X9_plan_b0 σ → P_X9_plan_b0 σ = R → ∀ (H : Heap) (locs : List Loc) (ls : Array Slot), q_W D A s.heap (wX9 k a σ) H locs → lv_has ls 2 [(0, .ref (a 0))] → W p l e { frames := 6, cells := 0, slots := 0, locals := 135 } s m args below meth c H locs 0 0 (MQ below (va_Qi (fun r u => (r, u) = R) (fun u => q_E D (tyL k) A (wX9 k a u)) A) args s 0 0 A) (F0 m 0 ls []) := by
  intro σ hs hR H locs ls hW hl
  rw [P_X9_plan_b0_e] at hR
  rw [S_X9_plan_b0_e] at hs
  obtain ⟨hx, hb, hr, hml, hts, hown, hlocks, hK, hA⟩ := id C0
  have hf37 := hts (.fieldLink RX9 37 "BeatFollower" "pad" "LBeatFollower$Pad;") (by decide +kernel)
  have hf44 := hts (.fieldLink RX9 44 "BeatFollower" "reader" "LBeatFollower$Reader;") (by decide +kernel)
  have hinX9 : ∀ w ∈ u_ws RX9 TX9 7, w ∈ wsX9_plan := hin_X9_plan_X9
  refine lv_aload_n hx hb dX9_plan_0 rfl (lv_at hl 0 rfl) ?_
  refine va_get (v := .ref (a 177)) (C := RX9) (T := TX9) (N := 7) hx hb hts hinX9 hown hK hW.1 0 (q_w_get 0 (Nat.le_of_ble_eq_true rfl)) rfl 6 (by decide) hf44 (fun _ h9 => h9) rfl dX9_plan_1 ?_
  refine lv_aload_n hx hb dX9_plan_4 rfl (lv_at hl 0 rfl) ?_
  refine va_get (v := .ref (a 175)) (C := RX9) (T := TX9) (N := 7) hx hb hts hinX9 hown hK hW.1 0 (q_w_get 0 (Nat.le_of_ble_eq_true rfl)) rfl 5 (by decide) hf37 (fun _ h9 => h9) rfl dX9_plan_5 ?_
  have hs1 := hs.1
  have hs := hs.2
  refine q_Vv (As := [.ref (a 175)]) (rest := []) (wf := wX6_X4 k (sel a 177 3 175)) (R := P_X6_read (sel σ 177 3 175)) (wd' := wX9 k a (sb2 σ 177 3 175 2 (P_X6_read (sel σ 177 3 175)))) (wX9_X6_X4_177_175_is) [0, 1, 2, 3] 177 6 C0 hW (m_X6_read l D k (sel a 177 3 175) H.size (sel σ 177 3 175)  hs1) (cwV 1 hts gX9_plan_X6_read rfl rfl rfl hd_X6_read ⟨Nat.le_of_ble_eq_true rfl, Nat.le_of_ble_eq_true rfl⟩) (wX9_X6_X4_177_175_nd) (wX9_X6_X4_177_175_pl k a _) rfl (q_w_get 177 (Nat.le_of_ble_eq_true rfl)) rfl (wX6_X4_fst k _ _ _) (wX9_X6_X4_177_175_pt k a _ _) hl rfl rfl (Nat.le_of_ble_eq_true rfl) dX9_plan_8 ⟨Nat.le_refl 0, Nat.le_refl 0⟩ (fun H locs hW => ?_)
  exact b_X9_plan_b11c l D k a A C0 R (sb2 σ 177 3 175 2 (P_X6_read (sel σ 177 3 175))) hs hR H locs ls hW (lv_sub hl [0] rfl)
set_option maxHeartbeats 400000 in
set_option maxRecDepth 100000 in
theorem m_X9_plan (l : Launch) (D : va_G) (k : Nat → ClassId) (a : Nat → Nat) (sz : Nat) (σ : T2) (hs : S_X9_plan σ) : Met l yX9_plan wsX9_plan { frames := 6, cells := 0, slots := 0, locals := 135 } (va_Pc [.ref (a 0)] (q_B D (tyL k) (wX9 k a σ) sz)) (va_Qi (fun r u => (r, u) = P_X9_plan σ) (fun u => q_E D (tyL k) (va_A (wX9 k a σ) sz) (wX9 k a u)) (va_A (wX9 k a σ) sz)) 0 0 (va_A (wX9 k a σ) sz) := by
  refine q_met [.ref (a 0)] (wX9 k a σ) sz (cc := cX9_plan) (maxL := 2) (ret := (some .int)) (by decide) rfl (Nat.le_of_ble_eq_true rfl) ?_
  intro p e s m args below meth c ls hsz C0 hW hl hin
  subst hsz
  exact b_X9_plan_b0 l D k a _ C0 _ σ  hs rfl s.heap [] ls hW (lv_sub hl [0] rfl)
theorem hin_X9_undo_X3 : ∀ w ∈ u_ws RX3 TX3 3, w ∈ wsX9_undo := by decide +kernel
theorem hin_X9_undo_X9 : ∀ w ∈ u_ws RX9 TX9 7, w ∈ wsX9_undo := by decide +kernel
theorem hd_X9_undo : yX9_undo.cls = RX9 ∧ yX9_undo.cls ≠ "java/lang/invoke/MethodHandle" ∧ yX9_undo.cls ≠ "java/lang/invoke/VarHandle" ∧ (parseMethodDescriptor yX9_undo.desc).map (fun d => d.parameters.length) = some 0 := by decide +kernel
noncomputable def P_X9_undo_b0 (σ : T2) : Int32 × T2 := if (σ 35 2) = 0 then (((-5 : Int32), σ)) else (((sb2 σ 35 104 1 17 (P_X3_takeBack (sel σ 35 104 1))) 35 2, sb2 σ 35 104 1 17 (P_X3_takeBack (sel σ 35 104 1))))
def S_X9_undo_b0 (σ : T2) : Prop := ((σ 35 2) = 0 → (True)) ∧ (¬ ((σ 35 2) = 0) → ((S_X3_takeBack (sel σ 35 104 1) ) ∧ (True)))
theorem P_X9_undo_b0_e (σ : T2) : P_X9_undo_b0 σ = if (σ 35 2) = 0 then (((-5 : Int32), σ)) else (((sb2 σ 35 104 1 17 (P_X3_takeBack (sel σ 35 104 1))) 35 2, sb2 σ 35 104 1 17 (P_X3_takeBack (sel σ 35 104 1)))) := rfl
theorem S_X9_undo_b0_e (σ : T2) : S_X9_undo_b0 σ = (((σ 35 2) = 0 → (True)) ∧ (¬ ((σ 35 2) = 0) → ((S_X3_takeBack (sel σ 35 104 1) ) ∧ (True)))) := rfl
noncomputable def P_X9_undo (σ : T2) : Int32 × T2 := P_X9_undo_b0 σ
def S_X9_undo (σ : T2) : Prop := S_X9_undo_b0 σ
set_option maxHeartbeats 400000 in
set_option maxRecDepth 100000 in
theorem b_X9_undo_b0 {p : Program} {e : Env} {s : State} {m : MethodId} {args : Array Value} {below : List Frame} {meth : Method} {c : Code} (l : Launch) (D : va_G) (k : Nat → ClassId) (a : Nat → Nat) (A : Nat → Prop) (C0 : q_C p s m meth c args RX9 cX9_undo 1 (some .int) wsX9_undo D (tyL k) A) (R : Int32 × T2) : ∀ (σ : T2), S_X9_undo_b0 σ → P_X9_undo_b0 σ = R → ∀ (H : Heap) (locs : List Loc) (ls : Array Slot), q_W D A s.heap (wX9 k a σ) H locs → lv_has ls 1 [(0, .ref (a 0))] → W p l e { frames := 4, cells := 0, slots := 0, locals := 103 } s m args below meth c H locs 0 0 (MQ below (va_Qi (fun r u => (r, u) = R) (fun u => q_E D (tyL k) A (wX9 k a u)) A) args s 0 0 A) (F0 m 0 ls []) := by
  intro σ hs hR H locs ls hW hl
  rw [P_X9_undo_b0_e] at hR
  rw [S_X9_undo_b0_e] at hs
  obtain ⟨hx, hb, hr, hml, hts, hown, hlocks, hK, hA⟩ := id C0
  have hf10 := hts (.fieldLink RX9 10 "BeatFollower" "scene" "LBeatFollower$Scene;") (by decide +kernel)
  have hf22 := hts (.fieldLink RX9 22 "BeatFollower" "history" "LBeatFollower$History;") (by decide +kernel)
  have hf217 := hts (.fieldLink RX9 217 "BeatFollower$History" "many" "I") (by decide +kernel)
  have hinX3 : ∀ w ∈ u_ws RX3 TX3 3, w ∈ wsX9_undo := hin_X9_undo_X3
  have hinX9 : ∀ w ∈ u_ws RX9 TX9 7, w ∈ wsX9_undo := hin_X9_undo_X9
  refine lv_aload_n hx hb dX9_undo_0 rfl (lv_at hl 0 rfl) ?_
  refine va_get (v := .ref (a 35)) (C := RX9) (T := TX9) (N := 7) hx hb hts hinX9 hown hK hW.1 0 (q_w_get 0 (Nat.le_of_ble_eq_true rfl)) rfl 2 (by decide) hf22 (fun _ h9 => h9) rfl dX9_undo_1 ?_
  refine va_get (v := .int (σ 35 2)) (C := RX3) (T := TX3) (N := 3) hx hb hts hinX3 hown hK hW.1 35 (q_w_get 35 (Nat.le_of_ble_eq_true rfl)) rfl 2 (by decide) hf217 (fun _ h9 => h9) rfl dX9_undo_4 ?_
  refine lv_if_ne (tgt := 13) hx hb dX9_undo_7 (by decide) (fun c_1 => ?_) (fun c_1 => ?_)
  · have hs := hs.2 c_1
    rw [if_neg c_1] at hR
    refine lv_aload_n hx hb dX9_undo_13 rfl (lv_at hl 0 rfl) ?_
    refine va_get (v := .ref (a 35)) (C := RX9) (T := TX9) (N := 7) hx hb hts hinX9 hown hK hW.1 0 (q_w_get 0 (Nat.le_of_ble_eq_true rfl)) rfl 2 (by decide) hf22 (fun _ h9 => h9) rfl dX9_undo_14 ?_
    refine lv_aload_n hx hb dX9_undo_17 rfl (lv_at hl 0 rfl) ?_
    refine va_get (v := .ref (a 1)) (C := RX9) (T := TX9) (N := 7) hx hb hts hinX9 hown hK hW.1 0 (q_w_get 0 (Nat.le_of_ble_eq_true rfl)) rfl 0 (by decide) hf10 (fun _ h9 => h9) rfl dX9_undo_18 ?_
    have hs2 := hs.1
    have hs := hs.2
    refine q_Vv (As := [.ref (a 1)]) (rest := []) (wf := wX3_X7 k (sel a 35 104 1)) (R := P_X3_takeBack (sel σ 35 104 1)) (wd' := wX9 k a (sb2 σ 35 104 1 17 (P_X3_takeBack (sel σ 35 104 1)))) (wX9_X3_X7_35_1_is) [0, 1, 2, 3] 35 3 C0 hW (m_X3_takeBack l D k (sel a 35 104 1) H.size (sel σ 35 104 1)  hs2) (cwV 1 hts gX9_undo_X3_takeBack rfl rfl rfl hd_X3_takeBack ⟨Nat.le_of_ble_eq_true rfl, Nat.le_of_ble_eq_true rfl⟩) (wX9_X3_X7_35_1_nd) (wX9_X3_X7_35_1_pl k a _) rfl (q_w_get 35 (Nat.le_of_ble_eq_true rfl)) rfl (wX3_X7_fst k _ _ _) (wX9_X3_X7_35_1_pt k a _ _) hl rfl rfl (Nat.le_of_ble_eq_true rfl) dX9_undo_21 ⟨Nat.le_refl 0, Nat.le_refl 0⟩ (fun H locs hW => ?_)
    refine lv_aload_n hx hb dX9_undo_24 rfl (lv_at hl 0 rfl) ?_
    refine va_get (v := .ref (a 35)) (C := RX9) (T := TX9) (N := 7) hx hb hts hinX9 hown hK hW.1 0 (q_w_get 0 (Nat.le_of_ble_eq_true rfl)) rfl 2 (by decide) hf22 (fun _ h9 => h9) rfl dX9_undo_25 ?_
    refine va_get (v := .int ((sb2 σ 35 104 1 17 (P_X3_takeBack (sel σ 35 104 1))) 35 2)) (C := RX3) (T := TX3) (N := 3) hx hb hts hinX3 hown hK hW.1 35 (q_w_get 35 (Nat.le_of_ble_eq_true rfl)) rfl 2 (by decide) hf217 (fun _ h9 => h9) rfl dX9_undo_28 ?_
    exact q_iret C0 hW hR dX9_undo_31
  · have hs := hs.1 c_1
    rw [if_pos c_1] at hR
    refine lv_bipush (v := (-5 : Int32)) hx hb dX9_undo_10 (by decide) ?_
    exact q_iret C0 hW hR dX9_undo_12
set_option maxHeartbeats 400000 in
set_option maxRecDepth 100000 in
theorem m_X9_undo (l : Launch) (D : va_G) (k : Nat → ClassId) (a : Nat → Nat) (sz : Nat) (σ : T2) (hs : S_X9_undo σ) : Met l yX9_undo wsX9_undo { frames := 4, cells := 0, slots := 0, locals := 103 } (va_Pc [.ref (a 0)] (q_B D (tyL k) (wX9 k a σ) sz)) (va_Qi (fun r u => (r, u) = P_X9_undo σ) (fun u => q_E D (tyL k) (va_A (wX9 k a σ) sz) (wX9 k a u)) (va_A (wX9 k a σ) sz)) 0 0 (va_A (wX9 k a σ) sz) := by
  refine q_met [.ref (a 0)] (wX9 k a σ) sz (cc := cX9_undo) (maxL := 1) (ret := (some .int)) (by decide) rfl (Nat.le_of_ble_eq_true rfl) ?_
  intro p e s m args below meth c ls hsz C0 hW hl hin
  subst hsz
  exact b_X9_undo_b0 l D k a _ C0 _ σ  hs rfl s.heap [] ls hW (lv_sub hl [0] rfl)
theorem hin_X9_save_X7 : ∀ w ∈ u_ws RX7 TX7 7, w ∈ wsX9_save := by decide +kernel
theorem hin_X9_save_X9 : ∀ w ∈ u_ws RX9 TX9 7, w ∈ wsX9_save := by decide +kernel
theorem hd_X9_save : yX9_save.cls = RX9 ∧ yX9_save.cls ≠ "java/lang/invoke/MethodHandle" ∧ yX9_save.cls ≠ "java/lang/invoke/VarHandle" ∧ (parseMethodDescriptor yX9_save.desc).map (fun d => d.parameters.length) = some 1 := by decide +kernel
noncomputable def P_X9_save_b25c (σ : T2) (v1 : Int32) : Int32 × T2 := (σ 1 6, u2 σ 174 (upd (σ 174) v1.toNatClampNeg (vp_nar .boolean (1 : Int32))))
def S_X9_save_b25c (σ : T2) (v1 : Int32) : Prop := (vp_in v1 2) ∧ (True)
theorem P_X9_save_b25c_e (σ : T2) (v1 : Int32) : P_X9_save_b25c σ v1 = (σ 1 6, u2 σ 174 (upd (σ 174) v1.toNatClampNeg (vp_nar .boolean (1 : Int32)))) := rfl
theorem S_X9_save_b25c_e (σ : T2) (v1 : Int32) : S_X9_save_b25c σ v1 = ((vp_in v1 2) ∧ (True)) := rfl
noncomputable def P_X9_save_b0 (σ : T2) (v1 : Int32) : Int32 × T2 := if (P_X9_isIn v1 (0 : Int32) (1 : Int32)) = 0 then (((-2 : Int32), σ)) else (P_X9_save_b25c (sb2 σ (140 + 17 * v1.toNatClampNeg) 17 1 17 (P_X7_copyFrom (sel σ (140 + 17 * v1.toNatClampNeg) 17 1))) v1)
def S_X9_save_b0 (σ : T2) (v1 : Int32) : Prop := (S_X9_isIn v1 (0 : Int32) (1 : Int32)) ∧ (((P_X9_isIn v1 (0 : Int32) (1 : Int32)) = 0 → (True)) ∧ (¬ ((P_X9_isIn v1 (0 : Int32) (1 : Int32)) = 0) → ((vp_in v1 2) ∧ ((S_X7_copyFrom (sel σ (140 + 17 * v1.toNatClampNeg) 17 1) ) ∧ (S_X9_save_b25c (sb2 σ (140 + 17 * v1.toNatClampNeg) 17 1 17 (P_X7_copyFrom (sel σ (140 + 17 * v1.toNatClampNeg) 17 1))) v1)))))
theorem P_X9_save_b0_e (σ : T2) (v1 : Int32) : P_X9_save_b0 σ v1 = if (P_X9_isIn v1 (0 : Int32) (1 : Int32)) = 0 then (((-2 : Int32), σ)) else (P_X9_save_b25c (sb2 σ (140 + 17 * v1.toNatClampNeg) 17 1 17 (P_X7_copyFrom (sel σ (140 + 17 * v1.toNatClampNeg) 17 1))) v1) := rfl
theorem S_X9_save_b0_e (σ : T2) (v1 : Int32) : S_X9_save_b0 σ v1 = ((S_X9_isIn v1 (0 : Int32) (1 : Int32)) ∧ (((P_X9_isIn v1 (0 : Int32) (1 : Int32)) = 0 → (True)) ∧ (¬ ((P_X9_isIn v1 (0 : Int32) (1 : Int32)) = 0) → ((vp_in v1 2) ∧ ((S_X7_copyFrom (sel σ (140 + 17 * v1.toNatClampNeg) 17 1) ) ∧ (S_X9_save_b25c (sb2 σ (140 + 17 * v1.toNatClampNeg) 17 1 17 (P_X7_copyFrom (sel σ (140 + 17 * v1.toNatClampNeg) 17 1))) v1)))))) := rfl
noncomputable def P_X9_save (σ : T2) (p0 : Int32) : Int32 × T2 := P_X9_save_b0 σ p0
def S_X9_save (σ : T2) (p0 : Int32) : Prop := S_X9_save_b0 σ p0
set_option maxHeartbeats 400000 in
set_option maxRecDepth 100000 in
theorem b_X9_save_b25c {p : Program} {e : Env} {s : State} {m : MethodId} {args : Array Value} {below : List Frame} {meth : Method} {c : Code} (l : Launch) (D : va_G) (k : Nat → ClassId) (a : Nat → Nat) (A : Nat → Prop) (C0 : q_C p s m meth c args RX9 cX9_save 2 (some .int) wsX9_save D (tyL k) A) (R : Int32 × T2) : ∀ (σ : T2) (v1 : Int32), S_X9_save_b25c σ v1 → P_X9_save_b25c σ v1 = R → ∀ (H : Heap) (locs : List Loc) (ls : Array Slot), q_W D A s.heap (wX9 k a σ) H locs → lv_has ls 2 [(0, .ref (a 0)), (1, .int v1)] → W p l e { frames := 3, cells := 0, slots := 0, locals := 82 } s m args below meth c H locs 0 0 (MQ below (va_Qi (fun r u => (r, u) = R) (fun u => q_E D (tyL k) A (wX9 k a u)) A) args s 0 0 A) (F0 m 25 ls []) := by
  intro σ v1 hs hR H locs ls hW hl
  rw [P_X9_save_b25c_e] at hR
  rw [S_X9_save_b25c_e] at hs
  obtain ⟨hx, hb, hr, hml, hts, hown, hlocks, hK, hA⟩ := id C0
  have hf10 := hts (.fieldLink RX9 10 "BeatFollower" "scene" "LBeatFollower$Scene;") (by decide +kernel)
  have hf30 := hts (.fieldLink RX9 30 "BeatFollower" "saved" "[Z") (by decide +kernel)
  have hf103 := hts (.fieldLink RX9 103 "BeatFollower$Scene" "time" "I") (by decide +kernel)
  have hinX7 : ∀ w ∈ u_ws RX7 TX7 7, w ∈ wsX9_save := hin_X9_save_X7
  have hinX9 : ∀ w ∈ u_ws RX9 TX9 7, w ∈ wsX9_save := hin_X9_save_X9
  refine lv_aload_n hx hb dX9_save_25 rfl (lv_at hl 0 rfl) ?_
  refine va_get (v := .ref (a 174)) (C := RX9) (T := TX9) (N := 7) hx hb hts hinX9 hown hK hW.1 0 (q_w_get 0 (Nat.le_of_ble_eq_true rfl)) rfl 4 (by decide) hf30 (fun _ h9 => h9) rfl dX9_save_26 ?_
  refine lv_iload_n hx hb dX9_save_29 rfl (lv_at hl 1 rfl) ?_
  refine lv_iconst (v := (1 : Int32)) hx hb dX9_save_30 (by decide) ?_
  have hi5 := hs.1
  have hs := hs.2
  refine q_zast (f := σ 174) (wd' := wX9 k a (u2 σ 174 (upd (σ 174) v1.toNatClampNeg (vp_nar .boolean (1 : Int32))))) C0 hW 174 (q_w_get 174 (Nat.le_of_ble_eq_true rfl)) rfl hi5 rfl dX9_save_31 (wX9_s174 k a _ _) (fun H locs hW => ?_)
  refine lv_aload_n hx hb dX9_save_32 rfl (lv_at hl 0 rfl) ?_
  refine va_get (v := .ref (a 1)) (C := RX9) (T := TX9) (N := 7) hx hb hts hinX9 hown hK hW.1 0 (q_w_get 0 (Nat.le_of_ble_eq_true rfl)) rfl 0 (by decide) hf10 (fun _ h9 => h9) rfl dX9_save_33 ?_
  refine va_get (v := .int (σ 1 6)) (C := RX7) (T := TX7) (N := 7) hx hb hts hinX7 hown hK hW.1 1 (q_w_get 1 (Nat.le_of_ble_eq_true rfl)) rfl 6 (by decide) hf103 (fun _ h9 => h9) rfl dX9_save_36 ?_
  exact q_iret C0 hW hR dX9_save_39
set_option maxHeartbeats 400000 in
set_option maxRecDepth 100000 in
theorem b_X9_save_b0 {p : Program} {e : Env} {s : State} {m : MethodId} {args : Array Value} {below : List Frame} {meth : Method} {c : Code} (l : Launch) (D : va_G) (k : Nat → ClassId) (a : Nat → Nat) (A : Nat → Prop) (C0 : q_C p s m meth c args RX9 cX9_save 2 (some .int) wsX9_save D (tyL k) A) (R : Int32 × T2) : ∀ (σ : T2) (v1 : Int32), S_X9_save_b0 σ v1 → P_X9_save_b0 σ v1 = R → ∀ (H : Heap) (locs : List Loc) (ls : Array Slot), q_W D A s.heap (wX9 k a σ) H locs → lv_has ls 2 [(0, .ref (a 0)), (1, .int v1)] → W p l e { frames := 3, cells := 0, slots := 0, locals := 82 } s m args below meth c H locs 0 0 (MQ below (va_Qi (fun r u => (r, u) = R) (fun u => q_E D (tyL k) A (wX9 k a u)) A) args s 0 0 A) (F0 m 0 ls []) := by
  intro σ v1 hs hR H locs ls hW hl
  rw [P_X9_save_b0_e] at hR
  rw [S_X9_save_b0_e] at hs
  obtain ⟨hx, hb, hr, hml, hts, hown, hlocks, hK, hA⟩ := id C0
  have hf10 := hts (.fieldLink RX9 10 "BeatFollower" "scene" "LBeatFollower$Scene;") (by decide +kernel)
  have hf26 := hts (.fieldLink RX9 26 "BeatFollower" "slots" "[LBeatFollower$Scene;") (by decide +kernel)
  have hinX9 : ∀ w ∈ u_ws RX9 TX9 7, w ∈ wsX9_save := hin_X9_save_X9
  refine lv_iload_n hx hb dX9_save_0 rfl (lv_at hl 1 rfl) ?_
  refine lv_iconst (v := (0 : Int32)) hx hb dX9_save_1 (by decide) ?_
  refine lv_iconst (v := (1 : Int32)) hx hb dX9_save_2 (by decide) ?_
  have hs1 := hs.1
  have hs := hs.2
  refine q_Si (As := [.int v1, .int (0 : Int32), .int (1 : Int32)]) (rest := []) (R := P_X9_isIn v1 (0 : Int32) (1 : Int32)) ⟨hx, hb, hml, hown, hts⟩ (m_X9_isIn l v1 (0 : Int32) (1 : Int32) hs1) (va_cwS 3 hts gX9_save_X9_isIn rfl rfl rfl hd_X9_isIn ⟨Nat.le_of_ble_eq_true rfl, Nat.le_of_ble_eq_true rfl⟩) hl rfl rfl (Nat.le_of_ble_eq_true rfl) dX9_save_3 ⟨Nat.le_refl 0, Nat.le_refl 0⟩ ?_
  refine lv_if_ne (tgt := 12) hx hb dX9_save_6 (by decide) (fun c_2 => ?_) (fun c_2 => ?_)
  · have hs := hs.2 c_2
    rw [if_neg c_2] at hR
    refine lv_aload_n hx hb dX9_save_12 rfl (lv_at hl 0 rfl) ?_
    refine va_get (v := .ref (a 139)) (C := RX9) (T := TX9) (N := 7) hx hb hts hinX9 hown hK hW.1 0 (q_w_get 0 (Nat.le_of_ble_eq_true rfl)) rfl 3 (by decide) hf26 (fun _ h9 => h9) rfl dX9_save_13 ?_
    refine lv_iload_n hx hb dX9_save_16 rfl (lv_at hl 1 rfl) ?_
    have hi3 := hs.1
    have hs := hs.2
    refine q_aald C0 hW 139 (q_w_get 139 (Nat.le_of_ble_eq_true rfl)) rfl hi3 rfl (q_ifv hi3) dX9_save_17 ?_
    refine lv_aload_n hx hb dX9_save_18 rfl (lv_at hl 0 rfl) ?_
    refine va_get (v := .ref (a 1)) (C := RX9) (T := TX9) (N := 7) hx hb hts hinX9 hown hK hW.1 0 (q_w_get 0 (Nat.le_of_ble_eq_true rfl)) rfl 0 (by decide) hf10 (fun _ h9 => h9) rfl dX9_save_19 ?_
    have hs4 := hs.1
    have hs := hs.2
    refine q_Vv (As := [.ref (a 1)]) (rest := []) (wf := wX7_X7 k (sel a (140 + 17 * v1.toNatClampNeg) 17 1)) (R := P_X7_copyFrom (sel σ (140 + 17 * v1.toNatClampNeg) 17 1)) (wd' := wX9 k a (sb2 σ (140 + 17 * v1.toNatClampNeg) 17 1 17 (P_X7_copyFrom (sel σ (140 + 17 * v1.toNatClampNeg) 17 1)))) (wX9_X7_X7_q140_1_is (v1.toNatClampNeg)) [0, 1, 2, 3] (140 + 17 * v1.toNatClampNeg) 7 C0 hW (m_X7_copyFrom l D k (sel a (140 + 17 * v1.toNatClampNeg) 17 1) H.size (sel σ (140 + 17 * v1.toNatClampNeg) 17 1)  hs4) (cwV 1 hts gX9_save_X7_copyFrom rfl rfl rfl hd_X7_copyFrom ⟨Nat.le_of_ble_eq_true rfl, Nat.le_of_ble_eq_true rfl⟩) (wX9_X7_X7_q140_1_nd (v1.toNatClampNeg) (q_inv hi3)) (wX9_X7_X7_q140_1_pl k a _ (v1.toNatClampNeg) (q_inv hi3)) rfl ((q_w_get (140 + 17 * v1.toNatClampNeg) (by have h9 := q_inv hi3; omega)).trans (by rw [show (140 + 17 * v1.toNatClampNeg) = (140 + 17 * v1.toNatClampNeg) + 0 from rfl, EwX9_b140 k a v1.toNatClampNeg 0 (q_inv hi3) (by decide) _]; rfl)) rfl (wX7_X7_fst k _ _ _) (wX9_X7_X7_q140_1_pt k a _ _ (v1.toNatClampNeg) (q_inv hi3)) hl rfl rfl (Nat.le_of_ble_eq_true rfl) dX9_save_22 ⟨Nat.le_refl 0, Nat.le_refl 0⟩ (fun H locs hW => ?_)
    exact b_X9_save_b25c l D k a A C0 R (sb2 σ (140 + 17 * v1.toNatClampNeg) 17 1 17 (P_X7_copyFrom (sel σ (140 + 17 * v1.toNatClampNeg) 17 1))) v1 hs hR H locs ls hW (lv_sub hl [0, 1] rfl)
  · have hs := hs.1 c_2
    rw [if_pos c_2] at hR
    refine lv_bipush (v := (-2 : Int32)) hx hb dX9_save_9 (by decide) ?_
    exact q_iret C0 hW hR dX9_save_11
set_option maxHeartbeats 400000 in
set_option maxRecDepth 100000 in
theorem m_X9_save (l : Launch) (D : va_G) (k : Nat → ClassId) (a : Nat → Nat) (sz : Nat) (σ : T2) (p0 : Int32) (hs : S_X9_save σ p0) : Met l yX9_save wsX9_save { frames := 3, cells := 0, slots := 0, locals := 82 } (va_Pc [.ref (a 0), .int p0] (q_B D (tyL k) (wX9 k a σ) sz)) (va_Qi (fun r u => (r, u) = P_X9_save σ p0) (fun u => q_E D (tyL k) (va_A (wX9 k a σ) sz) (wX9 k a u)) (va_A (wX9 k a σ) sz)) 0 0 (va_A (wX9 k a σ) sz) := by
  refine q_met [.ref (a 0), .int p0] (wX9 k a σ) sz (cc := cX9_save) (maxL := 2) (ret := (some .int)) (by decide) rfl (Nat.le_of_ble_eq_true rfl) ?_
  intro p e s m args below meth c ls hsz C0 hW hl hin
  subst hsz
  exact b_X9_save_b0 l D k a _ C0 _ σ p0 hs rfl s.heap [] ls hW (lv_sub hl [0, 1] rfl)
theorem hin_X9_restore_X7 : ∀ w ∈ u_ws RX7 TX7 7, w ∈ wsX9_restore := by decide +kernel
theorem hin_X9_restore_X9 : ∀ w ∈ u_ws RX9 TX9 7, w ∈ wsX9_restore := by decide +kernel
theorem hd_X9_restore : yX9_restore.cls = RX9 ∧ yX9_restore.cls ≠ "java/lang/invoke/MethodHandle" ∧ yX9_restore.cls ≠ "java/lang/invoke/VarHandle" ∧ (parseMethodDescriptor yX9_restore.desc).map (fun d => d.parameters.length) = some 1 := by decide +kernel
noncomputable def P_X9_restore_b35c (σ : T2) (v1 : Int32) : Int32 × T2 := ((sb2 σ 1 17 (140 + 17 * v1.toNatClampNeg) 17 (P_X7_copyFrom (sel σ 1 17 (140 + 17 * v1.toNatClampNeg)))) 1 6, sb2 σ 1 17 (140 + 17 * v1.toNatClampNeg) 17 (P_X7_copyFrom (sel σ 1 17 (140 + 17 * v1.toNatClampNeg))))
def S_X9_restore_b35c (σ : T2) (v1 : Int32) : Prop := (vp_in v1 2) ∧ ((S_X7_copyFrom (sel σ 1 17 (140 + 17 * v1.toNatClampNeg)) ) ∧ (True))
theorem P_X9_restore_b35c_e (σ : T2) (v1 : Int32) : P_X9_restore_b35c σ v1 = ((sb2 σ 1 17 (140 + 17 * v1.toNatClampNeg) 17 (P_X7_copyFrom (sel σ 1 17 (140 + 17 * v1.toNatClampNeg)))) 1 6, sb2 σ 1 17 (140 + 17 * v1.toNatClampNeg) 17 (P_X7_copyFrom (sel σ 1 17 (140 + 17 * v1.toNatClampNeg)))) := rfl
theorem S_X9_restore_b35c_e (σ : T2) (v1 : Int32) : S_X9_restore_b35c σ v1 = ((vp_in v1 2) ∧ ((S_X7_copyFrom (sel σ 1 17 (140 + 17 * v1.toNatClampNeg)) ) ∧ (True))) := rfl
noncomputable def P_X9_restore_b0 (σ : T2) (v1 : Int32) : Int32 × T2 := if (P_X9_isIn v1 (0 : Int32) (1 : Int32)) = 0 then (((-2 : Int32), σ)) else (if (σ 174 v1.toNatClampNeg) = 0 then (((-5 : Int32), σ)) else (P_X9_restore_b35c (sb2 σ 35 104 1 17 (P_X3_record (sel σ 35 104 1))) v1))
def S_X9_restore_b0 (σ : T2) (v1 : Int32) : Prop := (S_X9_isIn v1 (0 : Int32) (1 : Int32)) ∧ (((P_X9_isIn v1 (0 : Int32) (1 : Int32)) = 0 → (True)) ∧ (¬ ((P_X9_isIn v1 (0 : Int32) (1 : Int32)) = 0) → ((vp_in v1 2) ∧ (((σ 174 v1.toNatClampNeg) = 0 → (True)) ∧ (¬ ((σ 174 v1.toNatClampNeg) = 0) → ((S_X3_record (sel σ 35 104 1) ) ∧ (S_X9_restore_b35c (sb2 σ 35 104 1 17 (P_X3_record (sel σ 35 104 1))) v1)))))))
theorem P_X9_restore_b0_e (σ : T2) (v1 : Int32) : P_X9_restore_b0 σ v1 = if (P_X9_isIn v1 (0 : Int32) (1 : Int32)) = 0 then (((-2 : Int32), σ)) else (if (σ 174 v1.toNatClampNeg) = 0 then (((-5 : Int32), σ)) else (P_X9_restore_b35c (sb2 σ 35 104 1 17 (P_X3_record (sel σ 35 104 1))) v1)) := rfl
theorem S_X9_restore_b0_e (σ : T2) (v1 : Int32) : S_X9_restore_b0 σ v1 = ((S_X9_isIn v1 (0 : Int32) (1 : Int32)) ∧ (((P_X9_isIn v1 (0 : Int32) (1 : Int32)) = 0 → (True)) ∧ (¬ ((P_X9_isIn v1 (0 : Int32) (1 : Int32)) = 0) → ((vp_in v1 2) ∧ (((σ 174 v1.toNatClampNeg) = 0 → (True)) ∧ (¬ ((σ 174 v1.toNatClampNeg) = 0) → ((S_X3_record (sel σ 35 104 1) ) ∧ (S_X9_restore_b35c (sb2 σ 35 104 1 17 (P_X3_record (sel σ 35 104 1))) v1)))))))) := rfl
noncomputable def P_X9_restore (σ : T2) (p0 : Int32) : Int32 × T2 := P_X9_restore_b0 σ p0
def S_X9_restore (σ : T2) (p0 : Int32) : Prop := S_X9_restore_b0 σ p0
set_option maxHeartbeats 400000 in
set_option maxRecDepth 100000 in
theorem b_X9_restore_b35c {p : Program} {e : Env} {s : State} {m : MethodId} {args : Array Value} {below : List Frame} {meth : Method} {c : Code} (l : Launch) (D : va_G) (k : Nat → ClassId) (a : Nat → Nat) (A : Nat → Prop) (C0 : q_C p s m meth c args RX9 cX9_restore 2 (some .int) wsX9_restore D (tyL k) A) (R : Int32 × T2) : ∀ (σ : T2) (v1 : Int32), S_X9_restore_b35c σ v1 → P_X9_restore_b35c σ v1 = R → ∀ (H : Heap) (locs : List Loc) (ls : Array Slot), q_W D A s.heap (wX9 k a σ) H locs → lv_has ls 2 [(0, .ref (a 0)), (1, .int v1)] → W p l e { frames := 4, cells := 0, slots := 0, locals := 103 } s m args below meth c H locs 0 0 (MQ below (va_Qi (fun r u => (r, u) = R) (fun u => q_E D (tyL k) A (wX9 k a u)) A) args s 0 0 A) (F0 m 35 ls []) := by
  intro σ v1 hs hR H locs ls hW hl
  rw [P_X9_restore_b35c_e] at hR
  rw [S_X9_restore_b35c_e] at hs
  obtain ⟨hx, hb, hr, hml, hts, hown, hlocks, hK, hA⟩ := id C0
  have hf10 := hts (.fieldLink RX9 10 "BeatFollower" "scene" "LBeatFollower$Scene;") (by decide +kernel)
  have hf26 := hts (.fieldLink RX9 26 "BeatFollower" "slots" "[LBeatFollower$Scene;") (by decide +kernel)
  have hf103 := hts (.fieldLink RX9 103 "BeatFollower$Scene" "time" "I") (by decide +kernel)
  have hinX7 : ∀ w ∈ u_ws RX7 TX7 7, w ∈ wsX9_restore := hin_X9_restore_X7
  have hinX9 : ∀ w ∈ u_ws RX9 TX9 7, w ∈ wsX9_restore := hin_X9_restore_X9
  refine lv_aload_n hx hb dX9_restore_35 rfl (lv_at hl 0 rfl) ?_
  refine va_get (v := .ref (a 1)) (C := RX9) (T := TX9) (N := 7) hx hb hts hinX9 hown hK hW.1 0 (q_w_get 0 (Nat.le_of_ble_eq_true rfl)) rfl 0 (by decide) hf10 (fun _ h9 => h9) rfl dX9_restore_36 ?_
  refine lv_aload_n hx hb dX9_restore_39 rfl (lv_at hl 0 rfl) ?_
  refine va_get (v := .ref (a 139)) (C := RX9) (T := TX9) (N := 7) hx hb hts hinX9 hown hK hW.1 0 (q_w_get 0 (Nat.le_of_ble_eq_true rfl)) rfl 3 (by decide) hf26 (fun _ h9 => h9) rfl dX9_restore_40 ?_
  refine lv_iload_n hx hb dX9_restore_43 rfl (lv_at hl 1 rfl) ?_
  have hi6 := hs.1
  have hs := hs.2
  refine q_aald C0 hW 139 (q_w_get 139 (Nat.le_of_ble_eq_true rfl)) rfl hi6 rfl (q_ifv hi6) dX9_restore_44 ?_
  have hs7 := hs.1
  have hs := hs.2
  refine q_Vv (As := [.ref (a (140 + 17 * v1.toNatClampNeg))]) (rest := []) (wf := wX7_X7 k (sel a 1 17 (140 + 17 * v1.toNatClampNeg))) (R := P_X7_copyFrom (sel σ 1 17 (140 + 17 * v1.toNatClampNeg))) (wd' := wX9 k a (sb2 σ 1 17 (140 + 17 * v1.toNatClampNeg) 17 (P_X7_copyFrom (sel σ 1 17 (140 + 17 * v1.toNatClampNeg))))) (wX9_X7_X7_1_q140_is (v1.toNatClampNeg)) [0, 1, 2, 3] 1 7 C0 hW (m_X7_copyFrom l D k (sel a 1 17 (140 + 17 * v1.toNatClampNeg)) H.size (sel σ 1 17 (140 + 17 * v1.toNatClampNeg))  hs7) (cwV 1 hts gX9_restore_X7_copyFrom rfl rfl rfl hd_X7_copyFrom ⟨Nat.le_of_ble_eq_true rfl, Nat.le_of_ble_eq_true rfl⟩) (wX9_X7_X7_1_q140_nd (v1.toNatClampNeg) (q_inv hi6)) (wX9_X7_X7_1_q140_pl k a _ (v1.toNatClampNeg) (q_inv hi6)) rfl (q_w_get 1 (Nat.le_of_ble_eq_true rfl)) rfl (wX7_X7_fst k _ _ _) (wX9_X7_X7_1_q140_pt k a _ _ (v1.toNatClampNeg) (q_inv hi6)) hl rfl rfl (Nat.le_of_ble_eq_true rfl) dX9_restore_45 ⟨Nat.le_refl 0, Nat.le_refl 0⟩ (fun H locs hW => ?_)
  refine lv_aload_n hx hb dX9_restore_48 rfl (lv_at hl 0 rfl) ?_
  refine va_get (v := .ref (a 1)) (C := RX9) (T := TX9) (N := 7) hx hb hts hinX9 hown hK hW.1 0 (q_w_get 0 (Nat.le_of_ble_eq_true rfl)) rfl 0 (by decide) hf10 (fun _ h9 => h9) rfl dX9_restore_49 ?_
  refine va_get (v := .int ((sb2 σ 1 17 (140 + 17 * v1.toNatClampNeg) 17 (P_X7_copyFrom (sel σ 1 17 (140 + 17 * v1.toNatClampNeg)))) 1 6)) (C := RX7) (T := TX7) (N := 7) hx hb hts hinX7 hown hK hW.1 1 (q_w_get 1 (Nat.le_of_ble_eq_true rfl)) rfl 6 (by decide) hf103 (fun _ h9 => h9) rfl dX9_restore_52 ?_
  exact q_iret C0 hW hR dX9_restore_55
set_option maxHeartbeats 400000 in
set_option maxRecDepth 100000 in
theorem b_X9_restore_b0 {p : Program} {e : Env} {s : State} {m : MethodId} {args : Array Value} {below : List Frame} {meth : Method} {c : Code} (l : Launch) (D : va_G) (k : Nat → ClassId) (a : Nat → Nat) (A : Nat → Prop) (C0 : q_C p s m meth c args RX9 cX9_restore 2 (some .int) wsX9_restore D (tyL k) A) (R : Int32 × T2) : ∀ (σ : T2) (v1 : Int32), S_X9_restore_b0 σ v1 → P_X9_restore_b0 σ v1 = R → ∀ (H : Heap) (locs : List Loc) (ls : Array Slot), q_W D A s.heap (wX9 k a σ) H locs → lv_has ls 2 [(0, .ref (a 0)), (1, .int v1)] → W p l e { frames := 4, cells := 0, slots := 0, locals := 103 } s m args below meth c H locs 0 0 (MQ below (va_Qi (fun r u => (r, u) = R) (fun u => q_E D (tyL k) A (wX9 k a u)) A) args s 0 0 A) (F0 m 0 ls []) := by
  intro σ v1 hs hR H locs ls hW hl
  rw [P_X9_restore_b0_e] at hR
  rw [S_X9_restore_b0_e] at hs
  obtain ⟨hx, hb, hr, hml, hts, hown, hlocks, hK, hA⟩ := id C0
  have hf10 := hts (.fieldLink RX9 10 "BeatFollower" "scene" "LBeatFollower$Scene;") (by decide +kernel)
  have hf22 := hts (.fieldLink RX9 22 "BeatFollower" "history" "LBeatFollower$History;") (by decide +kernel)
  have hf30 := hts (.fieldLink RX9 30 "BeatFollower" "saved" "[Z") (by decide +kernel)
  have hinX9 : ∀ w ∈ u_ws RX9 TX9 7, w ∈ wsX9_restore := hin_X9_restore_X9
  refine lv_iload_n hx hb dX9_restore_0 rfl (lv_at hl 1 rfl) ?_
  refine lv_iconst (v := (0 : Int32)) hx hb dX9_restore_1 (by decide) ?_
  refine lv_iconst (v := (1 : Int32)) hx hb dX9_restore_2 (by decide) ?_
  have hs1 := hs.1
  have hs := hs.2
  refine q_Si (As := [.int v1, .int (0 : Int32), .int (1 : Int32)]) (rest := []) (R := P_X9_isIn v1 (0 : Int32) (1 : Int32)) ⟨hx, hb, hml, hown, hts⟩ (m_X9_isIn l v1 (0 : Int32) (1 : Int32) hs1) (va_cwS 3 hts gX9_restore_X9_isIn rfl rfl rfl hd_X9_isIn ⟨Nat.le_of_ble_eq_true rfl, Nat.le_of_ble_eq_true rfl⟩) hl rfl rfl (Nat.le_of_ble_eq_true rfl) dX9_restore_3 ⟨Nat.le_refl 0, Nat.le_refl 0⟩ ?_
  refine lv_if_ne (tgt := 12) hx hb dX9_restore_6 (by decide) (fun c_2 => ?_) (fun c_2 => ?_)
  · have hs := hs.2 c_2
    rw [if_neg c_2] at hR
    refine lv_aload_n hx hb dX9_restore_12 rfl (lv_at hl 0 rfl) ?_
    refine va_get (v := .ref (a 174)) (C := RX9) (T := TX9) (N := 7) hx hb hts hinX9 hown hK hW.1 0 (q_w_get 0 (Nat.le_of_ble_eq_true rfl)) rfl 4 (by decide) hf30 (fun _ h9 => h9) rfl dX9_restore_13 ?_
    refine lv_iload_n hx hb dX9_restore_16 rfl (lv_at hl 1 rfl) ?_
    have hi3 := hs.1
    have hs := hs.2
    refine q_zald (v := σ 174 v1.toNatClampNeg) C0 hW 174 (q_w_get 174 (Nat.le_of_ble_eq_true rfl)) rfl hi3 rfl rfl dX9_restore_17 ?_
    refine lv_if_ne (tgt := 24) hx hb dX9_restore_18 (by decide) (fun c_4 => ?_) (fun c_4 => ?_)
    · have hs := hs.2 c_4
      rw [if_neg c_4] at hR
      refine lv_aload_n hx hb dX9_restore_24 rfl (lv_at hl 0 rfl) ?_
      refine va_get (v := .ref (a 35)) (C := RX9) (T := TX9) (N := 7) hx hb hts hinX9 hown hK hW.1 0 (q_w_get 0 (Nat.le_of_ble_eq_true rfl)) rfl 2 (by decide) hf22 (fun _ h9 => h9) rfl dX9_restore_25 ?_
      refine lv_aload_n hx hb dX9_restore_28 rfl (lv_at hl 0 rfl) ?_
      refine va_get (v := .ref (a 1)) (C := RX9) (T := TX9) (N := 7) hx hb hts hinX9 hown hK hW.1 0 (q_w_get 0 (Nat.le_of_ble_eq_true rfl)) rfl 0 (by decide) hf10 (fun _ h9 => h9) rfl dX9_restore_29 ?_
      have hs5 := hs.1
      have hs := hs.2
      refine q_Vv (As := [.ref (a 1)]) (rest := []) (wf := wX3_X7 k (sel a 35 104 1)) (R := P_X3_record (sel σ 35 104 1)) (wd' := wX9 k a (sb2 σ 35 104 1 17 (P_X3_record (sel σ 35 104 1)))) (wX9_X3_X7_35_1_is) [0, 1, 2, 3] 35 3 C0 hW (m_X3_record l D k (sel a 35 104 1) H.size (sel σ 35 104 1)  hs5) (cwV 1 hts gX9_restore_X3_record rfl rfl rfl hd_X3_record ⟨Nat.le_of_ble_eq_true rfl, Nat.le_of_ble_eq_true rfl⟩) (wX9_X3_X7_35_1_nd) (wX9_X3_X7_35_1_pl k a _) rfl (q_w_get 35 (Nat.le_of_ble_eq_true rfl)) rfl (wX3_X7_fst k _ _ _) (wX9_X3_X7_35_1_pt k a _ _) hl rfl rfl (Nat.le_of_ble_eq_true rfl) dX9_restore_32 ⟨Nat.le_refl 0, Nat.le_refl 0⟩ (fun H locs hW => ?_)
      exact b_X9_restore_b35c l D k a A C0 R (sb2 σ 35 104 1 17 (P_X3_record (sel σ 35 104 1))) v1 hs hR H locs ls hW (lv_sub hl [0, 1] rfl)
    · have hs := hs.1 c_4
      rw [if_pos c_4] at hR
      refine lv_bipush (v := (-5 : Int32)) hx hb dX9_restore_21 (by decide) ?_
      exact q_iret C0 hW hR dX9_restore_23
  · have hs := hs.1 c_2
    rw [if_pos c_2] at hR
    refine lv_bipush (v := (-2 : Int32)) hx hb dX9_restore_9 (by decide) ?_
    exact q_iret C0 hW hR dX9_restore_11
set_option maxHeartbeats 400000 in
set_option maxRecDepth 100000 in
theorem m_X9_restore (l : Launch) (D : va_G) (k : Nat → ClassId) (a : Nat → Nat) (sz : Nat) (σ : T2) (p0 : Int32) (hs : S_X9_restore σ p0) : Met l yX9_restore wsX9_restore { frames := 4, cells := 0, slots := 0, locals := 103 } (va_Pc [.ref (a 0), .int p0] (q_B D (tyL k) (wX9 k a σ) sz)) (va_Qi (fun r u => (r, u) = P_X9_restore σ p0) (fun u => q_E D (tyL k) (va_A (wX9 k a σ) sz) (wX9 k a u)) (va_A (wX9 k a σ) sz)) 0 0 (va_A (wX9 k a σ) sz) := by
  refine q_met [.ref (a 0), .int p0] (wX9 k a σ) sz (cc := cX9_restore) (maxL := 2) (ret := (some .int)) (by decide) rfl (Nat.le_of_ble_eq_true rfl) ?_
  intro p e s m args below meth c ls hsz C0 hW hl hin
  subst hsz
  exact b_X9_restore_b0 l D k a _ C0 _ σ p0 hs rfl s.heap [] ls hW (lv_sub hl [0, 1] rfl)
