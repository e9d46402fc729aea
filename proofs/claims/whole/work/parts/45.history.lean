def fX3 (a : Nat → Nat) (f : T1) : List Value := [.ref (a 1), .int (f 1), .int (f 2)]
theorem fX3_s1 (a : Nat → Nat) (f : T1) (v : Int32) : (fX3 a f).set 1 (.int v) = fX3 a (upd f 1 v) := rfl
theorem fX3_s2 (a : Nat → Nat) (f : T1) (v : Int32) : (fX3 a f).set 2 (.int v) = fX3 a (upd f 2 v) := rfl
def EwX7 (k : Nat → ClassId) (a : Nat → Nat) (i : Nat) (f : T1) : va_E := match i with
  | 0 => .inr (7, fX7 a f)
  | 1 => .inl (k 0, 8, .inl f)
  | 2 => .inr (5, fX5 (fun j => a (2 + j)) f)
  | 3 => .inl (k 0, 64, .inl f)
  | 4 => .inl (k 0, 64, .inl f)
  | 5 => .inr (2, fX2 (fun j => a (5 + j)) f)
  | 6 => .inl (k 0, 64, .inl f)
  | 7 => .inl (k 0, 64, .inl f)
  | 8 => .inl (k 0, 64, .inl f)
  | 9 => .inl (k 0, 64, .inl f)
  | 10 => .inr (0, fX0 (fun j => a (10 + j)) f)
  | 11 => .inl (k 0, 64, .inl f)
  | 12 => .inl (k 0, 64, .inl f)
  | 13 => .inl (k 0, 64, .inl f)
  | 14 => .inl (k 0, 64, .inl f)
  | 15 => .inr (1, fX1 (fun j => a (15 + j)) f)
  | _ => .inr (8, fX8 (fun j => a (16 + j)) f)
theorem wX7_q (k : Nat → ClassId) (a : Nat → Nat) (σ : T2) : wX7 k a σ = q_w 17 a (EwX7 k a) σ := rfl
theorem EwX7_cong (k : Nat → ClassId) {a b : Nat → Nat} (h : ∀ j, j < 17 → a j = b j) : ∀ (i : Nat), i < 17 → ∀ f : T1, EwX7 k a i f = EwX7 k b i f := by
  intro i hi f
  have h0 := h 0 (by decide)
  have h1 := h 1 (by decide)
  have h2 := h 2 (by decide)
  have h3 := h 3 (by decide)
  have h4 := h 4 (by decide)
  have h5 := h 5 (by decide)
  have h6 := h 6 (by decide)
  have h7 := h 7 (by decide)
  have h8 := h 8 (by decide)
  have h9 := h 9 (by decide)
  have h10 := h 10 (by decide)
  have h11 := h 11 (by decide)
  have h12 := h 12 (by decide)
  have h13 := h 13 (by decide)
  have h14 := h 14 (by decide)
  have h15 := h 15 (by decide)
  have h16 := h 16 (by decide)
  rcases (show i = 0 ∨ i = 1 ∨ i = 2 ∨ i = 3 ∨ i = 4 ∨ i = 5 ∨ i = 6 ∨ i = 7 ∨ i = 8 ∨ i = 9 ∨ i = 10 ∨ i = 11 ∨ i = 12 ∨ i = 13 ∨ i = 14 ∨ i = 15 ∨ i = 16 by omega) with rfl | rfl | rfl | rfl | rfl | rfl | rfl | rfl | rfl | rfl | rfl | rfl | rfl | rfl | rfl | rfl | rfl <;> simp [EwX7, fX7, fX5, fX2, fX0, fX1, fX8, h0, h1, h2, h3, h4, h5, h6, h7, h8, h9, h10, h11, h12, h13, h14, h15, h16]
def EwX4 (k : Nat → ClassId) (a : Nat → Nat) (i : Nat) (f : T1) : va_E := match i with
  | 0 => .inr (4, fX4 a f)
  | _ => .inl (k 2, 80, .inl f)
theorem wX4_q (k : Nat → ClassId) (a : Nat → Nat) (σ : T2) : wX4 k a σ = q_w 2 a (EwX4 k a) σ := rfl
def EwX6 (k : Nat → ClassId) (a : Nat → Nat) (i : Nat) (f : T1) : va_E := match i with
  | 0 => .inr (6, fX6 a f)
  | 1 => .inl (k 0, 64, .inl f)
  | _ => .inl (k 0, 64, .inl f)
theorem wX6_q (k : Nat → ClassId) (a : Nat → Nat) (σ : T2) : wX6 k a σ = q_w 3 a (EwX6 k a) σ := rfl
def EwX7_X7 (k : Nat → ClassId) (a : Nat → Nat) (i : Nat) (f : T1) : va_E := match i with
  | 0 => .inr (7, fX7 a f)
  | 1 => .inl (k 0, 8, .inl f)
  | 2 => .inr (5, fX5 (fun j => a (2 + j)) f)
  | 3 => .inl (k 0, 64, .inl f)
  | 4 => .inl (k 0, 64, .inl f)
  | 5 => .inr (2, fX2 (fun j => a (5 + j)) f)
  | 6 => .inl (k 0, 64, .inl f)
  | 7 => .inl (k 0, 64, .inl f)
  | 8 => .inl (k 0, 64, .inl f)
  | 9 => .inl (k 0, 64, .inl f)
  | 10 => .inr (0, fX0 (fun j => a (10 + j)) f)
  | 11 => .inl (k 0, 64, .inl f)
  | 12 => .inl (k 0, 64, .inl f)
  | 13 => .inl (k 0, 64, .inl f)
  | 14 => .inl (k 0, 64, .inl f)
  | 15 => .inr (1, fX1 (fun j => a (15 + j)) f)
  | 16 => .inr (8, fX8 (fun j => a (16 + j)) f)
  | 17 => .inr (7, fX7 (fun j => a (17 + j)) f)
  | 18 => .inl (k 0, 8, .inl f)
  | 19 => .inr (5, fX5 (fun j => a (19 + j)) f)
  | 20 => .inl (k 0, 64, .inl f)
  | 21 => .inl (k 0, 64, .inl f)
  | 22 => .inr (2, fX2 (fun j => a (22 + j)) f)
  | 23 => .inl (k 0, 64, .inl f)
  | 24 => .inl (k 0, 64, .inl f)
  | 25 => .inl (k 0, 64, .inl f)
  | 26 => .inl (k 0, 64, .inl f)
  | 27 => .inr (0, fX0 (fun j => a (27 + j)) f)
  | 28 => .inl (k 0, 64, .inl f)
  | 29 => .inl (k 0, 64, .inl f)
  | 30 => .inl (k 0, 64, .inl f)
  | 31 => .inl (k 0, 64, .inl f)
  | 32 => .inr (1, fX1 (fun j => a (32 + j)) f)
  | _ => .inr (8, fX8 (fun j => a (33 + j)) f)
theorem wX7_X7_q (k : Nat → ClassId) (a : Nat → Nat) (σ : T2) : wX7_X7 k a σ = q_w 34 a (EwX7_X7 k a) σ := rfl
def EwX3_X7 (k : Nat → ClassId) (a : Nat → Nat) (j : Nat) (f : T1) : va_E := if j = 0 then .inr (3, fX3 a f) else if j = 1 then .inl (k 3, 6, .inr (.inr (.inr (.inr (fun i => if i < 6 then some (a (2 + 17 * i)) else none))))) else if j < 104 then EwX7 k (fun i => a (2 + 17 * ((j - 2) / 17) + i)) ((j - 2) % 17) f else EwX7 k (fun i => a (104 + i)) (j - 104) f
def wX3_X7 (k : Nat → ClassId) (a : Nat → Nat) (σ : T2) : va_W := q_w 121 a (EwX3_X7 k a) σ
theorem EwX3_X7_b2 (k : Nat → ClassId) (a : Nat → Nat) (q i : Nat) (hq : q < 6) (hi : i < 17) (f : T1) : EwX3_X7 k a (2 + 17 * q + i) f = EwX7 k (fun j => a (2 + 17 * q + j)) i f := by
  unfold EwX3_X7; rw [if_neg (by omega)]; rw [if_neg (by omega)]; rw [if_pos (by omega)]; rw [show (2 + 17 * q + i - 2) / 17 = q by omega, show (2 + 17 * q + i - 2) % 17 = i by omega]
theorem EwX3_X7_b104 (k : Nat → ClassId) (a : Nat → Nat) (i : Nat) (hi : i < 17) (f : T1) : EwX3_X7 k a (104 + i) f = EwX7 k (fun j => a (104 + j)) i f := by
  unfold EwX3_X7; rw [if_neg (by omega)]; rw [if_neg (by omega)]; rw [if_neg (by omega)]; skip; rw [show 104 + i - 104 = i by omega]
theorem wX3_X7_s0 (k : Nat → ClassId) (a : Nat → Nat) (σ : T2) (g : T1) : (wX3_X7 k a σ).set 0 (a 0, .inr (3, fX3 a g)) = wX3_X7 k a (u2 σ 0 g) := q_w_set 0 (Nat.le_of_ble_eq_true rfl) g
theorem wX3_X7_fst (k : Nat → ClassId) (a : Nat → Nat) (σ τ : T2) : (wX3_X7 k a τ).map Prod.fst = (wX3_X7 k a σ).map Prod.fst := q_w_fst.trans q_w_fst.symm
def wX3_X7_is : List Nat := (List.range 121).map (fun i => i)
theorem wX3_X7_nd : va_nd wX3_X7_is = true := q_w_nd _ (fun i j _ _ h => h)
theorem wX3_X7_pl (k : Nat → ClassId) (a : Nat → Nat) (σ : T2) : wX3_X7_is.map (fun i => (wX3_X7 k a σ)[i]?) = (wX3_X7 k a σ).map some := q_w_pl (fun i => i) (fun i hi => ⟨hi, rfl, rfl⟩)
theorem wX3_X7_put (k : Nat → ClassId) (a : Nat → Nat) (σ τ : T2) : q_put (wX3_X7 k a σ) wX3_X7_is (wX3_X7 k a τ) = wX3_X7 k a τ := q_w_pt (fun i => i) (fun i j _ _ h => h) (fun i hi => ⟨hi, rfl, rfl⟩) (fun j hj hno => absurd rfl (hno j hj))
theorem wX3_X7_rec (k : Nat → ClassId) (a : Nat → Nat) (σ : T2) : (wX3_X7 k a σ)[0]? = some (a 0, .inr (3, fX3 a (σ 0))) := q_w_get 0 (Nat.le_of_ble_eq_true rfl)
def wX3_X7_X7_X7_q2_104_is (q : Nat) : List Nat := (List.range 34).map (fun i => if i < 17 then (2 + 17 * q) + i else 104 + (i - 17))
theorem wX3_X7_X7_X7_q2_104_inj (q : Nat) (hq : q < 6) : ∀ i j, i < 34 → j < 34 → (fun i => if i < 17 then (2 + 17 * q) + i else 104 + (i - 17)) i = (fun i => if i < 17 then (2 + 17 * q) + i else 104 + (i - 17)) j → i = j := by
  intro i j hi hj h; dsimp only at h; by_cases h1 : i < 17 <;> by_cases h2 : j < 17 <;> simp only [h1, h2, if_true, if_false] at h <;> omega
theorem wX3_X7_X7_X7_q2_104_nd (q : Nat) (hq : q < 6) : va_nd (wX3_X7_X7_X7_q2_104_is q) = true := q_w_nd _ (wX3_X7_X7_X7_q2_104_inj q hq)
theorem wX3_X7_X7_X7_q2_104_E (k : Nat → ClassId) (a : Nat → Nat) (q : Nat) (hq : q < 6) : ∀ i, i < 34 → (fun i => if i < 17 then (2 + 17 * q) + i else 104 + (i - 17)) i < 121 ∧ a ((fun i => if i < 17 then (2 + 17 * q) + i else 104 + (i - 17)) i) = (sel a (2 + 17 * q) 17 104) i ∧ ∀ g : T1, EwX3_X7 k a ((fun i => if i < 17 then (2 + 17 * q) + i else 104 + (i - 17)) i) g = EwX7_X7 k (sel a (2 + 17 * q) 17 104) i g := by
  intro i hi
  have key : ∀ g : T1, EwX3_X7 k a ((fun i => if i < 17 then (2 + 17 * q) + i else 104 + (i - 17)) i) g = EwX7_X7 k (sel a (2 + 17 * q) 17 104) i g := by
    intro g
    by_cases h1 : i < 17
    · rw [show (fun i => if i < 17 then (2 + 17 * q) + i else 104 + (i - 17)) i = (2 + 17 * q) + i by simp only [h1, if_true]]
      rw [EwX3_X7_b2 k a q i hq (by omega) g]
      rcases (show i = 0 ∨ i = 1 ∨ i = 2 ∨ i = 3 ∨ i = 4 ∨ i = 5 ∨ i = 6 ∨ i = 7 ∨ i = 8 ∨ i = 9 ∨ i = 10 ∨ i = 11 ∨ i = 12 ∨ i = 13 ∨ i = 14 ∨ i = 15 ∨ i = 16 by omega) with rfl | rfl | rfl | rfl | rfl | rfl | rfl | rfl | rfl | rfl | rfl | rfl | rfl | rfl | rfl | rfl | rfl <;> rfl
    · obtain ⟨j, rfl⟩ : ∃ j, i = 17 + j := ⟨i - 17, by omega⟩
      have hj : j < 17 := by omega
      rw [show (fun i => if i < 17 then (2 + 17 * q) + i else 104 + (i - 17)) (17 + j) = 104 + j by simp only [h1, if_false]; omega]
      rcases (show j = 0 ∨ j = 1 ∨ j = 2 ∨ j = 3 ∨ j = 4 ∨ j = 5 ∨ j = 6 ∨ j = 7 ∨ j = 8 ∨ j = 9 ∨ j = 10 ∨ j = 11 ∨ j = 12 ∨ j = 13 ∨ j = 14 ∨ j = 15 ∨ j = 16 by omega) with rfl | rfl | rfl | rfl | rfl | rfl | rfl | rfl | rfl | rfl | rfl | rfl | rfl | rfl | rfl | rfl | rfl <;> rfl
  refine ⟨?_, ?_, key⟩
  · by_cases h1 : i < 17 <;> simp only [h1, if_true, if_false] <;> omega
  · by_cases h1 : i < 17 <;> simp only [sel, h1, if_true, if_false]
theorem wX3_X7_X7_X7_q2_104_pl (k : Nat → ClassId) (a : Nat → Nat) (σ : T2) (q : Nat) (hq : q < 6) : (wX3_X7_X7_X7_q2_104_is q).map (fun i => (wX3_X7 k a σ)[i]?) = (wX7_X7 k (sel a (2 + 17 * q) 17 104) (sel σ (2 + 17 * q) 17 104)).map some := by
  rw [wX7_X7_q]; exact q_w_pl (fun i => if i < 17 then (2 + 17 * q) + i else 104 + (i - 17)) (fun i hi => ⟨(wX3_X7_X7_X7_q2_104_E k a q hq i hi).1, (wX3_X7_X7_X7_q2_104_E k a q hq i hi).2.1, ((wX3_X7_X7_X7_q2_104_E k a q hq i hi).2.2 _).trans (congrArg (EwX7_X7 k (sel a (2 + 17 * q) 17 104) i) (by by_cases h1 : i < 17 <;> simp only [sel, h1, if_true, if_false]))⟩)
theorem wX3_X7_X7_X7_q2_104_r (σ τ : T2) (q : Nat) (hq : q < 6) (i : Nat) (hi : i < 34) : sb2 σ (2 + 17 * q) 17 104 17 τ (if i < 17 then (2 + 17 * q) + i else 104 + (i - 17)) = τ i := by
  by_cases h1 : i < 17
  · rw [if_pos h1]; unfold sb2; rw [if_pos (by omega), show (2 + 17 * q) + i - (2 + 17 * q) = i by omega]
  · rw [if_neg h1]; unfold sb2; rw [if_neg (by omega), if_pos (by omega), show 17 + (104 + (i - 17) - 104) = i by omega]
theorem wX3_X7_X7_X7_q2_104_o (σ τ : T2) (q : Nat) (hq : q < 6) (j : Nat) (hno : ∀ i, i < 34 → (if i < 17 then (2 + 17 * q) + i else 104 + (i - 17)) ≠ j) : sb2 σ (2 + 17 * q) 17 104 17 τ j = σ j := by
  unfold sb2
  rw [if_neg (fun h => hno (j - (2 + 17 * q)) (by omega) (by rw [if_pos (show j - (2 + 17 * q) < 17 by omega)]; omega)), if_neg (fun h => hno (17 + (j - 104)) (by omega) (by rw [if_neg (show ¬ 17 + (j - 104) < 17 by omega)]; omega))]
theorem wX3_X7_X7_X7_q2_104_pt (k : Nat → ClassId) (a : Nat → Nat) (σ τ : T2) (q : Nat) (hq : q < 6) : q_put (wX3_X7 k a σ) (wX3_X7_X7_X7_q2_104_is q) (wX7_X7 k (sel a (2 + 17 * q) 17 104) τ) = wX3_X7 k a (sb2 σ (2 + 17 * q) 17 104 17 τ) := by
  rw [wX7_X7_q]; exact q_w_pt (fun i => if i < 17 then (2 + 17 * q) + i else 104 + (i - 17)) (wX3_X7_X7_X7_q2_104_inj q hq) (fun i hi => ⟨(wX3_X7_X7_X7_q2_104_E k a q hq i hi).1, (wX3_X7_X7_X7_q2_104_E k a q hq i hi).2.1, ((wX3_X7_X7_X7_q2_104_E k a q hq i hi).2.2 _).trans (congrArg (EwX7_X7 k (sel a (2 + 17 * q) 17 104) i) (wX3_X7_X7_X7_q2_104_r σ τ q hq i hi))⟩) (fun j hj hno => wX3_X7_X7_X7_q2_104_o σ τ q hq j hno)
def wX3_X7_X7_X7_104_q2_is (q : Nat) : List Nat := (List.range 34).map (fun i => if i < 17 then 104 + i else (2 + 17 * q) + (i - 17))
theorem wX3_X7_X7_X7_104_q2_inj (q : Nat) (hq : q < 6) : ∀ i j, i < 34 → j < 34 → (fun i => if i < 17 then 104 + i else (2 + 17 * q) + (i - 17)) i = (fun i => if i < 17 then 104 + i else (2 + 17 * q) + (i - 17)) j → i = j := by
  intro i j hi hj h; dsimp only at h; by_cases h1 : i < 17 <;> by_cases h2 : j < 17 <;> simp only [h1, h2, if_true, if_false] at h <;> omega
theorem wX3_X7_X7_X7_104_q2_nd (q : Nat) (hq : q < 6) : va_nd (wX3_X7_X7_X7_104_q2_is q) = true := q_w_nd _ (wX3_X7_X7_X7_104_q2_inj q hq)
theorem wX3_X7_X7_X7_104_q2_E (k : Nat → ClassId) (a : Nat → Nat) (q : Nat) (hq : q < 6) : ∀ i, i < 34 → (fun i => if i < 17 then 104 + i else (2 + 17 * q) + (i - 17)) i < 121 ∧ a ((fun i => if i < 17 then 104 + i else (2 + 17 * q) + (i - 17)) i) = (sel a 104 17 (2 + 17 * q)) i ∧ ∀ g : T1, EwX3_X7 k a ((fun i => if i < 17 then 104 + i else (2 + 17 * q) + (i - 17)) i) g = EwX7_X7 k (sel a 104 17 (2 + 17 * q)) i g := by
  intro i hi
  have key : ∀ g : T1, EwX3_X7 k a ((fun i => if i < 17 then 104 + i else (2 + 17 * q) + (i - 17)) i) g = EwX7_X7 k (sel a 104 17 (2 + 17 * q)) i g := by
    intro g
    by_cases h1 : i < 17
    · rw [show (fun i => if i < 17 then 104 + i else (2 + 17 * q) + (i - 17)) i = 104 + i by simp only [h1, if_true]]
      rcases (show i = 0 ∨ i = 1 ∨ i = 2 ∨ i = 3 ∨ i = 4 ∨ i = 5 ∨ i = 6 ∨ i = 7 ∨ i = 8 ∨ i = 9 ∨ i = 10 ∨ i = 11 ∨ i = 12 ∨ i = 13 ∨ i = 14 ∨ i = 15 ∨ i = 16 by omega) with rfl | rfl | rfl | rfl | rfl | rfl | rfl | rfl | rfl | rfl | rfl | rfl | rfl | rfl | rfl | rfl | rfl <;> rfl
    · obtain ⟨j, rfl⟩ : ∃ j, i = 17 + j := ⟨i - 17, by omega⟩
      have hj : j < 17 := by omega
      rw [show (fun i => if i < 17 then 104 + i else (2 + 17 * q) + (i - 17)) (17 + j) = (2 + 17 * q) + j by simp only [h1, if_false]; omega]
      rw [EwX3_X7_b2 k a q j hq hj g]
      rcases (show j = 0 ∨ j = 1 ∨ j = 2 ∨ j = 3 ∨ j = 4 ∨ j = 5 ∨ j = 6 ∨ j = 7 ∨ j = 8 ∨ j = 9 ∨ j = 10 ∨ j = 11 ∨ j = 12 ∨ j = 13 ∨ j = 14 ∨ j = 15 ∨ j = 16 by omega) with rfl | rfl | rfl | rfl | rfl | rfl | rfl | rfl | rfl | rfl | rfl | rfl | rfl | rfl | rfl | rfl | rfl <;> rfl
  refine ⟨?_, ?_, key⟩
  · by_cases h1 : i < 17 <;> simp only [h1, if_true, if_false] <;> omega
  · by_cases h1 : i < 17 <;> simp only [sel, h1, if_true, if_false]
theorem wX3_X7_X7_X7_104_q2_pl (k : Nat → ClassId) (a : Nat → Nat) (σ : T2) (q : Nat) (hq : q < 6) : (wX3_X7_X7_X7_104_q2_is q).map (fun i => (wX3_X7 k a σ)[i]?) = (wX7_X7 k (sel a 104 17 (2 + 17 * q)) (sel σ 104 17 (2 + 17 * q))).map some := by
  rw [wX7_X7_q]; exact q_w_pl (fun i => if i < 17 then 104 + i else (2 + 17 * q) + (i - 17)) (fun i hi => ⟨(wX3_X7_X7_X7_104_q2_E k a q hq i hi).1, (wX3_X7_X7_X7_104_q2_E k a q hq i hi).2.1, ((wX3_X7_X7_X7_104_q2_E k a q hq i hi).2.2 _).trans (congrArg (EwX7_X7 k (sel a 104 17 (2 + 17 * q)) i) (by by_cases h1 : i < 17 <;> simp only [sel, h1, if_true, if_false]))⟩)
theorem wX3_X7_X7_X7_104_q2_r (σ τ : T2) (q : Nat) (hq : q < 6) (i : Nat) (hi : i < 34) : sb2 σ 104 17 (2 + 17 * q) 17 τ (if i < 17 then 104 + i else (2 + 17 * q) + (i - 17)) = τ i := by
  by_cases h1 : i < 17
  · rw [if_pos h1]; unfold sb2; rw [if_pos (by omega), show 104 + i - 104 = i by omega]
  · rw [if_neg h1]; unfold sb2; rw [if_neg (by omega), if_pos (by omega), show 17 + ((2 + 17 * q) + (i - 17) - (2 + 17 * q)) = i by omega]
theorem wX3_X7_X7_X7_104_q2_o (σ τ : T2) (q : Nat) (hq : q < 6) (j : Nat) (hno : ∀ i, i < 34 → (if i < 17 then 104 + i else (2 + 17 * q) + (i - 17)) ≠ j) : sb2 σ 104 17 (2 + 17 * q) 17 τ j = σ j := by
  unfold sb2
  rw [if_neg (fun h => hno (j - 104) (by omega) (by rw [if_pos (show j - 104 < 17 by omega)]; omega)), if_neg (fun h => hno (17 + (j - (2 + 17 * q))) (by omega) (by rw [if_neg (show ¬ 17 + (j - (2 + 17 * q)) < 17 by omega)]; omega))]
theorem wX3_X7_X7_X7_104_q2_pt (k : Nat → ClassId) (a : Nat → Nat) (σ τ : T2) (q : Nat) (hq : q < 6) : q_put (wX3_X7 k a σ) (wX3_X7_X7_X7_104_q2_is q) (wX7_X7 k (sel a 104 17 (2 + 17 * q)) τ) = wX3_X7 k a (sb2 σ 104 17 (2 + 17 * q) 17 τ) := by
  rw [wX7_X7_q]; exact q_w_pt (fun i => if i < 17 then 104 + i else (2 + 17 * q) + (i - 17)) (wX3_X7_X7_X7_104_q2_inj q hq) (fun i hi => ⟨(wX3_X7_X7_X7_104_q2_E k a q hq i hi).1, (wX3_X7_X7_X7_104_q2_E k a q hq i hi).2.1, ((wX3_X7_X7_X7_104_q2_E k a q hq i hi).2.2 _).trans (congrArg (EwX7_X7 k (sel a 104 17 (2 + 17 * q)) i) (wX3_X7_X7_X7_104_q2_r σ τ q hq i hi))⟩) (fun j hj hno => wX3_X7_X7_X7_104_q2_o σ τ q hq j hno)
theorem hin_X3_record_X3 : ∀ w ∈ u_ws RX3 TX3 3, w ∈ wsX3_record := by decide +kernel
theorem hd_X3_record : yX3_record.cls = RX3 ∧ yX3_record.cls ≠ "java/lang/invoke/MethodHandle" ∧ yX3_record.cls ≠ "java/lang/invoke/VarHandle" ∧ (parseMethodDescriptor yX3_record.desc).map (fun d => d.parameters.length) = some 1 := by decide +kernel
noncomputable def P_X3_record_b18c (σ : T2) : T2 := u2 σ 0 (upd (upd (σ 0) 1 ((σ 0 1) + (1 : Int32))) 2 ((if (6 : Int32) < ((σ 0 2) + (1 : Int32)) then (6 : Int32) else ((σ 0 2) + (1 : Int32)))))
def S_X3_record_b18c (σ : T2) : Prop := True
theorem P_X3_record_b18c_e (σ : T2) : P_X3_record_b18c σ = u2 σ 0 (upd (upd (σ 0) 1 ((σ 0 1) + (1 : Int32))) 2 ((if (6 : Int32) < ((σ 0 2) + (1 : Int32)) then (6 : Int32) else ((σ 0 2) + (1 : Int32))))) := rfl
theorem S_X3_record_b18c_e (σ : T2) : S_X3_record_b18c σ = (True) := rfl
noncomputable def P_X3_record_b0 (σ : T2) : T2 := P_X3_record_b18c (sb2 σ (2 + 17 * (P_J9_floorMod_7cf53 (σ 0 1) (6 : Int32)).toNatClampNeg) 17 104 17 (P_X7_copyFrom (sel σ (2 + 17 * (P_J9_floorMod_7cf53 (σ 0 1) (6 : Int32)).toNatClampNeg) 17 104)))
def S_X3_record_b0 (σ : T2) : Prop := (S_J9_floorMod_7cf53 (σ 0 1) (6 : Int32)) ∧ ((vp_in (P_J9_floorMod_7cf53 (σ 0 1) (6 : Int32)) 6) ∧ ((S_X7_copyFrom (sel σ (2 + 17 * (P_J9_floorMod_7cf53 (σ 0 1) (6 : Int32)).toNatClampNeg) 17 104) ) ∧ (S_X3_record_b18c (sb2 σ (2 + 17 * (P_J9_floorMod_7cf53 (σ 0 1) (6 : Int32)).toNatClampNeg) 17 104 17 (P_X7_copyFrom (sel σ (2 + 17 * (P_J9_floorMod_7cf53 (σ 0 1) (6 : Int32)).toNatClampNeg) 17 104))))))
theorem P_X3_record_b0_e (σ : T2) : P_X3_record_b0 σ = P_X3_record_b18c (sb2 σ (2 + 17 * (P_J9_floorMod_7cf53 (σ 0 1) (6 : Int32)).toNatClampNeg) 17 104 17 (P_X7_copyFrom (sel σ (2 + 17 * (P_J9_floorMod_7cf53 (σ 0 1) (6 : Int32)).toNatClampNeg) 17 104))) := rfl
theorem S_X3_record_b0_e (σ : T2) : S_X3_record_b0 σ = ((S_J9_floorMod_7cf53 (σ 0 1) (6 : Int32)) ∧ ((vp_in (P_J9_floorMod_7cf53 (σ 0 1) (6 : Int32)) 6) ∧ ((S_X7_copyFrom (sel σ (2 + 17 * (P_J9_floorMod_7cf53 (σ 0 1) (6 : Int32)).toNatClampNeg) 17 104) ) ∧ (S_X3_record_b18c (sb2 σ (2 + 17 * (P_J9_floorMod_7cf53 (σ 0 1) (6 : Int32)).toNatClampNeg) 17 104 17 (P_X7_copyFrom (sel σ (2 + 17 * (P_J9_floorMod_7cf53 (σ 0 1) (6 : Int32)).toNatClampNeg) 17 104))))))) := rfl
noncomputable def P_X3_record (σ : T2) : T2 := P_X3_record_b0 σ
def S_X3_record (σ : T2) : Prop := S_X3_record_b0 σ
set_option maxHeartbeats 400000 in
set_option maxRecDepth 100000 in
theorem b_X3_record_b18c {p : Program} {e : Env} {s : State} {m : MethodId} {args : Array Value} {below : List Frame} {meth : Method} {c : Code} (l : Launch) (D : va_G) (k : Nat → ClassId) (a : Nat → Nat) (A : Nat → Prop) (C0 : q_C p s m meth c args RX3 cX3_record 2 none wsX3_record D (tyL k) A) (R : T2) : ∀ (σ : T2), S_X3_record_b18c σ → P_X3_record_b18c σ = R → ∀ (H : Heap) (locs : List Loc) (ls : Array Slot), q_W D A s.heap (wX3_X7 k a σ) H locs → lv_has ls 2 [(0, .ref (a 0))] → W p l e { frames := 3, cells := 0, slots := 0, locals := 82 } s m args below meth c H locs 0 0 (MQ below (va_Qv (fun u => u = R) (fun u => q_E D (tyL k) A (wX3_X7 k a u)) A) args s 0 0 A) (F0 m 18 ls []) := by
  intro σ hs hR H locs ls hW hl
  rw [P_X3_record_b18c_e] at hR
  rw [S_X3_record_b18c_e] at hs
  obtain ⟨hx, hb, hr, hml, hts, hown, hlocks, hK, hA⟩ := id C0
  have hf18 := hts (.fieldLink RX3 18 "BeatFollower$History" "next" "I") (by decide +kernel)
  have hf32 := hts (.fieldLink RX3 32 "BeatFollower$History" "many" "I") (by decide +kernel)
  have hinX3 : ∀ w ∈ u_ws RX3 TX3 3, w ∈ wsX3_record := hin_X3_record_X3
  refine lv_aload_n hx hb dX3_record_18 rfl (lv_at hl 0 rfl) ?_
  refine lv_dup hx hb dX3_record_19 rfl ?_
  refine va_get (v := .int (σ 0 1)) (C := RX3) (T := TX3) (N := 3) hx hb hts hinX3 hown hK hW.1 0 (q_w_get 0 (Nat.le_of_ble_eq_true rfl)) rfl 1 (by decide) hf18 (fun _ h9 => h9) rfl dX3_record_20 ?_
  refine lv_iconst (v := (1 : Int32)) hx hb dX3_record_23 (by decide) ?_
  refine lv_iadd hx hb dX3_record_24 ?_
  refine q_putf (ty := .int) (wd' := wX3_X7 k a (u2 σ 0 (upd (σ 0) 1 ((σ 0 1) + (1 : Int32))))) C0 hW hinX3 tyX3 tyX3_ok nmX3 0 (q_w_get 0 (Nat.le_of_ble_eq_true rfl)) rfl 1 (by decide) hf18 rfl (by decide +kernel) rfl rfl (Nat.le_of_ble_eq_true rfl) dX3_record_25 (fX3_s1 _ _ _) (wX3_X7_s0 k a _ _) (fun H locs hW => ?_)
  refine lv_aload_n hx hb dX3_record_28 rfl (lv_at hl 0 rfl) ?_
  refine lv_aload_n hx hb dX3_record_29 rfl (lv_at hl 0 rfl) ?_
  refine va_get (v := .int (σ 0 2)) (C := RX3) (T := TX3) (N := 3) hx hb hts hinX3 hown hK hW.1 0 (q_w_get 0 (Nat.le_of_ble_eq_true rfl)) rfl 2 (by decide) hf32 (fun _ h9 => h9) rfl dX3_record_30 ?_
  refine lv_iconst (v := (1 : Int32)) hx hb dX3_record_33 (by decide) ?_
  refine lv_iadd hx hb dX3_record_34 ?_
  refine lv_bipush (v := (6 : Int32)) hx hb dX3_record_35 (by decide) ?_
  refine va_mmin hx hb (by rw [hml]; exact hl.1.symm) hown (hts (.methodLink RX3 35 Lib.Math.min.name) (by decide +kernel)) (hts (.static Lib.Math.min.name) (by decide +kernel)) (hts (.initialized "java/lang/Math") (by decide +kernel)) (hts (.code Lib.Math.min.name Lib.Math.min.code 2 (some .int)) (by decide +kernel)) (Nat.le_of_ble_eq_true rfl) (Nat.le_of_ble_eq_true rfl) (Nat.zero_le _) (Nat.zero_le _) dX3_record_37 ?_
  refine q_putf (ty := .int) (wd' := wX3_X7 k a (u2 σ 0 (upd (upd (σ 0) 1 ((σ 0 1) + (1 : Int32))) 2 ((if (6 : Int32) < ((σ 0 2) + (1 : Int32)) then (6 : Int32) else ((σ 0 2) + (1 : Int32))))))) C0 hW hinX3 tyX3 tyX3_ok nmX3 0 (q_w_get 0 (Nat.le_of_ble_eq_true rfl)) rfl 2 (by decide) hf32 rfl (by decide +kernel) rfl rfl (Nat.le_of_ble_eq_true rfl) dX3_record_40 (fX3_s2 _ _ _) ((wX3_X7_s0 k a _ _).trans (congrArg (wX3_X7 k a) (u2_same _ _ _ _))) (fun H locs hW => ?_)
  exact q_vret C0 hW hR dX3_record_43
set_option maxHeartbeats 400000 in
set_option maxRecDepth 100000 in
theorem b_X3_record_b0 {p : Program} {e : Env} {s : State} {m : MethodId} {args : Array Value} {below : List Frame} {meth : Method} {c : Code} (l : Launch) (D : va_G) (k : Nat → ClassId) (a : Nat → Nat) (A : Nat → Prop) (C0 : q_C p s m meth c args RX3 cX3_record 2 none wsX3_record D (tyL k) A) (R : T2) : ∀ (σ : T2), S_X3_record_b0 σ → P_X3_record_b0 σ = R → ∀ (H : Heap) (locs : List Loc) (ls : Array Slot), q_W D A s.heap (wX3_X7 k a σ) H locs → lv_has ls 2 [(0, .ref (a 0)), (1, .ref (a 104))] → W p l e { frames := 3, cells := 0, slots := 0, locals := 82 } s m args below meth c H locs 0 0 (MQ below (va_Qv (fun u => u = R) (fun u => q_E D (tyL k) A (wX3_X7 k a u)) A) args s 0 0 A) (F0 m 0 ls []) := by
  intro σ hs hR H locs ls hW hl
  rw [P_X3_record_b0_e] at hR
  rw [S_X3_record_b0_e] at hs
  obtain ⟨hx, hb, hr, hml, hts, hown, hlocks, hK, hA⟩ := id C0
  have hf11 := hts (.fieldLink RX3 11 "BeatFollower$History" "scenes" "[LBeatFollower$Scene;") (by decide +kernel)
  have hf18 := hts (.fieldLink RX3 18 "BeatFollower$History" "next" "I") (by decide +kernel)
  have hinX3 : ∀ w ∈ u_ws RX3 TX3 3, w ∈ wsX3_record := hin_X3_record_X3
  refine lv_aload_n hx hb dX3_record_0 rfl (lv_at hl 0 rfl) ?_
  refine va_get (v := .ref (a 1)) (C := RX3) (T := TX3) (N := 3) hx hb hts hinX3 hown hK hW.1 0 (q_w_get 0 (Nat.le_of_ble_eq_true rfl)) rfl 0 (by decide) hf11 (fun _ h9 => h9) rfl dX3_record_1 ?_
  refine lv_aload_n hx hb dX3_record_4 rfl (lv_at hl 0 rfl) ?_
  refine va_get (v := .int (σ 0 1)) (C := RX3) (T := TX3) (N := 3) hx hb hts hinX3 hown hK hW.1 0 (q_w_get 0 (Nat.le_of_ble_eq_true rfl)) rfl 1 (by decide) hf18 (fun _ h9 => h9) rfl dX3_record_5 ?_
  refine lv_bipush (v := (6 : Int32)) hx hb dX3_record_8 (by decide) ?_
  have hs1 := hs.1
  have hs := hs.2
  refine q_Si (As := [.int (σ 0 1), .int (6 : Int32)]) (rest := [.ref (a 1)]) (R := P_J9_floorMod_7cf53 (σ 0 1) (6 : Int32)) ⟨hx, hb, hml, hown, hts⟩ (m_J9_floorMod_7cf53 l (σ 0 1) (6 : Int32) hs1) (va_cwS 2 hts gX3_record_J9_floorMod_7cf53 rfl rfl rfl hd_J9_floorMod_7cf53 ⟨Nat.le_of_ble_eq_true rfl, Nat.le_of_ble_eq_true rfl⟩) hl rfl rfl (Nat.le_of_ble_eq_true rfl) dX3_record_10 ⟨Nat.le_refl 0, Nat.le_refl 0⟩ ?_
  have hi2 := hs.1
  have hs := hs.2
  refine q_aald C0 hW 1 (q_w_get 1 (Nat.le_of_ble_eq_true rfl)) rfl hi2 rfl (q_ifv hi2) dX3_record_13 ?_
  refine lv_aload_n hx hb dX3_record_14 rfl (lv_at hl 1 rfl) ?_
  have hs3 := hs.1
  have hs := hs.2
  refine q_Vv (As := [.ref (a 104)]) (rest := []) (wf := wX7_X7 k (sel a (2 + 17 * (P_J9_floorMod_7cf53 (σ 0 1) (6 : Int32)).toNatClampNeg) 17 104)) (R := P_X7_copyFrom (sel σ (2 + 17 * (P_J9_floorMod_7cf53 (σ 0 1) (6 : Int32)).toNatClampNeg) 17 104)) (wd' := wX3_X7 k a (sb2 σ (2 + 17 * (P_J9_floorMod_7cf53 (σ 0 1) (6 : Int32)).toNatClampNeg) 17 104 17 (P_X7_copyFrom (sel σ (2 + 17 * (P_J9_floorMod_7cf53 (σ 0 1) (6 : Int32)).toNatClampNeg) 17 104)))) (wX3_X7_X7_X7_q2_104_is ((P_J9_floorMod_7cf53 (σ 0 1) (6 : Int32)).toNatClampNeg)) [0, 1, 2, 3] (2 + 17 * (P_J9_floorMod_7cf53 (σ 0 1) (6 : Int32)).toNatClampNeg) 7 C0 hW (m_X7_copyFrom l D k (sel a (2 + 17 * (P_J9_floorMod_7cf53 (σ 0 1) (6 : Int32)).toNatClampNeg) 17 104) H.size (sel σ (2 + 17 * (P_J9_floorMod_7cf53 (σ 0 1) (6 : Int32)).toNatClampNeg) 17 104)  hs3) (cwV 1 hts gX3_record_X7_copyFrom rfl rfl rfl hd_X7_copyFrom ⟨Nat.le_of_ble_eq_true rfl, Nat.le_of_ble_eq_true rfl⟩) (wX3_X7_X7_X7_q2_104_nd ((P_J9_floorMod_7cf53 (σ 0 1) (6 : Int32)).toNatClampNeg) (q_inv hi2)) (wX3_X7_X7_X7_q2_104_pl k a _ ((P_J9_floorMod_7cf53 (σ 0 1) (6 : Int32)).toNatClampNeg) (q_inv hi2)) rfl ((q_w_get (2 + 17 * (P_J9_floorMod_7cf53 (σ 0 1) (6 : Int32)).toNatClampNeg) (by have h9 := q_inv hi2; omega)).trans (by rw [show (2 + 17 * (P_J9_floorMod_7cf53 (σ 0 1) (6 : Int32)).toNatClampNeg) = (2 + 17 * (P_J9_floorMod_7cf53 (σ 0 1) (6 : Int32)).toNatClampNeg) + 0 from rfl, EwX3_X7_b2 k a (P_J9_floorMod_7cf53 (σ 0 1) (6 : Int32)).toNatClampNeg 0 (q_inv hi2) (by decide) _]; rfl)) rfl (wX7_X7_fst k _ _ _) (wX3_X7_X7_X7_q2_104_pt k a _ _ ((P_J9_floorMod_7cf53 (σ 0 1) (6 : Int32)).toNatClampNeg) (q_inv hi2)) hl rfl rfl (Nat.le_of_ble_eq_true rfl) dX3_record_15 ⟨Nat.le_refl 0, Nat.le_refl 0⟩ (fun H locs hW => ?_)
  exact b_X3_record_b18c l D k a A C0 R (sb2 σ (2 + 17 * (P_J9_floorMod_7cf53 (σ 0 1) (6 : Int32)).toNatClampNeg) 17 104 17 (P_X7_copyFrom (sel σ (2 + 17 * (P_J9_floorMod_7cf53 (σ 0 1) (6 : Int32)).toNatClampNeg) 17 104))) hs hR H locs ls hW (lv_sub hl [0] rfl)
set_option maxHeartbeats 400000 in
set_option maxRecDepth 100000 in
theorem m_X3_record (l : Launch) (D : va_G) (k : Nat → ClassId) (a : Nat → Nat) (sz : Nat) (σ : T2) (hs : S_X3_record σ) : Met l yX3_record wsX3_record { frames := 3, cells := 0, slots := 0, locals := 82 } (va_Pc [.ref (a 0), .ref (a 104)] (q_B D (tyL k) (wX3_X7 k a σ) sz)) (va_Qv (fun u => u = P_X3_record σ) (fun u => q_E D (tyL k) (va_A (wX3_X7 k a σ) sz) (wX3_X7 k a u)) (va_A (wX3_X7 k a σ) sz)) 0 0 (va_A (wX3_X7 k a σ) sz) := by
  refine q_met [.ref (a 0), .ref (a 104)] (wX3_X7 k a σ) sz (cc := cX3_record) (maxL := 2) (ret := none) (by decide) rfl (Nat.le_of_ble_eq_true rfl) ?_
  intro p e s m args below meth c ls hsz C0 hW hl hin
  subst hsz
  exact b_X3_record_b0 l D k a _ C0 _ σ  hs rfl s.heap [] ls hW (lv_sub hl [0, 1] rfl)
theorem hin_X3_takeBack_X3 : ∀ w ∈ u_ws RX3 TX3 3, w ∈ wsX3_takeBack := by decide +kernel
theorem hd_X3_takeBack : yX3_takeBack.cls = RX3 ∧ yX3_takeBack.cls ≠ "java/lang/invoke/MethodHandle" ∧ yX3_takeBack.cls ≠ "java/lang/invoke/VarHandle" ∧ (parseMethodDescriptor yX3_takeBack.desc).map (fun d => d.parameters.length) = some 1 := by decide +kernel
noncomputable def P_X3_takeBack_b0 (σ : T2) : T2 := sb2 (u2 σ 0 (upd (upd (σ 0) 1 ((σ 0 1) - (1 : Int32))) 2 ((σ 0 2) - (1 : Int32)))) 104 17 (2 + 17 * (P_J9_floorMod_7cf53 ((σ 0 1) - (1 : Int32)) (6 : Int32)).toNatClampNeg) 17 (P_X7_copyFrom (sel (u2 σ 0 (upd (upd (σ 0) 1 ((σ 0 1) - (1 : Int32))) 2 ((σ 0 2) - (1 : Int32)))) 104 17 (2 + 17 * (P_J9_floorMod_7cf53 ((σ 0 1) - (1 : Int32)) (6 : Int32)).toNatClampNeg)))
def S_X3_takeBack_b0 (σ : T2) : Prop := (S_J9_floorMod_7cf53 ((σ 0 1) - (1 : Int32)) (6 : Int32)) ∧ ((vp_in (P_J9_floorMod_7cf53 ((σ 0 1) - (1 : Int32)) (6 : Int32)) 6) ∧ ((S_X7_copyFrom (sel (u2 σ 0 (upd (upd (σ 0) 1 ((σ 0 1) - (1 : Int32))) 2 ((σ 0 2) - (1 : Int32)))) 104 17 (2 + 17 * (P_J9_floorMod_7cf53 ((σ 0 1) - (1 : Int32)) (6 : Int32)).toNatClampNeg)) ) ∧ (True)))
theorem P_X3_takeBack_b0_e (σ : T2) : P_X3_takeBack_b0 σ = sb2 (u2 σ 0 (upd (upd (σ 0) 1 ((σ 0 1) - (1 : Int32))) 2 ((σ 0 2) - (1 : Int32)))) 104 17 (2 + 17 * (P_J9_floorMod_7cf53 ((σ 0 1) - (1 : Int32)) (6 : Int32)).toNatClampNeg) 17 (P_X7_copyFrom (sel (u2 σ 0 (upd (upd (σ 0) 1 ((σ 0 1) - (1 : Int32))) 2 ((σ 0 2) - (1 : Int32)))) 104 17 (2 + 17 * (P_J9_floorMod_7cf53 ((σ 0 1) - (1 : Int32)) (6 : Int32)).toNatClampNeg))) := rfl
theorem S_X3_takeBack_b0_e (σ : T2) : S_X3_takeBack_b0 σ = ((S_J9_floorMod_7cf53 ((σ 0 1) - (1 : Int32)) (6 : Int32)) ∧ ((vp_in (P_J9_floorMod_7cf53 ((σ 0 1) - (1 : Int32)) (6 : Int32)) 6) ∧ ((S_X7_copyFrom (sel (u2 σ 0 (upd (upd (σ 0) 1 ((σ 0 1) - (1 : Int32))) 2 ((σ 0 2) - (1 : Int32)))) 104 17 (2 + 17 * (P_J9_floorMod_7cf53 ((σ 0 1) - (1 : Int32)) (6 : Int32)).toNatClampNeg)) ) ∧ (True)))) := rfl
noncomputable def P_X3_takeBack (σ : T2) : T2 := P_X3_takeBack_b0 σ
def S_X3_takeBack (σ : T2) : Prop := S_X3_takeBack_b0 σ
set_option maxHeartbeats 400000 in
set_option maxRecDepth 100000 in
theorem b_X3_takeBack_b0 {p : Program} {e : Env} {s : State} {m : MethodId} {args : Array Value} {below : List Frame} {meth : Method} {c : Code} (l : Launch) (D : va_G) (k : Nat → ClassId) (a : Nat → Nat) (A : Nat → Prop) (C0 : q_C p s m meth c args RX3 cX3_takeBack 2 none wsX3_takeBack D (tyL k) A) (R : T2) : ∀ (σ : T2), S_X3_takeBack_b0 σ → P_X3_takeBack_b0 σ = R → ∀ (H : Heap) (locs : List Loc) (ls : Array Slot), q_W D A s.heap (wX3_X7 k a σ) H locs → lv_has ls 2 [(0, .ref (a 0)), (1, .ref (a 104))] → W p l e { frames := 3, cells := 0, slots := 0, locals := 82 } s m args below meth c H locs 0 0 (MQ below (va_Qv (fun u => u = R) (fun u => q_E D (tyL k) A (wX3_X7 k a u)) A) args s 0 0 A) (F0 m 0 ls []) := by
  intro σ hs hR H locs ls hW hl
  rw [P_X3_takeBack_b0_e] at hR
  rw [S_X3_takeBack_b0_e] at hs
  obtain ⟨hx, hb, hr, hml, hts, hown, hlocks, hK, hA⟩ := id C0
  have hf11 := hts (.fieldLink RX3 11 "BeatFollower$History" "scenes" "[LBeatFollower$Scene;") (by decide +kernel)
  have hf18 := hts (.fieldLink RX3 18 "BeatFollower$History" "next" "I") (by decide +kernel)
  have hf32 := hts (.fieldLink RX3 32 "BeatFollower$History" "many" "I") (by decide +kernel)
  have hinX3 : ∀ w ∈ u_ws RX3 TX3 3, w ∈ wsX3_takeBack := hin_X3_takeBack_X3
  refine lv_aload_n hx hb dX3_takeBack_0 rfl (lv_at hl 0 rfl) ?_
  refine lv_dup hx hb dX3_takeBack_1 rfl ?_
  refine va_get (v := .int (σ 0 1)) (C := RX3) (T := TX3) (N := 3) hx hb hts hinX3 hown hK hW.1 0 (q_w_get 0 (Nat.le_of_ble_eq_true rfl)) rfl 1 (by decide) hf18 (fun _ h9 => h9) rfl dX3_takeBack_2 ?_
  refine lv_iconst (v := (1 : Int32)) hx hb dX3_takeBack_5 (by decide) ?_
  refine lv_isub hx hb dX3_takeBack_6 ?_
  refine q_putf (ty := .int) (wd' := wX3_X7 k a (u2 σ 0 (upd (σ 0) 1 ((σ 0 1) - (1 : Int32))))) C0 hW hinX3 tyX3 tyX3_ok nmX3 0 (q_w_get 0 (Nat.le_of_ble_eq_true rfl)) rfl 1 (by decide) hf18 rfl (by decide +kernel) rfl rfl (Nat.le_of_ble_eq_true rfl) dX3_takeBack_7 (fX3_s1 _ _ _) (wX3_X7_s0 k a _ _) (fun H locs hW => ?_)
  refine lv_aload_n hx hb dX3_takeBack_10 rfl (lv_at hl 0 rfl) ?_
  refine lv_dup hx hb dX3_takeBack_11 rfl ?_
  refine va_get (v := .int (σ 0 2)) (C := RX3) (T := TX3) (N := 3) hx hb hts hinX3 hown hK hW.1 0 (q_w_get 0 (Nat.le_of_ble_eq_true rfl)) rfl 2 (by decide) hf32 (fun _ h9 => h9) rfl dX3_takeBack_12 ?_
  refine lv_iconst (v := (1 : Int32)) hx hb dX3_takeBack_15 (by decide) ?_
  refine lv_isub hx hb dX3_takeBack_16 ?_
  refine q_putf (ty := .int) (wd' := wX3_X7 k a (u2 σ 0 (upd (upd (σ 0) 1 ((σ 0 1) - (1 : Int32))) 2 ((σ 0 2) - (1 : Int32))))) C0 hW hinX3 tyX3 tyX3_ok nmX3 0 (q_w_get 0 (Nat.le_of_ble_eq_true rfl)) rfl 2 (by decide) hf32 rfl (by decide +kernel) rfl rfl (Nat.le_of_ble_eq_true rfl) dX3_takeBack_17 (fX3_s2 _ _ _) ((wX3_X7_s0 k a _ _).trans (congrArg (wX3_X7 k a) (u2_same _ _ _ _))) (fun H locs hW => ?_)
  refine lv_aload_n hx hb dX3_takeBack_20 rfl (lv_at hl 1 rfl) ?_
  refine lv_aload_n hx hb dX3_takeBack_21 rfl (lv_at hl 0 rfl) ?_
  refine va_get (v := .ref (a 1)) (C := RX3) (T := TX3) (N := 3) hx hb hts hinX3 hown hK hW.1 0 (q_w_get 0 (Nat.le_of_ble_eq_true rfl)) rfl 0 (by decide) hf11 (fun _ h9 => h9) rfl dX3_takeBack_22 ?_
  refine lv_aload_n hx hb dX3_takeBack_25 rfl (lv_at hl 0 rfl) ?_
  refine va_get (v := .int ((σ 0 1) - (1 : Int32))) (C := RX3) (T := TX3) (N := 3) hx hb hts hinX3 hown hK hW.1 0 (q_w_get 0 (Nat.le_of_ble_eq_true rfl)) rfl 1 (by decide) hf18 (fun _ h9 => h9) rfl dX3_takeBack_26 ?_
  refine lv_bipush (v := (6 : Int32)) hx hb dX3_takeBack_29 (by decide) ?_
  have hs1 := hs.1
  have hs := hs.2
  refine q_Si (As := [.int ((σ 0 1) - (1 : Int32)), .int (6 : Int32)]) (rest := [.ref (a 1), .ref (a 104)]) (R := P_J9_floorMod_7cf53 ((σ 0 1) - (1 : Int32)) (6 : Int32)) ⟨hx, hb, hml, hown, hts⟩ (m_J9_floorMod_7cf53 l ((σ 0 1) - (1 : Int32)) (6 : Int32) hs1) (va_cwS 2 hts gX3_takeBack_J9_floorMod_7cf53 rfl rfl rfl hd_J9_floorMod_7cf53 ⟨Nat.le_of_ble_eq_true rfl, Nat.le_of_ble_eq_true rfl⟩) hl rfl rfl (Nat.le_of_ble_eq_true rfl) dX3_takeBack_31 ⟨Nat.le_refl 0, Nat.le_refl 0⟩ ?_
  have hi2 := hs.1
  have hs := hs.2
  refine q_aald C0 hW 1 (q_w_get 1 (Nat.le_of_ble_eq_true rfl)) rfl hi2 rfl (q_ifv hi2) dX3_takeBack_34 ?_
  have hs3 := hs.1
  have hs := hs.2
  refine q_Vv (As := [.ref (a (2 + 17 * (P_J9_floorMod_7cf53 ((σ 0 1) - (1 : Int32)) (6 : Int32)).toNatClampNeg))]) (rest := []) (wf := wX7_X7 k (sel a 104 17 (2 + 17 * (P_J9_floorMod_7cf53 ((σ 0 1) - (1 : Int32)) (6 : Int32)).toNatClampNeg))) (R := P_X7_copyFrom (sel (u2 σ 0 (upd (upd (σ 0) 1 ((σ 0 1) - (1 : Int32))) 2 ((σ 0 2) - (1 : Int32)))) 104 17 (2 + 17 * (P_J9_floorMod_7cf53 ((σ 0 1) - (1 : Int32)) (6 : Int32)).toNatClampNeg))) (wd' := wX3_X7 k a (sb2 (u2 σ 0 (upd (upd (σ 0) 1 ((σ 0 1) - (1 : Int32))) 2 ((σ 0 2) - (1 : Int32)))) 104 17 (2 + 17 * (P_J9_floorMod_7cf53 ((σ 0 1) - (1 : Int32)) (6 : Int32)).toNatClampNeg) 17 (P_X7_copyFrom (sel (u2 σ 0 (upd (upd (σ 0) 1 ((σ 0 1) - (1 : Int32))) 2 ((σ 0 2) - (1 : Int32)))) 104 17 (2 + 17 * (P_J9_floorMod_7cf53 ((σ 0 1) - (1 : Int32)) (6 : Int32)).toNatClampNeg))))) (wX3_X7_X7_X7_104_q2_is ((P_J9_floorMod_7cf53 ((σ 0 1) - (1 : Int32)) (6 : Int32)).toNatClampNeg)) [0, 1, 2, 3] 104 7 C0 hW (m_X7_copyFrom l D k (sel a 104 17 (2 + 17 * (P_J9_floorMod_7cf53 ((σ 0 1) - (1 : Int32)) (6 : Int32)).toNatClampNeg)) H.size (sel (u2 σ 0 (upd (upd (σ 0) 1 ((σ 0 1) - (1 : Int32))) 2 ((σ 0 2) - (1 : Int32)))) 104 17 (2 + 17 * (P_J9_floorMod_7cf53 ((σ 0 1) - (1 : Int32)) (6 : Int32)).toNatClampNeg))  hs3) (cwV 1 hts gX3_takeBack_X7_copyFrom rfl rfl rfl hd_X7_copyFrom ⟨Nat.le_of_ble_eq_true rfl, Nat.le_of_ble_eq_true rfl⟩) (wX3_X7_X7_X7_104_q2_nd ((P_J9_floorMod_7cf53 ((σ 0 1) - (1 : Int32)) (6 : Int32)).toNatClampNeg) (q_inv hi2)) (wX3_X7_X7_X7_104_q2_pl k a _ ((P_J9_floorMod_7cf53 ((σ 0 1) - (1 : Int32)) (6 : Int32)).toNatClampNeg) (q_inv hi2)) rfl (q_w_get 104 (Nat.le_of_ble_eq_true rfl)) rfl (wX7_X7_fst k _ _ _) (wX3_X7_X7_X7_104_q2_pt k a _ _ ((P_J9_floorMod_7cf53 ((σ 0 1) - (1 : Int32)) (6 : Int32)).toNatClampNeg) (q_inv hi2)) hl rfl rfl (Nat.le_of_ble_eq_true rfl) dX3_takeBack_35 ⟨Nat.le_refl 0, Nat.le_refl 0⟩ (fun H locs hW => ?_)
  exact q_vret C0 hW hR dX3_takeBack_38
set_option maxHeartbeats 400000 in
set_option maxRecDepth 100000 in
theorem m_X3_takeBack (l : Launch) (D : va_G) (k : Nat → ClassId) (a : Nat → Nat) (sz : Nat) (σ : T2) (hs : S_X3_takeBack σ) : Met l yX3_takeBack wsX3_takeBack { frames := 3, cells := 0, slots := 0, locals := 82 } (va_Pc [.ref (a 0), .ref (a 104)] (q_B D (tyL k) (wX3_X7 k a σ) sz)) (va_Qv (fun u => u = P_X3_takeBack σ) (fun u => q_E D (tyL k) (va_A (wX3_X7 k a σ) sz) (wX3_X7 k a u)) (va_A (wX3_X7 k a σ) sz)) 0 0 (va_A (wX3_X7 k a σ) sz) := by
  refine q_met [.ref (a 0), .ref (a 104)] (wX3_X7 k a σ) sz (cc := cX3_takeBack) (maxL := 2) (ret := none) (by decide) rfl (Nat.le_of_ble_eq_true rfl) ?_
  intro p e s m args below meth c ls hsz C0 hW hl hin
  subst hsz
  exact b_X3_takeBack_b0 l D k a _ C0 _ σ  hs rfl s.heap [] ls hW (lv_sub hl [0, 1] rfl)
