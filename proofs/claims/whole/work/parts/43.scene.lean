def fX7 (a : Nat → Nat) (f : T1) : List Value := [.ref (a 1), .ref (a 2), .ref (a 5), .ref (a 10), .ref (a 15), .ref (a 16), .int (f 6)]
theorem fX7_s6 (a : Nat → Nat) (f : T1) (v : Int32) : (fX7 a f).set 6 (.int v) = fX7 a (upd f 6 v) := rfl
def wX7 (k : Nat → ClassId) (a : Nat → Nat) (σ : T2) : va_W := [(a 0, .inr (7, fX7 a (σ 0))), (a 1, .inl (k 0, 8, .inl (σ 1))), (a 2, .inr (5, fX5 (fun j => a (2 + j)) (σ 2))), (a 3, .inl (k 0, 64, .inl (σ 3))), (a 4, .inl (k 0, 64, .inl (σ 4))), (a 5, .inr (2, fX2 (fun j => a (5 + j)) (σ 5))), (a 6, .inl (k 0, 64, .inl (σ 6))), (a 7, .inl (k 0, 64, .inl (σ 7))), (a 8, .inl (k 0, 64, .inl (σ 8))), (a 9, .inl (k 0, 64, .inl (σ 9))), (a 10, .inr (0, fX0 (fun j => a (10 + j)) (σ 10))), (a 11, .inl (k 0, 64, .inl (σ 11))), (a 12, .inl (k 0, 64, .inl (σ 12))), (a 13, .inl (k 0, 64, .inl (σ 13))), (a 14, .inl (k 0, 64, .inl (σ 14))), (a 15, .inr (1, fX1 (fun j => a (15 + j)) (σ 15))), (a 16, .inr (8, fX8 (fun j => a (16 + j)) (σ 16)))]
theorem wX7_s0 (k : Nat → ClassId) (a : Nat → Nat) (σ : T2) (g : T1) : (wX7 k a σ).set 0 (a 0, .inr (7, fX7 a g)) = wX7 k a (u2 σ 0 g) := rfl
theorem wX7_s1 (k : Nat → ClassId) (a : Nat → Nat) (σ : T2) (g : T1) : (wX7 k a σ).set 1 (a 1, .inl (k 0, 8, .inl g)) = wX7 k a (u2 σ 1 g) := rfl
theorem wX7_s2 (k : Nat → ClassId) (a : Nat → Nat) (σ : T2) (g : T1) : (wX7 k a σ).set 2 (a 2, .inr (5, fX5 (fun j => a (2 + j)) g)) = wX7 k a (u2 σ 2 g) := rfl
theorem wX7_s3 (k : Nat → ClassId) (a : Nat → Nat) (σ : T2) (g : T1) : (wX7 k a σ).set 3 (a 3, .inl (k 0, 64, .inl g)) = wX7 k a (u2 σ 3 g) := rfl
theorem wX7_s4 (k : Nat → ClassId) (a : Nat → Nat) (σ : T2) (g : T1) : (wX7 k a σ).set 4 (a 4, .inl (k 0, 64, .inl g)) = wX7 k a (u2 σ 4 g) := rfl
theorem wX7_s5 (k : Nat → ClassId) (a : Nat → Nat) (σ : T2) (g : T1) : (wX7 k a σ).set 5 (a 5, .inr (2, fX2 (fun j => a (5 + j)) g)) = wX7 k a (u2 σ 5 g) := rfl
theorem wX7_s6 (k : Nat → ClassId) (a : Nat → Nat) (σ : T2) (g : T1) : (wX7 k a σ).set 6 (a 6, .inl (k 0, 64, .inl g)) = wX7 k a (u2 σ 6 g) := rfl
theorem wX7_s7 (k : Nat → ClassId) (a : Nat → Nat) (σ : T2) (g : T1) : (wX7 k a σ).set 7 (a 7, .inl (k 0, 64, .inl g)) = wX7 k a (u2 σ 7 g) := rfl
theorem wX7_s8 (k : Nat → ClassId) (a : Nat → Nat) (σ : T2) (g : T1) : (wX7 k a σ).set 8 (a 8, .inl (k 0, 64, .inl g)) = wX7 k a (u2 σ 8 g) := rfl
theorem wX7_s9 (k : Nat → ClassId) (a : Nat → Nat) (σ : T2) (g : T1) : (wX7 k a σ).set 9 (a 9, .inl (k 0, 64, .inl g)) = wX7 k a (u2 σ 9 g) := rfl
theorem wX7_s10 (k : Nat → ClassId) (a : Nat → Nat) (σ : T2) (g : T1) : (wX7 k a σ).set 10 (a 10, .inr (0, fX0 (fun j => a (10 + j)) g)) = wX7 k a (u2 σ 10 g) := rfl
theorem wX7_s11 (k : Nat → ClassId) (a : Nat → Nat) (σ : T2) (g : T1) : (wX7 k a σ).set 11 (a 11, .inl (k 0, 64, .inl g)) = wX7 k a (u2 σ 11 g) := rfl
theorem wX7_s12 (k : Nat → ClassId) (a : Nat → Nat) (σ : T2) (g : T1) : (wX7 k a σ).set 12 (a 12, .inl (k 0, 64, .inl g)) = wX7 k a (u2 σ 12 g) := rfl
theorem wX7_s13 (k : Nat → ClassId) (a : Nat → Nat) (σ : T2) (g : T1) : (wX7 k a σ).set 13 (a 13, .inl (k 0, 64, .inl g)) = wX7 k a (u2 σ 13 g) := rfl
theorem wX7_s14 (k : Nat → ClassId) (a : Nat → Nat) (σ : T2) (g : T1) : (wX7 k a σ).set 14 (a 14, .inl (k 0, 64, .inl g)) = wX7 k a (u2 σ 14 g) := rfl
theorem wX7_s15 (k : Nat → ClassId) (a : Nat → Nat) (σ : T2) (g : T1) : (wX7 k a σ).set 15 (a 15, .inr (1, fX1 (fun j => a (15 + j)) g)) = wX7 k a (u2 σ 15 g) := rfl
theorem wX7_s16 (k : Nat → ClassId) (a : Nat → Nat) (σ : T2) (g : T1) : (wX7 k a σ).set 16 (a 16, .inr (8, fX8 (fun j => a (16 + j)) g)) = wX7 k a (u2 σ 16 g) := rfl
theorem wX7_pl (k : Nat → ClassId) (a : Nat → Nat) (σ : T2) : ([0, 1, 2, 3, 4, 5, 6, 7, 8, 9, 10, 11, 12, 13, 14, 15, 16] : List Nat).map (fun i => (wX7 k a σ)[i]?) = (wX7 k a σ).map some := rfl
theorem wX7_put (k : Nat → ClassId) (a : Nat → Nat) (σ τ : T2) : q_put (wX7 k a σ) [0, 1, 2, 3, 4, 5, 6, 7, 8, 9, 10, 11, 12, 13, 14, 15, 16] (wX7 k a τ) = wX7 k a τ := rfl
theorem wX7_fst (k : Nat → ClassId) (a : Nat → Nat) (σ τ : T2) : (wX7 k a τ).map Prod.fst = (wX7 k a σ).map Prod.fst := rfl
theorem wX7_rec (k : Nat → ClassId) (a : Nat → Nat) (σ : T2) : (wX7 k a σ)[0]? = some (a 0, .inr (7, fX7 a (σ 0))) := rfl
def wX7_X7 (k : Nat → ClassId) (a : Nat → Nat) (σ : T2) : va_W := [(a 0, .inr (7, fX7 a (σ 0))), (a 1, .inl (k 0, 8, .inl (σ 1))), (a 2, .inr (5, fX5 (fun j => a (2 + j)) (σ 2))), (a 3, .inl (k 0, 64, .inl (σ 3))), (a 4, .inl (k 0, 64, .inl (σ 4))), (a 5, .inr (2, fX2 (fun j => a (5 + j)) (σ 5))), (a 6, .inl (k 0, 64, .inl (σ 6))), (a 7, .inl (k 0, 64, .inl (σ 7))), (a 8, .inl (k 0, 64, .inl (σ 8))), (a 9, .inl (k 0, 64, .inl (σ 9))), (a 10, .inr (0, fX0 (fun j => a (10 + j)) (σ 10))), (a 11, .inl (k 0, 64, .inl (σ 11))), (a 12, .inl (k 0, 64, .inl (σ 12))), (a 13, .inl (k 0, 64, .inl (σ 13))), (a 14, .inl (k 0, 64, .inl (σ 14))), (a 15, .inr (1, fX1 (fun j => a (15 + j)) (σ 15))), (a 16, .inr (8, fX8 (fun j => a (16 + j)) (σ 16))), (a 17, .inr (7, fX7 (fun j => a (17 + j)) (σ 17))), (a 18, .inl (k 0, 8, .inl (σ 18))), (a 19, .inr (5, fX5 (fun j => a (19 + j)) (σ 19))), (a 20, .inl (k 0, 64, .inl (σ 20))), (a 21, .inl (k 0, 64, .inl (σ 21))), (a 22, .inr (2, fX2 (fun j => a (22 + j)) (σ 22))), (a 23, .inl (k 0, 64, .inl (σ 23))), (a 24, .inl (k 0, 64, .inl (σ 24))), (a 25, .inl (k 0, 64, .inl (σ 25))), (a 26, .inl (k 0, 64, .inl (σ 26))), (a 27, .inr (0, fX0 (fun j => a (27 + j)) (σ 27))), (a 28, .inl (k 0, 64, .inl (σ 28))), (a 29, .inl (k 0, 64, .inl (σ 29))), (a 30, .inl (k 0, 64, .inl (σ 30))), (a 31, .inl (k 0, 64, .inl (σ 31))), (a 32, .inr (1, fX1 (fun j => a (32 + j)) (σ 32))), (a 33, .inr (8, fX8 (fun j => a (33 + j)) (σ 33)))]
theorem wX7_X7_s0 (k : Nat → ClassId) (a : Nat → Nat) (σ : T2) (g : T1) : (wX7_X7 k a σ).set 0 (a 0, .inr (7, fX7 a g)) = wX7_X7 k a (u2 σ 0 g) := rfl
theorem wX7_X7_s1 (k : Nat → ClassId) (a : Nat → Nat) (σ : T2) (g : T1) : (wX7_X7 k a σ).set 1 (a 1, .inl (k 0, 8, .inl g)) = wX7_X7 k a (u2 σ 1 g) := rfl
theorem wX7_X7_s2 (k : Nat → ClassId) (a : Nat → Nat) (σ : T2) (g : T1) : (wX7_X7 k a σ).set 2 (a 2, .inr (5, fX5 (fun j => a (2 + j)) g)) = wX7_X7 k a (u2 σ 2 g) := rfl
theorem wX7_X7_s3 (k : Nat → ClassId) (a : Nat → Nat) (σ : T2) (g : T1) : (wX7_X7 k a σ).set 3 (a 3, .inl (k 0, 64, .inl g)) = wX7_X7 k a (u2 σ 3 g) := rfl
theorem wX7_X7_s4 (k : Nat → ClassId) (a : Nat → Nat) (σ : T2) (g : T1) : (wX7_X7 k a σ).set 4 (a 4, .inl (k 0, 64, .inl g)) = wX7_X7 k a (u2 σ 4 g) := rfl
theorem wX7_X7_s5 (k : Nat → ClassId) (a : Nat → Nat) (σ : T2) (g : T1) : (wX7_X7 k a σ).set 5 (a 5, .inr (2, fX2 (fun j => a (5 + j)) g)) = wX7_X7 k a (u2 σ 5 g) := rfl
theorem wX7_X7_s6 (k : Nat → ClassId) (a : Nat → Nat) (σ : T2) (g : T1) : (wX7_X7 k a σ).set 6 (a 6, .inl (k 0, 64, .inl g)) = wX7_X7 k a (u2 σ 6 g) := rfl
theorem wX7_X7_s7 (k : Nat → ClassId) (a : Nat → Nat) (σ : T2) (g : T1) : (wX7_X7 k a σ).set 7 (a 7, .inl (k 0, 64, .inl g)) = wX7_X7 k a (u2 σ 7 g) := rfl
theorem wX7_X7_s8 (k : Nat → ClassId) (a : Nat → Nat) (σ : T2) (g : T1) : (wX7_X7 k a σ).set 8 (a 8, .inl (k 0, 64, .inl g)) = wX7_X7 k a (u2 σ 8 g) := rfl
theorem wX7_X7_s9 (k : Nat → ClassId) (a : Nat → Nat) (σ : T2) (g : T1) : (wX7_X7 k a σ).set 9 (a 9, .inl (k 0, 64, .inl g)) = wX7_X7 k a (u2 σ 9 g) := rfl
theorem wX7_X7_s10 (k : Nat → ClassId) (a : Nat → Nat) (σ : T2) (g : T1) : (wX7_X7 k a σ).set 10 (a 10, .inr (0, fX0 (fun j => a (10 + j)) g)) = wX7_X7 k a (u2 σ 10 g) := rfl
theorem wX7_X7_s11 (k : Nat → ClassId) (a : Nat → Nat) (σ : T2) (g : T1) : (wX7_X7 k a σ).set 11 (a 11, .inl (k 0, 64, .inl g)) = wX7_X7 k a (u2 σ 11 g) := rfl
theorem wX7_X7_s12 (k : Nat → ClassId) (a : Nat → Nat) (σ : T2) (g : T1) : (wX7_X7 k a σ).set 12 (a 12, .inl (k 0, 64, .inl g)) = wX7_X7 k a (u2 σ 12 g) := rfl
theorem wX7_X7_s13 (k : Nat → ClassId) (a : Nat → Nat) (σ : T2) (g : T1) : (wX7_X7 k a σ).set 13 (a 13, .inl (k 0, 64, .inl g)) = wX7_X7 k a (u2 σ 13 g) := rfl
theorem wX7_X7_s14 (k : Nat → ClassId) (a : Nat → Nat) (σ : T2) (g : T1) : (wX7_X7 k a σ).set 14 (a 14, .inl (k 0, 64, .inl g)) = wX7_X7 k a (u2 σ 14 g) := rfl
theorem wX7_X7_s15 (k : Nat → ClassId) (a : Nat → Nat) (σ : T2) (g : T1) : (wX7_X7 k a σ).set 15 (a 15, .inr (1, fX1 (fun j => a (15 + j)) g)) = wX7_X7 k a (u2 σ 15 g) := rfl
theorem wX7_X7_s16 (k : Nat → ClassId) (a : Nat → Nat) (σ : T2) (g : T1) : (wX7_X7 k a σ).set 16 (a 16, .inr (8, fX8 (fun j => a (16 + j)) g)) = wX7_X7 k a (u2 σ 16 g) := rfl
theorem wX7_X7_s17 (k : Nat → ClassId) (a : Nat → Nat) (σ : T2) (g : T1) : (wX7_X7 k a σ).set 17 (a 17, .inr (7, fX7 (fun j => a (17 + j)) g)) = wX7_X7 k a (u2 σ 17 g) := rfl
theorem wX7_X7_s18 (k : Nat → ClassId) (a : Nat → Nat) (σ : T2) (g : T1) : (wX7_X7 k a σ).set 18 (a 18, .inl (k 0, 8, .inl g)) = wX7_X7 k a (u2 σ 18 g) := rfl
theorem wX7_X7_s19 (k : Nat → ClassId) (a : Nat → Nat) (σ : T2) (g : T1) : (wX7_X7 k a σ).set 19 (a 19, .inr (5, fX5 (fun j => a (19 + j)) g)) = wX7_X7 k a (u2 σ 19 g) := rfl
theorem wX7_X7_s20 (k : Nat → ClassId) (a : Nat → Nat) (σ : T2) (g : T1) : (wX7_X7 k a σ).set 20 (a 20, .inl (k 0, 64, .inl g)) = wX7_X7 k a (u2 σ 20 g) := rfl
theorem wX7_X7_s21 (k : Nat → ClassId) (a : Nat → Nat) (σ : T2) (g : T1) : (wX7_X7 k a σ).set 21 (a 21, .inl (k 0, 64, .inl g)) = wX7_X7 k a (u2 σ 21 g) := rfl
theorem wX7_X7_s22 (k : Nat → ClassId) (a : Nat → Nat) (σ : T2) (g : T1) : (wX7_X7 k a σ).set 22 (a 22, .inr (2, fX2 (fun j => a (22 + j)) g)) = wX7_X7 k a (u2 σ 22 g) := rfl
theorem wX7_X7_s23 (k : Nat → ClassId) (a : Nat → Nat) (σ : T2) (g : T1) : (wX7_X7 k a σ).set 23 (a 23, .inl (k 0, 64, .inl g)) = wX7_X7 k a (u2 σ 23 g) := rfl
theorem wX7_X7_s24 (k : Nat → ClassId) (a : Nat → Nat) (σ : T2) (g : T1) : (wX7_X7 k a σ).set 24 (a 24, .inl (k 0, 64, .inl g)) = wX7_X7 k a (u2 σ 24 g) := rfl
theorem wX7_X7_s25 (k : Nat → ClassId) (a : Nat → Nat) (σ : T2) (g : T1) : (wX7_X7 k a σ).set 25 (a 25, .inl (k 0, 64, .inl g)) = wX7_X7 k a (u2 σ 25 g) := rfl
theorem wX7_X7_s26 (k : Nat → ClassId) (a : Nat → Nat) (σ : T2) (g : T1) : (wX7_X7 k a σ).set 26 (a 26, .inl (k 0, 64, .inl g)) = wX7_X7 k a (u2 σ 26 g) := rfl
theorem wX7_X7_s27 (k : Nat → ClassId) (a : Nat → Nat) (σ : T2) (g : T1) : (wX7_X7 k a σ).set 27 (a 27, .inr (0, fX0 (fun j => a (27 + j)) g)) = wX7_X7 k a (u2 σ 27 g) := rfl
theorem wX7_X7_s28 (k : Nat → ClassId) (a : Nat → Nat) (σ : T2) (g : T1) : (wX7_X7 k a σ).set 28 (a 28, .inl (k 0, 64, .inl g)) = wX7_X7 k a (u2 σ 28 g) := rfl
theorem wX7_X7_s29 (k : Nat → ClassId) (a : Nat → Nat) (σ : T2) (g : T1) : (wX7_X7 k a σ).set 29 (a 29, .inl (k 0, 64, .inl g)) = wX7_X7 k a (u2 σ 29 g) := rfl
theorem wX7_X7_s30 (k : Nat → ClassId) (a : Nat → Nat) (σ : T2) (g : T1) : (wX7_X7 k a σ).set 30 (a 30, .inl (k 0, 64, .inl g)) = wX7_X7 k a (u2 σ 30 g) := rfl
theorem wX7_X7_s31 (k : Nat → ClassId) (a : Nat → Nat) (σ : T2) (g : T1) : (wX7_X7 k a σ).set 31 (a 31, .inl (k 0, 64, .inl g)) = wX7_X7 k a (u2 σ 31 g) := rfl
theorem wX7_X7_s32 (k : Nat → ClassId) (a : Nat → Nat) (σ : T2) (g : T1) : (wX7_X7 k a σ).set 32 (a 32, .inr (1, fX1 (fun j => a (32 + j)) g)) = wX7_X7 k a (u2 σ 32 g) := rfl
theorem wX7_X7_s33 (k : Nat → ClassId) (a : Nat → Nat) (σ : T2) (g : T1) : (wX7_X7 k a σ).set 33 (a 33, .inr (8, fX8 (fun j => a (33 + j)) g)) = wX7_X7 k a (u2 σ 33 g) := rfl
theorem wX7_X7_fst (k : Nat → ClassId) (a : Nat → Nat) (σ τ : T2) : (wX7_X7 k a τ).map Prod.fst = (wX7_X7 k a σ).map Prod.fst := rfl
theorem wX7_X7_rec (k : Nat → ClassId) (a : Nat → Nat) (σ : T2) : (wX7_X7 k a σ)[0]? = some (a 0, .inr (7, fX7 a (σ 0))) := rfl
theorem wX7_X8_16_pl (k : Nat → ClassId) (a : Nat → Nat) (σ : T2) : ([16] : List Nat).map (fun i => (wX7 k a σ)[i]?) = (wX8 k (fun j => a (16 + j)) (fun j => σ (16 + j))).map some := rfl
theorem wX7_X8_16_pt (k : Nat → ClassId) (a : Nat → Nat) (σ τ : T2) : q_put (wX7 k a σ) [16] (wX8 k (fun j => a (16 + j)) τ) = wX7 k a (sb σ 16 1 τ) := rfl
theorem wX7_X1_15_pl (k : Nat → ClassId) (a : Nat → Nat) (σ : T2) : ([15] : List Nat).map (fun i => (wX7 k a σ)[i]?) = (wX1 k (fun j => a (15 + j)) (fun j => σ (15 + j))).map some := rfl
theorem wX7_X1_15_pt (k : Nat → ClassId) (a : Nat → Nat) (σ τ : T2) : q_put (wX7 k a σ) [15] (wX1 k (fun j => a (15 + j)) τ) = wX7 k a (sb σ 15 1 τ) := rfl
theorem wX7_X7_X5_X5_2_19_pl (k : Nat → ClassId) (a : Nat → Nat) (σ : T2) : ([2, 3, 4, 19, 20, 21] : List Nat).map (fun i => (wX7_X7 k a σ)[i]?) = (wX5_X5 k (sel a 2 3 19) (sel σ 2 3 19)).map some := rfl
theorem wX7_X7_X5_X5_2_19_pt (k : Nat → ClassId) (a : Nat → Nat) (σ τ : T2) : q_put (wX7_X7 k a σ) [2, 3, 4, 19, 20, 21] (wX5_X5 k (sel a 2 3 19) τ) = wX7_X7 k a (sb2 σ 2 3 19 3 τ) := rfl
theorem wX7_X7_X2_X2_5_22_pl (k : Nat → ClassId) (a : Nat → Nat) (σ : T2) : ([5, 6, 7, 8, 9, 22, 23, 24, 25, 26] : List Nat).map (fun i => (wX7_X7 k a σ)[i]?) = (wX2_X2 k (sel a 5 5 22) (sel σ 5 5 22)).map some := rfl
theorem wX7_X7_X2_X2_5_22_pt (k : Nat → ClassId) (a : Nat → Nat) (σ τ : T2) : q_put (wX7_X7 k a σ) [5, 6, 7, 8, 9, 22, 23, 24, 25, 26] (wX2_X2 k (sel a 5 5 22) τ) = wX7_X7 k a (sb2 σ 5 5 22 5 τ) := rfl
theorem wX7_X7_X0_X0_10_27_pl (k : Nat → ClassId) (a : Nat → Nat) (σ : T2) : ([10, 11, 12, 13, 14, 27, 28, 29, 30, 31] : List Nat).map (fun i => (wX7_X7 k a σ)[i]?) = (wX0_X0 k (sel a 10 5 27) (sel σ 10 5 27)).map some := rfl
theorem wX7_X7_X0_X0_10_27_pt (k : Nat → ClassId) (a : Nat → Nat) (σ τ : T2) : q_put (wX7_X7 k a σ) [10, 11, 12, 13, 14, 27, 28, 29, 30, 31] (wX0_X0 k (sel a 10 5 27) τ) = wX7_X7 k a (sb2 σ 10 5 27 5 τ) := rfl
theorem wX7_X7_X1_X1_15_32_pl (k : Nat → ClassId) (a : Nat → Nat) (σ : T2) : ([15, 32] : List Nat).map (fun i => (wX7_X7 k a σ)[i]?) = (wX1_X1 k (sel a 15 1 32) (sel σ 15 1 32)).map some := rfl
theorem wX7_X7_X1_X1_15_32_pt (k : Nat → ClassId) (a : Nat → Nat) (σ τ : T2) : q_put (wX7_X7 k a σ) [15, 32] (wX1_X1 k (sel a 15 1 32) τ) = wX7_X7 k a (sb2 σ 15 1 32 1 τ) := rfl
theorem wX7_X7_X8_X8_16_33_pl (k : Nat → ClassId) (a : Nat → Nat) (σ : T2) : ([16, 33] : List Nat).map (fun i => (wX7_X7 k a σ)[i]?) = (wX8_X8 k (sel a 16 1 33) (sel σ 16 1 33)).map some := rfl
theorem wX7_X7_X8_X8_16_33_pt (k : Nat → ClassId) (a : Nat → Nat) (σ τ : T2) : q_put (wX7_X7 k a σ) [16, 33] (wX8_X8 k (sel a 16 1 33) τ) = wX7_X7 k a (sb2 σ 16 1 33 1 τ) := rfl
theorem wX7_X0_10_pl (k : Nat → ClassId) (a : Nat → Nat) (σ : T2) : ([10, 11, 12, 13, 14] : List Nat).map (fun i => (wX7 k a σ)[i]?) = (wX0 k (fun j => a (10 + j)) (fun j => σ (10 + j))).map some := rfl
theorem wX7_X0_10_pt (k : Nat → ClassId) (a : Nat → Nat) (σ τ : T2) : q_put (wX7 k a σ) [10, 11, 12, 13, 14] (wX0 k (fun j => a (10 + j)) τ) = wX7 k a (sb σ 10 5 τ) := rfl
theorem wX7_X5_2_pl (k : Nat → ClassId) (a : Nat → Nat) (σ : T2) : ([2, 3, 4] : List Nat).map (fun i => (wX7 k a σ)[i]?) = (wX5 k (fun j => a (2 + j)) (fun j => σ (2 + j))).map some := rfl
theorem wX7_X5_2_pt (k : Nat → ClassId) (a : Nat → Nat) (σ τ : T2) : q_put (wX7 k a σ) [2, 3, 4] (wX5 k (fun j => a (2 + j)) τ) = wX7 k a (sb σ 2 3 τ) := rfl
theorem wX7_X2_5_pl (k : Nat → ClassId) (a : Nat → Nat) (σ : T2) : ([5, 6, 7, 8, 9] : List Nat).map (fun i => (wX7 k a σ)[i]?) = (wX2 k (fun j => a (5 + j)) (fun j => σ (5 + j))).map some := rfl
theorem wX7_X2_5_pt (k : Nat → ClassId) (a : Nat → Nat) (σ τ : T2) : q_put (wX7 k a σ) [5, 6, 7, 8, 9] (wX2 k (fun j => a (5 + j)) τ) = wX7 k a (sb σ 5 5 τ) := rfl
theorem vi_0_8 : vp_in 0 8 := by unfold vp_in; decide
theorem vi_1_8 : vp_in 1 8 := by unfold vp_in; decide
theorem vi_2_8 : vp_in 2 8 := by unfold vp_in; decide
theorem vi_3_8 : vp_in 3 8 := by unfold vp_in; decide
theorem vi_4_8 : vp_in 4 8 := by unfold vp_in; decide
theorem vi_5_8 : vp_in 5 8 := by unfold vp_in; decide
theorem vi_6_8 : vp_in 6 8 := by unfold vp_in; decide
theorem vi_7_8 : vp_in 7 8 := by unfold vp_in; decide
theorem hin_X7_firstPeriod_X7 : ∀ w ∈ u_ws RX7 TX7 7, w ∈ wsX7_firstPeriod := by decide +kernel
theorem hd_X7_firstPeriod : yX7_firstPeriod.cls = RX7 ∧ yX7_firstPeriod.cls ≠ "java/lang/invoke/MethodHandle" ∧ yX7_firstPeriod.cls ≠ "java/lang/invoke/VarHandle" ∧ (parseMethodDescriptor yX7_firstPeriod.desc).map (fun d => d.parameters.length) = some 0 := by decide +kernel
noncomputable def P_X7_firstPeriod_b0 (σ : T2) : Int32 := (4 : Int32) * (σ 1 0)
def S_X7_firstPeriod_b0 (σ : T2) : Prop := True
theorem P_X7_firstPeriod_b0_e (σ : T2) : P_X7_firstPeriod_b0 σ = (4 : Int32) * (σ 1 0) := rfl
theorem S_X7_firstPeriod_b0_e (σ : T2) : S_X7_firstPeriod_b0 σ = (True) := rfl
noncomputable def P_X7_firstPeriod (σ : T2) : Int32 := P_X7_firstPeriod_b0 σ
def S_X7_firstPeriod (σ : T2) : Prop := S_X7_firstPeriod_b0 σ
set_option maxHeartbeats 400000 in
set_option maxRecDepth 100000 in
theorem b_X7_firstPeriod_b0 {p : Program} {e : Env} {s : State} {m : MethodId} {args : Array Value} {below : List Frame} {meth : Method} {c : Code} (l : Launch) (D : va_G) (k : Nat → ClassId) (a : Nat → Nat) (A : Nat → Prop) (C0 : q_C p s m meth c args RX7 cX7_firstPeriod 1 (some .int) wsX7_firstPeriod D (tyL k) A) (R : Int32) : ∀ (σ : T2), S_X7_firstPeriod_b0 σ → P_X7_firstPeriod_b0 σ = R → ∀ (H : Heap) (locs : List Loc) (ls : Array Slot), q_W D A s.heap (wX7 k a σ) s.heap [] → lv_has ls 1 [(0, .ref (a 0))] → W p l e { frames := 0, cells := 0, slots := 0, locals := 0 } s m args below meth c s.heap [] 0 0 (MQ below (vp_Si (fun r => r = R)) args s 0 0 (fun _ => False)) (F0 m 0 ls []) := by
  intro σ hs hR H locs ls hW hl
  rw [P_X7_firstPeriod_b0_e] at hR
  rw [S_X7_firstPeriod_b0_e] at hs
  obtain ⟨hx, hb, hr, hml, hts, hown, hlocks, hK, hA⟩ := id C0
  have hf9 := hts (.fieldLink RX7 9 "BeatFollower$Scene" "settings" "[I") (by decide +kernel)
  have hinX7 : ∀ w ∈ u_ws RX7 TX7 7, w ∈ wsX7_firstPeriod := hin_X7_firstPeriod_X7
  refine lv_iconst (v := (4 : Int32)) hx hb dX7_firstPeriod_0 (by decide) ?_
  refine lv_aload_n hx hb dX7_firstPeriod_1 rfl (lv_at hl 0 rfl) ?_
  refine va_get (v := .ref (a 1)) (C := RX7) (T := TX7) (N := 7) hx hb hts hinX7 hown hK hW.1 0 rfl rfl 0 (by decide) hf9 (fun _ h9 => h9) rfl dX7_firstPeriod_2 ?_
  refine lv_iconst (v := (0 : Int32)) hx hb dX7_firstPeriod_5 (by decide) ?_
  refine q_iald (v := σ 1 0) C0 hW 1 rfl rfl vi_0_8 cl_0 rfl dX7_firstPeriod_6 ?_
  refine lv_imul hx hb dX7_firstPeriod_7 ?_
  exact q_iretr C0 hR dX7_firstPeriod_8
set_option maxHeartbeats 400000 in
set_option maxRecDepth 100000 in
theorem m_X7_firstPeriod (l : Launch) (D : va_G) (k : Nat → ClassId) (a : Nat → Nat) (sz : Nat) (σ : T2) (hs : S_X7_firstPeriod σ) : Met l yX7_firstPeriod wsX7_firstPeriod { frames := 0, cells := 0, slots := 0, locals := 0 } (va_Pc [.ref (a 0)] (q_B D (tyL k) (wX7 k a σ) sz)) (vp_Si (fun r => r = P_X7_firstPeriod σ)) 0 0 (fun _ => False) := by
  refine q_met [.ref (a 0)] (wX7 k a σ) sz (cc := cX7_firstPeriod) (maxL := 1) (ret := (some .int)) (by decide) rfl (Nat.le_of_ble_eq_true rfl) ?_
  intro p e s m args below meth c ls hsz C0 hW hl hin
  subst hsz
  exact b_X7_firstPeriod_b0 l D k a _ C0 _ σ  hs rfl s.heap [] ls hW (lv_sub hl [0] rfl)
theorem hin_X7_begin_X0 : ∀ w ∈ u_ws RX0 TX0 5, w ∈ wsX7_begin := by decide +kernel
theorem hin_X7_begin_X7 : ∀ w ∈ u_ws RX7 TX7 7, w ∈ wsX7_begin := by decide +kernel
theorem hd_X7_begin : yX7_begin.cls = RX7 ∧ yX7_begin.cls ≠ "java/lang/invoke/MethodHandle" ∧ yX7_begin.cls ≠ "java/lang/invoke/VarHandle" ∧ (parseMethodDescriptor yX7_begin.desc).map (fun d => d.parameters.length) = some 0 := by decide +kernel
noncomputable def P_X7_begin_b20c (σ : T2) : T2 := sb σ 15 1 (P_X1_begin (fun j => σ (15 + j)) (P_X7_firstPeriod σ))
def S_X7_begin_b20c (σ : T2) : Prop := (S_X7_firstPeriod σ ) ∧ ((S_X1_begin (fun j => σ (15 + j)) (P_X7_firstPeriod σ)) ∧ (True))
theorem P_X7_begin_b20c_e (σ : T2) : P_X7_begin_b20c σ = sb σ 15 1 (P_X1_begin (fun j => σ (15 + j)) (P_X7_firstPeriod σ)) := rfl
theorem S_X7_begin_b20c_e (σ : T2) : S_X7_begin_b20c σ = ((S_X7_firstPeriod σ ) ∧ ((S_X1_begin (fun j => σ (15 + j)) (P_X7_firstPeriod σ)) ∧ (True))) := rfl
noncomputable def P_X7_begin_b0 (σ : T2) : T2 := P_X7_begin_b20c (sb (u2 (u2 σ 0 (upd (σ 0) 6 (0 : Int32))) 10 (upd (σ 10) 4 (0 : Int32))) 16 1 (P_X8_clear (fun j => (u2 (u2 σ 0 (upd (σ 0) 6 (0 : Int32))) 10 (upd (σ 10) 4 (0 : Int32))) (16 + j))))
def S_X7_begin_b0 (σ : T2) : Prop := (S_X8_clear (fun j => (u2 (u2 σ 0 (upd (σ 0) 6 (0 : Int32))) 10 (upd (σ 10) 4 (0 : Int32))) (16 + j)) ) ∧ (S_X7_begin_b20c (sb (u2 (u2 σ 0 (upd (σ 0) 6 (0 : Int32))) 10 (upd (σ 10) 4 (0 : Int32))) 16 1 (P_X8_clear (fun j => (u2 (u2 σ 0 (upd (σ 0) 6 (0 : Int32))) 10 (upd (σ 10) 4 (0 : Int32))) (16 + j)))))
theorem P_X7_begin_b0_e (σ : T2) : P_X7_begin_b0 σ = P_X7_begin_b20c (sb (u2 (u2 σ 0 (upd (σ 0) 6 (0 : Int32))) 10 (upd (σ 10) 4 (0 : Int32))) 16 1 (P_X8_clear (fun j => (u2 (u2 σ 0 (upd (σ 0) 6 (0 : Int32))) 10 (upd (σ 10) 4 (0 : Int32))) (16 + j)))) := rfl
theorem S_X7_begin_b0_e (σ : T2) : S_X7_begin_b0 σ = ((S_X8_clear (fun j => (u2 (u2 σ 0 (upd (σ 0) 6 (0 : Int32))) 10 (upd (σ 10) 4 (0 : Int32))) (16 + j)) ) ∧ (S_X7_begin_b20c (sb (u2 (u2 σ 0 (upd (σ 0) 6 (0 : Int32))) 10 (upd (σ 10) 4 (0 : Int32))) 16 1 (P_X8_clear (fun j => (u2 (u2 σ 0 (upd (σ 0) 6 (0 : Int32))) 10 (upd (σ 10) 4 (0 : Int32))) (16 + j)))))) := rfl
noncomputable def P_X7_begin (σ : T2) : T2 := P_X7_begin_b0 σ
def S_X7_begin (σ : T2) : Prop := S_X7_begin_b0 σ
set_option maxHeartbeats 400000 in
set_option maxRecDepth 100000 in
theorem b_X7_begin_b20c {p : Program} {e : Env} {s : State} {m : MethodId} {args : Array Value} {below : List Frame} {meth : Method} {c : Code} (l : Launch) (D : va_G) (k : Nat → ClassId) (a : Nat → Nat) (A : Nat → Prop) (C0 : q_C p s m meth c args RX7 cX7_begin 1 none wsX7_begin D (tyL k) A) (R : T2) : ∀ (σ : T2), S_X7_begin_b20c σ → P_X7_begin_b20c σ = R → ∀ (H : Heap) (locs : List Loc) (ls : Array Slot), q_W D A s.heap (wX7 k a σ) H locs → lv_has ls 1 [(0, .ref (a 0))] → W p l e { frames := 1, cells := 0, slots := 0, locals := 21 } s m args below meth c H locs 0 0 (MQ below (va_Qv (fun u => u = R) (fun u => q_E D (tyL k) A (wX7 k a u)) A) args s 0 0 A) (F0 m 20 ls []) := by
  intro σ hs hR H locs ls hW hl
  rw [P_X7_begin_b20c_e] at hR
  rw [S_X7_begin_b20c_e] at hs
  obtain ⟨hx, hb, hr, hml, hts, hown, hlocks, hK, hA⟩ := id C0
  have hf39 := hts (.fieldLink RX7 39 "BeatFollower$Scene" "drummer" "LBeatFollower$Drummer;") (by decide +kernel)
  have hinX7 : ∀ w ∈ u_ws RX7 TX7 7, w ∈ wsX7_begin := hin_X7_begin_X7
  refine lv_aload_n hx hb dX7_begin_20 rfl (lv_at hl 0 rfl) ?_
  refine va_get (v := .ref (a 15)) (C := RX7) (T := TX7) (N := 7) hx hb hts hinX7 hown hK hW.1 0 rfl rfl 4 (by decide) hf39 (fun _ h9 => h9) rfl dX7_begin_21 ?_
  refine lv_aload_n hx hb dX7_begin_24 rfl (lv_at hl 0 rfl) ?_
  have hs2 := hs.1
  have hs := hs.2
  refine q_Vi (As := []) (rest := [.ref (a 15)]) (R := P_X7_firstPeriod σ) [0, 1, 2, 3, 4, 5, 6, 7, 8, 9, 10, 11, 12, 13, 14, 15, 16] [0, 1, 2, 3] 0 7 C0 hW (m_X7_firstPeriod l D k a _ σ  hs2) (cwV 0 hts gX7_begin_X7_firstPeriod rfl rfl rfl hd_X7_firstPeriod ⟨Nat.le_of_ble_eq_true rfl, Nat.le_of_ble_eq_true rfl⟩) (by decide) (wX7_pl k a _) rfl (wX7_rec k a _) rfl hl rfl rfl (Nat.le_of_ble_eq_true rfl) dX7_begin_25 ⟨Nat.le_refl 0, Nat.le_refl 0⟩ ?_
  have hs3 := hs.1
  have hs := hs.2
  refine q_Vv (As := [.int (P_X7_firstPeriod σ)]) (rest := []) (wf := wX1 k (fun j => a (15 + j))) (R := P_X1_begin (fun j => σ (15 + j)) (P_X7_firstPeriod σ)) (wd' := wX7 k a (sb σ 15 1 (P_X1_begin (fun j => σ (15 + j)) (P_X7_firstPeriod σ)))) [15] [0, 1, 2, 3] 15 1 C0 hW (m_X1_begin l D k (fun j => a (15 + j)) H.size (fun j => σ (15 + j)) (P_X7_firstPeriod σ) hs3) (cwV 1 hts gX7_begin_X1_begin rfl rfl rfl hd_X1_begin ⟨Nat.le_of_ble_eq_true rfl, Nat.le_of_ble_eq_true rfl⟩) (by decide) (wX7_X1_15_pl k a _) rfl rfl rfl (wX1_fst k _ _ _) (wX7_X1_15_pt k a _ _) hl rfl rfl (Nat.le_of_ble_eq_true rfl) dX7_begin_28 ⟨Nat.le_refl 0, Nat.le_refl 0⟩ (fun H locs hW => ?_)
  exact q_vret C0 hW hR dX7_begin_31
set_option maxHeartbeats 400000 in
set_option maxRecDepth 100000 in
theorem b_X7_begin_b0 {p : Program} {e : Env} {s : State} {m : MethodId} {args : Array Value} {below : List Frame} {meth : Method} {c : Code} (l : Launch) (D : va_G) (k : Nat → ClassId) (a : Nat → Nat) (A : Nat → Prop) (C0 : q_C p s m meth c args RX7 cX7_begin 1 none wsX7_begin D (tyL k) A) (R : T2) : ∀ (σ : T2), S_X7_begin_b0 σ → P_X7_begin_b0 σ = R → ∀ (H : Heap) (locs : List Loc) (ls : Array Slot), q_W D A s.heap (wX7 k a σ) H locs → lv_has ls 1 [(0, .ref (a 0))] → W p l e { frames := 1, cells := 0, slots := 0, locals := 21 } s m args below meth c H locs 0 0 (MQ below (va_Qv (fun u => u = R) (fun u => q_E D (tyL k) A (wX7 k a u)) A) args s 0 0 A) (F0 m 0 ls []) := by
  intro σ hs hR H locs ls hW hl
  rw [P_X7_begin_b0_e] at hR
  rw [S_X7_begin_b0_e] at hs
  obtain ⟨hx, hb, hr, hml, hts, hown, hlocks, hK, hA⟩ := id C0
  have hf32 := hts (.fieldLink RX7 32 "BeatFollower$Scene" "blows" "LBeatFollower$Blows;") (by decide +kernel)
  have hf46 := hts (.fieldLink RX7 46 "BeatFollower$Scene" "tally" "LBeatFollower$Tally;") (by decide +kernel)
  have hf62 := hts (.fieldLink RX7 62 "BeatFollower$Scene" "time" "I") (by decide +kernel)
  have hf66 := hts (.fieldLink RX7 66 "BeatFollower$Blows" "many" "I") (by decide +kernel)
  have hinX0 : ∀ w ∈ u_ws RX0 TX0 5, w ∈ wsX7_begin := hin_X7_begin_X0
  have hinX7 : ∀ w ∈ u_ws RX7 TX7 7, w ∈ wsX7_begin := hin_X7_begin_X7
  refine lv_aload_n hx hb dX7_begin_0 rfl (lv_at hl 0 rfl) ?_
  refine lv_iconst (v := (0 : Int32)) hx hb dX7_begin_1 (by decide) ?_
  refine q_putf (ty := .int) (wd' := wX7 k a (u2 σ 0 (upd (σ 0) 6 (0 : Int32)))) C0 hW hinX7 tyX7 tyX7_ok nmX7 0 rfl rfl 6 (by decide) hf62 rfl (by decide +kernel) rfl rfl (Nat.le_of_ble_eq_true rfl) dX7_begin_2 (fX7_s6 _ _ _) (wX7_s0 k a _ _) (fun H locs hW => ?_)
  refine lv_aload_n hx hb dX7_begin_5 rfl (lv_at hl 0 rfl) ?_
  refine va_get (v := .ref (a 10)) (C := RX7) (T := TX7) (N := 7) hx hb hts hinX7 hown hK hW.1 0 rfl rfl 3 (by decide) hf32 (fun _ h9 => h9) rfl dX7_begin_6 ?_
  refine lv_iconst (v := (0 : Int32)) hx hb dX7_begin_9 (by decide) ?_
  refine q_putf (ty := .int) (wd' := wX7 k a (u2 (u2 σ 0 (upd (σ 0) 6 (0 : Int32))) 10 (upd (σ 10) 4 (0 : Int32)))) C0 hW hinX0 tyX0 tyX0_ok nmX0 10 rfl rfl 4 (by decide) hf66 rfl (by decide +kernel) rfl rfl (Nat.le_of_ble_eq_true rfl) dX7_begin_10 (fX0_s4 _ _ _) (wX7_s10 k a _ _) (fun H locs hW => ?_)
  refine lv_aload_n hx hb dX7_begin_13 rfl (lv_at hl 0 rfl) ?_
  refine va_get (v := .ref (a 16)) (C := RX7) (T := TX7) (N := 7) hx hb hts hinX7 hown hK hW.1 0 rfl rfl 5 (by decide) hf46 (fun _ h9 => h9) rfl dX7_begin_14 ?_
  have hs1 := hs.1
  have hs := hs.2
  refine q_Vv (As := []) (rest := []) (wf := wX8 k (fun j => a (16 + j))) (R := P_X8_clear (fun j => (u2 (u2 σ 0 (upd (σ 0) 6 (0 : Int32))) 10 (upd (σ 10) 4 (0 : Int32))) (16 + j))) (wd' := wX7 k a (sb (u2 (u2 σ 0 (upd (σ 0) 6 (0 : Int32))) 10 (upd (σ 10) 4 (0 : Int32))) 16 1 (P_X8_clear (fun j => (u2 (u2 σ 0 (upd (σ 0) 6 (0 : Int32))) 10 (upd (σ 10) 4 (0 : Int32))) (16 + j))))) [16] [0, 1, 2, 3] 16 8 C0 hW (m_X8_clear l D k (fun j => a (16 + j)) H.size (fun j => (u2 (u2 σ 0 (upd (σ 0) 6 (0 : Int32))) 10 (upd (σ 10) 4 (0 : Int32))) (16 + j))  hs1) (cwV 0 hts gX7_begin_X8_clear rfl rfl rfl hd_X8_clear ⟨Nat.le_of_ble_eq_true rfl, Nat.le_of_ble_eq_true rfl⟩) (by decide) (wX7_X8_16_pl k a _) rfl rfl rfl (wX8_fst k _ _ _) (wX7_X8_16_pt k a _ _) hl rfl rfl (Nat.le_of_ble_eq_true rfl) dX7_begin_17 ⟨Nat.le_refl 0, Nat.le_refl 0⟩ (fun H locs hW => ?_)
  exact b_X7_begin_b20c l D k a A C0 R (sb (u2 (u2 σ 0 (upd (σ 0) 6 (0 : Int32))) 10 (upd (σ 10) 4 (0 : Int32))) 16 1 (P_X8_clear (fun j => (u2 (u2 σ 0 (upd (σ 0) 6 (0 : Int32))) 10 (upd (σ 10) 4 (0 : Int32))) (16 + j)))) hs hR H locs ls hW (lv_sub hl [0] rfl)
set_option maxHeartbeats 400000 in
set_option maxRecDepth 100000 in
theorem m_X7_begin (l : Launch) (D : va_G) (k : Nat → ClassId) (a : Nat → Nat) (sz : Nat) (σ : T2) (hs : S_X7_begin σ) : Met l yX7_begin wsX7_begin { frames := 1, cells := 0, slots := 0, locals := 21 } (va_Pc [.ref (a 0)] (q_B D (tyL k) (wX7 k a σ) sz)) (va_Qv (fun u => u = P_X7_begin σ) (fun u => q_E D (tyL k) (va_A (wX7 k a σ) sz) (wX7 k a u)) (va_A (wX7 k a σ) sz)) 0 0 (va_A (wX7 k a σ) sz) := by
  refine q_met [.ref (a 0)] (wX7 k a σ) sz (cc := cX7_begin) (maxL := 1) (ret := none) (by decide) rfl (Nat.le_of_ble_eq_true rfl) ?_
  intro p e s m args below meth c ls hsz C0 hW hl hin
  subst hsz
  exact b_X7_begin_b0 l D k a _ C0 _ σ  hs rfl s.heap [] ls hW (lv_sub hl [0] rfl)
theorem hin_X7_copyFrom_X7 : ∀ w ∈ u_ws RX7 TX7 7, w ∈ wsX7_copyFrom := by decide +kernel
theorem hd_X7_copyFrom : yX7_copyFrom.cls = RX7 ∧ yX7_copyFrom.cls ≠ "java/lang/invoke/MethodHandle" ∧ yX7_copyFrom.cls ≠ "java/lang/invoke/VarHandle" ∧ (parseMethodDescriptor yX7_copyFrom.desc).map (fun d => d.parameters.length) = some 1 := by decide +kernel
noncomputable def P_X7_copyFrom_b70c (σ : T2) : T2 := u2 σ 0 (upd (σ 0) 6 (σ 17 6))
def S_X7_copyFrom_b70c (σ : T2) : Prop := True
theorem P_X7_copyFrom_b70c_e (σ : T2) : P_X7_copyFrom_b70c σ = u2 σ 0 (upd (σ 0) 6 (σ 17 6)) := rfl
theorem S_X7_copyFrom_b70c_e (σ : T2) : S_X7_copyFrom_b70c σ = (True) := rfl
noncomputable def P_X7_copyFrom_b59c (σ : T2) : T2 := P_X7_copyFrom_b70c (sb2 σ 16 1 33 1 (P_X8_copyFrom (sel σ 16 1 33)))
def S_X7_copyFrom_b59c (σ : T2) : Prop := (S_X8_copyFrom (sel σ 16 1 33) ) ∧ (S_X7_copyFrom_b70c (sb2 σ 16 1 33 1 (P_X8_copyFrom (sel σ 16 1 33))))
theorem P_X7_copyFrom_b59c_e (σ : T2) : P_X7_copyFrom_b59c σ = P_X7_copyFrom_b70c (sb2 σ 16 1 33 1 (P_X8_copyFrom (sel σ 16 1 33))) := rfl
theorem S_X7_copyFrom_b59c_e (σ : T2) : S_X7_copyFrom_b59c σ = ((S_X8_copyFrom (sel σ 16 1 33) ) ∧ (S_X7_copyFrom_b70c (sb2 σ 16 1 33 1 (P_X8_copyFrom (sel σ 16 1 33))))) := rfl
noncomputable def P_X7_copyFrom_b48c (σ : T2) : T2 := P_X7_copyFrom_b59c (sb2 σ 15 1 32 1 (P_X1_copyFrom (sel σ 15 1 32)))
def S_X7_copyFrom_b48c (σ : T2) : Prop := (S_X1_copyFrom (sel σ 15 1 32) ) ∧ (S_X7_copyFrom_b59c (sb2 σ 15 1 32 1 (P_X1_copyFrom (sel σ 15 1 32))))
theorem P_X7_copyFrom_b48c_e (σ : T2) : P_X7_copyFrom_b48c σ = P_X7_copyFrom_b59c (sb2 σ 15 1 32 1 (P_X1_copyFrom (sel σ 15 1 32))) := rfl
theorem S_X7_copyFrom_b48c_e (σ : T2) : S_X7_copyFrom_b48c σ = ((S_X1_copyFrom (sel σ 15 1 32) ) ∧ (S_X7_copyFrom_b59c (sb2 σ 15 1 32 1 (P_X1_copyFrom (sel σ 15 1 32))))) := rfl
noncomputable def P_X7_copyFrom_b37c (σ : T2) : T2 := P_X7_copyFrom_b48c (sb2 σ 10 5 27 5 (P_X0_copyFrom (sel σ 10 5 27)))
def S_X7_copyFrom_b37c (σ : T2) : Prop := (S_X0_copyFrom (sel σ 10 5 27) ) ∧ (S_X7_copyFrom_b48c (sb2 σ 10 5 27 5 (P_X0_copyFrom (sel σ 10 5 27))))
theorem P_X7_copyFrom_b37c_e (σ : T2) : P_X7_copyFrom_b37c σ = P_X7_copyFrom_b48c (sb2 σ 10 5 27 5 (P_X0_copyFrom (sel σ 10 5 27))) := rfl
theorem S_X7_copyFrom_b37c_e (σ : T2) : S_X7_copyFrom_b37c σ = ((S_X0_copyFrom (sel σ 10 5 27) ) ∧ (S_X7_copyFrom_b48c (sb2 σ 10 5 27 5 (P_X0_copyFrom (sel σ 10 5 27))))) := rfl
noncomputable def P_X7_copyFrom_b26c (σ : T2) : T2 := P_X7_copyFrom_b37c (sb2 σ 5 5 22 5 (P_X2_copyFrom (sel σ 5 5 22)))
def S_X7_copyFrom_b26c (σ : T2) : Prop := (S_X2_copyFrom (sel σ 5 5 22) ) ∧ (S_X7_copyFrom_b37c (sb2 σ 5 5 22 5 (P_X2_copyFrom (sel σ 5 5 22))))
theorem P_X7_copyFrom_b26c_e (σ : T2) : P_X7_copyFrom_b26c σ = P_X7_copyFrom_b37c (sb2 σ 5 5 22 5 (P_X2_copyFrom (sel σ 5 5 22))) := rfl
theorem S_X7_copyFrom_b26c_e (σ : T2) : S_X7_copyFrom_b26c σ = ((S_X2_copyFrom (sel σ 5 5 22) ) ∧ (S_X7_copyFrom_b37c (sb2 σ 5 5 22 5 (P_X2_copyFrom (sel σ 5 5 22))))) := rfl
noncomputable def P_X7_copyFrom_b0 (σ : T2) : T2 := P_X7_copyFrom_b26c (sb2 (u2 σ 1 (va_cpy (σ 18) (σ 1) 0 0 8)) 2 3 19 3 (P_X5_copyFrom (sel (u2 σ 1 (va_cpy (σ 18) (σ 1) 0 0 8)) 2 3 19)))
def S_X7_copyFrom_b0 (σ : T2) : Prop := (S_X5_copyFrom (sel (u2 σ 1 (va_cpy (σ 18) (σ 1) 0 0 8)) 2 3 19) ) ∧ (S_X7_copyFrom_b26c (sb2 (u2 σ 1 (va_cpy (σ 18) (σ 1) 0 0 8)) 2 3 19 3 (P_X5_copyFrom (sel (u2 σ 1 (va_cpy (σ 18) (σ 1) 0 0 8)) 2 3 19))))
theorem P_X7_copyFrom_b0_e (σ : T2) : P_X7_copyFrom_b0 σ = P_X7_copyFrom_b26c (sb2 (u2 σ 1 (va_cpy (σ 18) (σ 1) 0 0 8)) 2 3 19 3 (P_X5_copyFrom (sel (u2 σ 1 (va_cpy (σ 18) (σ 1) 0 0 8)) 2 3 19))) := rfl
theorem S_X7_copyFrom_b0_e (σ : T2) : S_X7_copyFrom_b0 σ = ((S_X5_copyFrom (sel (u2 σ 1 (va_cpy (σ 18) (σ 1) 0 0 8)) 2 3 19) ) ∧ (S_X7_copyFrom_b26c (sb2 (u2 σ 1 (va_cpy (σ 18) (σ 1) 0 0 8)) 2 3 19 3 (P_X5_copyFrom (sel (u2 σ 1 (va_cpy (σ 18) (σ 1) 0 0 8)) 2 3 19))))) := rfl
noncomputable def P_X7_copyFrom (σ : T2) : T2 := P_X7_copyFrom_b0 σ
def S_X7_copyFrom (σ : T2) : Prop := S_X7_copyFrom_b0 σ
set_option maxHeartbeats 400000 in
set_option maxRecDepth 100000 in
theorem b_X7_copyFrom_b70c {p : Program} {e : Env} {s : State} {m : MethodId} {args : Array Value} {below : List Frame} {meth : Method} {c : Code} (l : Launch) (D : va_G) (k : Nat → ClassId) (a : Nat → Nat) (A : Nat → Prop) (C0 : q_C p s m meth c args RX7 cX7_copyFrom 2 none wsX7_copyFrom D (tyL k) A) (R : T2) : ∀ (σ : T2), S_X7_copyFrom_b70c σ → P_X7_copyFrom_b70c σ = R → ∀ (H : Heap) (locs : List Loc) (ls : Array Slot), q_W D A s.heap (wX7_X7 k a σ) H locs → lv_has ls 2 [(0, .ref (a 0)), (1, .ref (a 17))] → W p l e { frames := 2, cells := 0, slots := 0, locals := 61 } s m args below meth c H locs 0 0 (MQ below (va_Qv (fun u => u = R) (fun u => q_E D (tyL k) A (wX7_X7 k a u)) A) args s 0 0 A) (F0 m 70 ls []) := by
  intro σ hs hR H locs ls hW hl
  rw [P_X7_copyFrom_b70c_e] at hR
  rw [S_X7_copyFrom_b70c_e] at hs
  obtain ⟨hx, hb, hr, hml, hts, hown, hlocks, hK, hA⟩ := id C0
  have hf62 := hts (.fieldLink RX7 62 "BeatFollower$Scene" "time" "I") (by decide +kernel)
  have hinX7 : ∀ w ∈ u_ws RX7 TX7 7, w ∈ wsX7_copyFrom := hin_X7_copyFrom_X7
  refine lv_aload_n hx hb dX7_copyFrom_70 rfl (lv_at hl 0 rfl) ?_
  refine lv_aload_n hx hb dX7_copyFrom_71 rfl (lv_at hl 1 rfl) ?_
  refine va_get (v := .int (σ 17 6)) (C := RX7) (T := TX7) (N := 7) hx hb hts hinX7 hown hK hW.1 17 rfl rfl 6 (by decide) hf62 (fun _ h9 => h9) rfl dX7_copyFrom_72 ?_
  refine q_putf (ty := .int) (wd' := wX7_X7 k a (u2 σ 0 (upd (σ 0) 6 (σ 17 6)))) C0 hW hinX7 tyX7 tyX7_ok nmX7 0 rfl rfl 6 (by decide) hf62 rfl (by decide +kernel) rfl rfl (Nat.le_of_ble_eq_true rfl) dX7_copyFrom_75 (fX7_s6 _ _ _) (wX7_X7_s0 k a _ _) (fun H locs hW => ?_)
  exact q_vret C0 hW hR dX7_copyFrom_78
set_option maxHeartbeats 400000 in
set_option maxRecDepth 100000 in
theorem b_X7_copyFrom_b59c {p : Program} {e : Env} {s : State} {m : MethodId} {args : Array Value} {below : List Frame} {meth : Method} {c : Code} (l : Launch) (D : va_G) (k : Nat → ClassId) (a : Nat → Nat) (A : Nat → Prop) (C0 : q_C p s m meth c args RX7 cX7_copyFrom 2 none wsX7_copyFrom D (tyL k) A) (R : T2) : ∀ (σ : T2), S_X7_copyFrom_b59c σ → P_X7_copyFrom_b59c σ = R → ∀ (H : Heap) (locs : List Loc) (ls : Array Slot), q_W D A s.heap (wX7_X7 k a σ) H locs → lv_has ls 2 [(0, .ref (a 0)), (1, .ref (a 17))] → W p l e { frames := 2, cells := 0, slots := 0, locals := 61 } s m args below meth c H locs 0 0 (MQ below (va_Qv (fun u => u = R) (fun u => q_E D (tyL k) A (wX7_X7 k a u)) A) args s 0 0 A) (F0 m 59 ls []) := by
  intro σ hs hR H locs ls hW hl
  rw [P_X7_copyFrom_b59c_e] at hR
  rw [S_X7_copyFrom_b59c_e] at hs
  obtain ⟨hx, hb, hr, hml, hts, hown, hlocks, hK, hA⟩ := id C0
  have hf46 := hts (.fieldLink RX7 46 "BeatFollower$Scene" "tally" "LBeatFollower$Tally;") (by decide +kernel)
  have hinX7 : ∀ w ∈ u_ws RX7 TX7 7, w ∈ wsX7_copyFrom := hin_X7_copyFrom_X7
  refine lv_aload_n hx hb dX7_copyFrom_59 rfl (lv_at hl 0 rfl) ?_
  refine va_get (v := .ref (a 16)) (C := RX7) (T := TX7) (N := 7) hx hb hts hinX7 hown hK hW.1 0 rfl rfl 5 (by decide) hf46 (fun _ h9 => h9) rfl dX7_copyFrom_60 ?_
  refine lv_aload_n hx hb dX7_copyFrom_63 rfl (lv_at hl 1 rfl) ?_
  refine va_get (v := .ref (a 33)) (C := RX7) (T := TX7) (N := 7) hx hb hts hinX7 hown hK hW.1 17 rfl rfl 5 (by decide) hf46 (fun _ h9 => h9) rfl dX7_copyFrom_64 ?_
  have hs5 := hs.1
  have hs := hs.2
  refine q_Vv (As := [.ref (a 33)]) (rest := []) (wf := wX8_X8 k (sel a 16 1 33)) (R := P_X8_copyFrom (sel σ 16 1 33)) (wd' := wX7_X7 k a (sb2 σ 16 1 33 1 (P_X8_copyFrom (sel σ 16 1 33)))) [16, 33] [0, 1, 2, 3] 16 8 C0 hW (m_X8_copyFrom l D k (sel a 16 1 33) H.size (sel σ 16 1 33)  hs5) (cwV 1 hts gX7_copyFrom_X8_copyFrom rfl rfl rfl hd_X8_copyFrom ⟨Nat.le_of_ble_eq_true rfl, Nat.le_of_ble_eq_true rfl⟩) (by decide) (wX7_X7_X8_X8_16_33_pl k a _) rfl rfl rfl (wX8_X8_fst k _ _ _) (wX7_X7_X8_X8_16_33_pt k a _ _) hl rfl rfl (Nat.le_of_ble_eq_true rfl) dX7_copyFrom_67 ⟨Nat.le_refl 0, Nat.le_refl 0⟩ (fun H locs hW => ?_)
  exact b_X7_copyFrom_b70c l D k a A C0 R (sb2 σ 16 1 33 1 (P_X8_copyFrom (sel σ 16 1 33))) hs hR H locs ls hW (lv_sub hl [0, 1] rfl)
set_option maxHeartbeats 400000 in
set_option maxRecDepth 100000 in
theorem b_X7_copyFrom_b48c {p : Program} {e : Env} {s : State} {m : MethodId} {args : Array Value} {below : List Frame} {meth : Method} {c : Code} (l : Launch) (D : va_G) (k : Nat → ClassId) (a : Nat → Nat) (A : Nat → Prop) (C0 : q_C p s m meth c args RX7 cX7_copyFrom 2 none wsX7_copyFrom D (tyL k) A) (R : T2) : ∀ (σ : T2), S_X7_copyFrom_b48c σ → P_X7_copyFrom_b48c σ = R → ∀ (H : Heap) (locs : List Loc) (ls : Array Slot), q_W D A s.heap (wX7_X7 k a σ) H locs → lv_has ls 2 [(0, .ref (a 0)), (1, .ref (a 17))] → W p l e { frames := 2, cells := 0, slots := 0, locals := 61 } s m args below meth c H locs 0 0 (MQ below (va_Qv (fun u => u = R) (fun u => q_E D (tyL k) A (wX7_X7 k a u)) A) args s 0 0 A) (F0 m 48 ls []) := by
  intro σ hs hR H locs ls hW hl
  rw [P_X7_copyFrom_b48c_e] at hR
  rw [S_X7_copyFrom_b48c_e] at hs
  obtain ⟨hx, hb, hr, hml, hts, hown, hlocks, hK, hA⟩ := id C0
  have hf39 := hts (.fieldLink RX7 39 "BeatFollower$Scene" "drummer" "LBeatFollower$Drummer;") (by decide +kernel)
  have hinX7 : ∀ w ∈ u_ws RX7 TX7 7, w ∈ wsX7_copyFrom := hin_X7_copyFrom_X7
  refine lv_aload_n hx hb dX7_copyFrom_48 rfl (lv_at hl 0 rfl) ?_
  refine va_get (v := .ref (a 15)) (C := RX7) (T := TX7) (N := 7) hx hb hts hinX7 hown hK hW.1 0 rfl rfl 4 (by decide) hf39 (fun _ h9 => h9) rfl dX7_copyFrom_49 ?_
  refine lv_aload_n hx hb dX7_copyFrom_52 rfl (lv_at hl 1 rfl) ?_
  refine va_get (v := .ref (a 32)) (C := RX7) (T := TX7) (N := 7) hx hb hts hinX7 hown hK hW.1 17 rfl rfl 4 (by decide) hf39 (fun _ h9 => h9) rfl dX7_copyFrom_53 ?_
  have hs4 := hs.1
  have hs := hs.2
  refine q_Vv (As := [.ref (a 32)]) (rest := []) (wf := wX1_X1 k (sel a 15 1 32)) (R := P_X1_copyFrom (sel σ 15 1 32)) (wd' := wX7_X7 k a (sb2 σ 15 1 32 1 (P_X1_copyFrom (sel σ 15 1 32)))) [15, 32] [0, 1, 2, 3] 15 1 C0 hW (m_X1_copyFrom l D k (sel a 15 1 32) H.size (sel σ 15 1 32)  hs4) (cwV 1 hts gX7_copyFrom_X1_copyFrom rfl rfl rfl hd_X1_copyFrom ⟨Nat.le_of_ble_eq_true rfl, Nat.le_of_ble_eq_true rfl⟩) (by decide) (wX7_X7_X1_X1_15_32_pl k a _) rfl rfl rfl (wX1_X1_fst k _ _ _) (wX7_X7_X1_X1_15_32_pt k a _ _) hl rfl rfl (Nat.le_of_ble_eq_true rfl) dX7_copyFrom_56 ⟨Nat.le_refl 0, Nat.le_refl 0⟩ (fun H locs hW => ?_)
  exact b_X7_copyFrom_b59c l D k a A C0 R (sb2 σ 15 1 32 1 (P_X1_copyFrom (sel σ 15 1 32))) hs hR H locs ls hW (lv_sub hl [0, 1] rfl)
set_option maxHeartbeats 400000 in
set_option maxRecDepth 100000 in
theorem b_X7_copyFrom_b37c {p : Program} {e : Env} {s : State} {m : MethodId} {args : Array Value} {below : List Frame} {meth : Method} {c : Code} (l : Launch) (D : va_G) (k : Nat → ClassId) (a : Nat → Nat) (A : Nat → Prop) (C0 : q_C p s m meth c args RX7 cX7_copyFrom 2 none wsX7_copyFrom D (tyL k) A) (R : T2) : ∀ (σ : T2), S_X7_copyFrom_b37c σ → P_X7_copyFrom_b37c σ = R → ∀ (H : Heap) (locs : List Loc) (ls : Array Slot), q_W D A s.heap (wX7_X7 k a σ) H locs → lv_has ls 2 [(0, .ref (a 0)), (1, .ref (a 17))] → W p l e { frames := 2, cells := 0, slots := 0, locals := 61 } s m args below meth c H locs 0 0 (MQ below (va_Qv (fun u => u = R) (fun u => q_E D (tyL k) A (wX7_X7 k a u)) A) args s 0 0 A) (F0 m 37 ls []) := by
  intro σ hs hR H locs ls hW hl
  rw [P_X7_copyFrom_b37c_e] at hR
  rw [S_X7_copyFrom_b37c_e] at hs
  obtain ⟨hx, hb, hr, hml, hts, hown, hlocks, hK, hA⟩ := id C0
  have hf32 := hts (.fieldLink RX7 32 "BeatFollower$Scene" "blows" "LBeatFollower$Blows;") (by decide +kernel)
  have hinX7 : ∀ w ∈ u_ws RX7 TX7 7, w ∈ wsX7_copyFrom := hin_X7_copyFrom_X7
  refine lv_aload_n hx hb dX7_copyFrom_37 rfl (lv_at hl 0 rfl) ?_
  refine va_get (v := .ref (a 10)) (C := RX7) (T := TX7) (N := 7) hx hb hts hinX7 hown hK hW.1 0 rfl rfl 3 (by decide) hf32 (fun _ h9 => h9) rfl dX7_copyFrom_38 ?_
  refine lv_aload_n hx hb dX7_copyFrom_41 rfl (lv_at hl 1 rfl) ?_
  refine va_get (v := .ref (a 27)) (C := RX7) (T := TX7) (N := 7) hx hb hts hinX7 hown hK hW.1 17 rfl rfl 3 (by decide) hf32 (fun _ h9 => h9) rfl dX7_copyFrom_42 ?_
  have hs3 := hs.1
  have hs := hs.2
  refine q_Vv (As := [.ref (a 27)]) (rest := []) (wf := wX0_X0 k (sel a 10 5 27)) (R := P_X0_copyFrom (sel σ 10 5 27)) (wd' := wX7_X7 k a (sb2 σ 10 5 27 5 (P_X0_copyFrom (sel σ 10 5 27)))) [10, 11, 12, 13, 14, 27, 28, 29, 30, 31] [0, 1, 2, 3] 10 0 C0 hW (m_X0_copyFrom l D k (sel a 10 5 27) H.size (sel σ 10 5 27)  hs3) (cwV 1 hts gX7_copyFrom_X0_copyFrom rfl rfl rfl hd_X0_copyFrom ⟨Nat.le_of_ble_eq_true rfl, Nat.le_of_ble_eq_true rfl⟩) (by decide) (wX7_X7_X0_X0_10_27_pl k a _) rfl rfl rfl (wX0_X0_fst k _ _ _) (wX7_X7_X0_X0_10_27_pt k a _ _) hl rfl rfl (Nat.le_of_ble_eq_true rfl) dX7_copyFrom_45 ⟨Nat.le_refl 0, Nat.le_refl 0⟩ (fun H locs hW => ?_)
  exact b_X7_copyFrom_b48c l D k a A C0 R (sb2 σ 10 5 27 5 (P_X0_copyFrom (sel σ 10 5 27))) hs hR H locs ls hW (lv_sub hl [0, 1] rfl)
set_option maxHeartbeats 400000 in
set_option maxRecDepth 100000 in
theorem b_X7_copyFrom_b26c {p : Program} {e : Env} {s : State} {m : MethodId} {args : Array Value} {below : List Frame} {meth : Method} {c : Code} (l : Launch) (D : va_G) (k : Nat → ClassId) (a : Nat → Nat) (A : Nat → Prop) (C0 : q_C p s m meth c args RX7 cX7_copyFrom 2 none wsX7_copyFrom D (tyL k) A) (R : T2) : ∀ (σ : T2), S_X7_copyFrom_b26c σ → P_X7_copyFrom_b26c σ = R → ∀ (H : Heap) (locs : List Loc) (ls : Array Slot), q_W D A s.heap (wX7_X7 k a σ) H locs → lv_has ls 2 [(0, .ref (a 0)), (1, .ref (a 17))] → W p l e { frames := 2, cells := 0, slots := 0, locals := 61 } s m args below meth c H locs 0 0 (MQ below (va_Qv (fun u => u = R) (fun u => q_E D (tyL k) A (wX7_X7 k a u)) A) args s 0 0 A) (F0 m 26 ls []) := by
  intro σ hs hR H locs ls hW hl
  rw [P_X7_copyFrom_b26c_e] at hR
  rw [S_X7_copyFrom_b26c_e] at hs
  obtain ⟨hx, hb, hr, hml, hts, hown, hlocks, hK, hA⟩ := id C0
  have hf25 := hts (.fieldLink RX7 25 "BeatFollower$Scene" "fates" "LBeatFollower$Fates;") (by decide +kernel)
  have hinX7 : ∀ w ∈ u_ws RX7 TX7 7, w ∈ wsX7_copyFrom := hin_X7_copyFrom_X7
  refine lv_aload_n hx hb dX7_copyFrom_26 rfl (lv_at hl 0 rfl) ?_
  refine va_get (v := .ref (a 5)) (C := RX7) (T := TX7) (N := 7) hx hb hts hinX7 hown hK hW.1 0 rfl rfl 2 (by decide) hf25 (fun _ h9 => h9) rfl dX7_copyFrom_27 ?_
  refine lv_aload_n hx hb dX7_copyFrom_30 rfl (lv_at hl 1 rfl) ?_
  refine va_get (v := .ref (a 22)) (C := RX7) (T := TX7) (N := 7) hx hb hts hinX7 hown hK hW.1 17 rfl rfl 2 (by decide) hf25 (fun _ h9 => h9) rfl dX7_copyFrom_31 ?_
  have hs2 := hs.1
  have hs := hs.2
  refine q_Vv (As := [.ref (a 22)]) (rest := []) (wf := wX2_X2 k (sel a 5 5 22)) (R := P_X2_copyFrom (sel σ 5 5 22)) (wd' := wX7_X7 k a (sb2 σ 5 5 22 5 (P_X2_copyFrom (sel σ 5 5 22)))) [5, 6, 7, 8, 9, 22, 23, 24, 25, 26] [0, 1, 2, 3] 5 2 C0 hW (m_X2_copyFrom l D k (sel a 5 5 22) H.size (sel σ 5 5 22)  hs2) (cwV 1 hts gX7_copyFrom_X2_copyFrom rfl rfl rfl hd_X2_copyFrom ⟨Nat.le_of_ble_eq_true rfl, Nat.le_of_ble_eq_true rfl⟩) (by decide) (wX7_X7_X2_X2_5_22_pl k a _) rfl rfl rfl (wX2_X2_fst k _ _ _) (wX7_X7_X2_X2_5_22_pt k a _ _) hl rfl rfl (Nat.le_of_ble_eq_true rfl) dX7_copyFrom_34 ⟨Nat.le_refl 0, Nat.le_refl 0⟩ (fun H locs hW => ?_)
  exact b_X7_copyFrom_b37c l D k a A C0 R (sb2 σ 5 5 22 5 (P_X2_copyFrom (sel σ 5 5 22))) hs hR H locs ls hW (lv_sub hl [0, 1] rfl)
set_option maxHeartbeats 400000 in
set_option maxRecDepth 100000 in
theorem b_X7_copyFrom_b0 {p : Program} {e : Env} {s : State} {m : MethodId} {args : Array Value} {below : List Frame} {meth : Method} {c : Code} (l : Launch) (D : va_G) (k : Nat → ClassId) (a : Nat → Nat) (A : Nat → Prop) (C0 : q_C p s m meth c args RX7 cX7_copyFrom 2 none wsX7_copyFrom D (tyL k) A) (R : T2) : ∀ (σ : T2), S_X7_copyFrom_b0 σ → P_X7_copyFrom_b0 σ = R → ∀ (H : Heap) (locs : List Loc) (ls : Array Slot), q_W D A s.heap (wX7_X7 k a σ) H locs → lv_has ls 2 [(0, .ref (a 0)), (1, .ref (a 17))] → W p l e { frames := 2, cells := 0, slots := 0, locals := 61 } s m args below meth c H locs 0 0 (MQ below (va_Qv (fun u => u = R) (fun u => q_E D (tyL k) A (wX7_X7 k a u)) A) args s 0 0 A) (F0 m 0 ls []) := by
  intro σ hs hR H locs ls hW hl
  rw [P_X7_copyFrom_b0_e] at hR
  rw [S_X7_copyFrom_b0_e] at hs
  obtain ⟨hx, hb, hr, hml, hts, hown, hlocks, hK, hA⟩ := id C0
  have hf9 := hts (.fieldLink RX7 9 "BeatFollower$Scene" "settings" "[I") (by decide +kernel)
  have hf18 := hts (.fieldLink RX7 18 "BeatFollower$Scene" "plan" "LBeatFollower$Plan;") (by decide +kernel)
  have hinX7 : ∀ w ∈ u_ws RX7 TX7 7, w ∈ wsX7_copyFrom := hin_X7_copyFrom_X7
  refine lv_aload_n hx hb dX7_copyFrom_0 rfl (lv_at hl 1 rfl) ?_
  refine va_get (v := .ref (a 18)) (C := RX7) (T := TX7) (N := 7) hx hb hts hinX7 hown hK hW.1 17 rfl rfl 0 (by decide) hf9 (fun _ h9 => h9) rfl dX7_copyFrom_1 ?_
  refine lv_iconst (v := (0 : Int32)) hx hb dX7_copyFrom_4 (by decide) ?_
  refine lv_aload_n hx hb dX7_copyFrom_5 rfl (lv_at hl 0 rfl) ?_
  refine va_get (v := .ref (a 1)) (C := RX7) (T := TX7) (N := 7) hx hb hts hinX7 hown hK hW.1 0 rfl rfl 0 (by decide) hf9 (fun _ h9 => h9) rfl dX7_copyFrom_6 ?_
  refine lv_iconst (v := (0 : Int32)) hx hb dX7_copyFrom_9 (by decide) ?_
  refine lv_bipush (v := (8 : Int32)) hx hb dX7_copyFrom_10 (by decide) ?_
  refine q_cpy (f := σ 18) (g := σ 1) (kn := 8) (wd' := wX7_X7 k a (u2 σ 1 (va_cpy (σ 18) (σ 1) 0 0 8))) C0 hW 18 1 rfl rfl rfl (by rw [hml]; exact hl.1.symm) (hts (.methodLink RX7 53 arraycopyName) (by decide +kernel)) (hts (.native arraycopyName) (by decide +kernel)) (hts (.static arraycopyName) (by decide +kernel)) (hts (.initialized "java/lang/System") (by decide +kernel)) (by decide) cl_8 (Nat.le_of_ble_eq_true rfl) (Nat.le_of_ble_eq_true rfl) (Nat.le_of_ble_eq_true rfl) (Nat.le_of_ble_eq_true rfl) dX7_copyFrom_12 (wX7_X7_s1 k a _ _) (fun H locs hW => ?_)
  refine lv_aload_n hx hb dX7_copyFrom_15 rfl (lv_at hl 0 rfl) ?_
  refine va_get (v := .ref (a 2)) (C := RX7) (T := TX7) (N := 7) hx hb hts hinX7 hown hK hW.1 0 rfl rfl 1 (by decide) hf18 (fun _ h9 => h9) rfl dX7_copyFrom_16 ?_
  refine lv_aload_n hx hb dX7_copyFrom_19 rfl (lv_at hl 1 rfl) ?_
  refine va_get (v := .ref (a 19)) (C := RX7) (T := TX7) (N := 7) hx hb hts hinX7 hown hK hW.1 17 rfl rfl 1 (by decide) hf18 (fun _ h9 => h9) rfl dX7_copyFrom_20 ?_
  have hs1 := hs.1
  have hs := hs.2
  refine q_Vv (As := [.ref (a 19)]) (rest := []) (wf := wX5_X5 k (sel a 2 3 19)) (R := P_X5_copyFrom (sel (u2 σ 1 (va_cpy (σ 18) (σ 1) 0 0 8)) 2 3 19)) (wd' := wX7_X7 k a (sb2 (u2 σ 1 (va_cpy (σ 18) (σ 1) 0 0 8)) 2 3 19 3 (P_X5_copyFrom (sel (u2 σ 1 (va_cpy (σ 18) (σ 1) 0 0 8)) 2 3 19)))) [2, 3, 4, 19, 20, 21] [0, 1, 2, 3] 2 5 C0 hW (m_X5_copyFrom l D k (sel a 2 3 19) H.size (sel (u2 σ 1 (va_cpy (σ 18) (σ 1) 0 0 8)) 2 3 19)  hs1) (cwV 1 hts gX7_copyFrom_X5_copyFrom rfl rfl rfl hd_X5_copyFrom ⟨Nat.le_of_ble_eq_true rfl, Nat.le_of_ble_eq_true rfl⟩) (by decide) (wX7_X7_X5_X5_2_19_pl k a _) rfl rfl rfl (wX5_X5_fst k _ _ _) (wX7_X7_X5_X5_2_19_pt k a _ _) hl rfl rfl (Nat.le_of_ble_eq_true rfl) dX7_copyFrom_23 ⟨Nat.le_refl 0, Nat.le_refl 0⟩ (fun H locs hW => ?_)
  exact b_X7_copyFrom_b26c l D k a A C0 R (sb2 (u2 σ 1 (va_cpy (σ 18) (σ 1) 0 0 8)) 2 3 19 3 (P_X5_copyFrom (sel (u2 σ 1 (va_cpy (σ 18) (σ 1) 0 0 8)) 2 3 19))) hs hR H locs ls hW (lv_sub hl [0, 1] rfl)
set_option maxHeartbeats 400000 in
set_option maxRecDepth 100000 in
theorem m_X7_copyFrom (l : Launch) (D : va_G) (k : Nat → ClassId) (a : Nat → Nat) (sz : Nat) (σ : T2) (hs : S_X7_copyFrom σ) : Met l yX7_copyFrom wsX7_copyFrom { frames := 2, cells := 0, slots := 0, locals := 61 } (va_Pc [.ref (a 0), .ref (a 17)] (q_B D (tyL k) (wX7_X7 k a σ) sz)) (va_Qv (fun u => u = P_X7_copyFrom σ) (fun u => q_E D (tyL k) (va_A (wX7_X7 k a σ) sz) (wX7_X7 k a u)) (va_A (wX7_X7 k a σ) sz)) 0 0 (va_A (wX7_X7 k a σ) sz) := by
  refine q_met [.ref (a 0), .ref (a 17)] (wX7_X7 k a σ) sz (cc := cX7_copyFrom) (maxL := 2) (ret := none) (by decide) rfl (Nat.le_of_ble_eq_true rfl) ?_
  intro p e s m args below meth c ls hsz C0 hW hl hin
  subst hsz
  exact b_X7_copyFrom_b0 l D k a _ C0 _ σ  hs rfl s.heap [] ls hW (lv_sub hl [0, 1] rfl)
theorem hin_X7_isHeard_X7 : ∀ w ∈ u_ws RX7 TX7 7, w ∈ wsX7_isHeard := by decide +kernel
theorem hin_X7_isHeard_X8 : ∀ w ∈ u_ws RX8 TX8 10, w ∈ wsX7_isHeard := by decide +kernel
theorem hd_X7_isHeard : yX7_isHeard.cls = RX7 ∧ yX7_isHeard.cls ≠ "java/lang/invoke/MethodHandle" ∧ yX7_isHeard.cls ≠ "java/lang/invoke/VarHandle" ∧ (parseMethodDescriptor yX7_isHeard.desc).map (fun d => d.parameters.length) = some 1 := by decide +kernel
noncomputable def P_X7_isHeard_b0 (σ : T2) (v1 : Int32) : Int32 := if (σ 16 0) ≤ v1 then ((0 : Int32)) else ((1 : Int32))
def S_X7_isHeard_b0 (σ : T2) (v1 : Int32) : Prop := ((σ 16 0) ≤ v1 → (True)) ∧ (¬ ((σ 16 0) ≤ v1) → (True))
theorem P_X7_isHeard_b0_e (σ : T2) (v1 : Int32) : P_X7_isHeard_b0 σ v1 = if (σ 16 0) ≤ v1 then ((0 : Int32)) else ((1 : Int32)) := rfl
theorem S_X7_isHeard_b0_e (σ : T2) (v1 : Int32) : S_X7_isHeard_b0 σ v1 = (((σ 16 0) ≤ v1 → (True)) ∧ (¬ ((σ 16 0) ≤ v1) → (True))) := rfl
noncomputable def P_X7_isHeard (σ : T2) (p0 : Int32) : Int32 := P_X7_isHeard_b0 σ p0
def S_X7_isHeard (σ : T2) (p0 : Int32) : Prop := S_X7_isHeard_b0 σ p0
set_option maxHeartbeats 400000 in
set_option maxRecDepth 100000 in
theorem b_X7_isHeard_b0 {p : Program} {e : Env} {s : State} {m : MethodId} {args : Array Value} {below : List Frame} {meth : Method} {c : Code} (l : Launch) (D : va_G) (k : Nat → ClassId) (a : Nat → Nat) (A : Nat → Prop) (C0 : q_C p s m meth c args RX7 cX7_isHeard 2 (some .boolean) wsX7_isHeard D (tyL k) A) (R : Int32) : ∀ (σ : T2) (v1 : Int32), S_X7_isHeard_b0 σ v1 → P_X7_isHeard_b0 σ v1 = R → ∀ (H : Heap) (locs : List Loc) (ls : Array Slot), q_W D A s.heap (wX7 k a σ) s.heap [] → lv_has ls 2 [(0, .ref (a 0)), (1, .int v1)] → W p l e { frames := 0, cells := 0, slots := 0, locals := 0 } s m args below meth c s.heap [] 0 0 (MQ below (vp_Si (fun r => r = R)) args s 0 0 (fun _ => False)) (F0 m 0 ls []) := by
  intro σ v1 hs hR H locs ls hW hl
  rw [P_X7_isHeard_b0_e] at hR
  rw [S_X7_isHeard_b0_e] at hs
  obtain ⟨hx, hb, hr, hml, hts, hown, hlocks, hK, hA⟩ := id C0
  have hf46 := hts (.fieldLink RX7 46 "BeatFollower$Scene" "tally" "LBeatFollower$Tally;") (by decide +kernel)
  have hf95 := hts (.fieldLink RX7 95 "BeatFollower$Tally" "heard" "I") (by decide +kernel)
  have hinX7 : ∀ w ∈ u_ws RX7 TX7 7, w ∈ wsX7_isHeard := hin_X7_isHeard_X7
  have hinX8 : ∀ w ∈ u_ws RX8 TX8 10, w ∈ wsX7_isHeard := hin_X7_isHeard_X8
  refine lv_iload_n hx hb dX7_isHeard_0 rfl (lv_at hl 1 rfl) ?_
  refine lv_aload_n hx hb dX7_isHeard_1 rfl (lv_at hl 0 rfl) ?_
  refine va_get (v := .ref (a 16)) (C := RX7) (T := TX7) (N := 7) hx hb hts hinX7 hown hK hW.1 0 rfl rfl 5 (by decide) hf46 (fun _ h9 => h9) rfl dX7_isHeard_2 ?_
  refine va_get (v := .int (σ 16 0)) (C := RX8) (T := TX8) (N := 10) hx hb hts hinX8 hown hK hW.1 16 rfl rfl 0 (by decide) hf95 (fun _ h9 => h9) rfl dX7_isHeard_5 ?_
  refine lv_icmp_ge (tgt := 15) hx hb dX7_isHeard_8 (by decide) (fun c_1 => ?_) (fun c_1 => ?_)
  · have hs := hs.1 c_1
    rw [if_pos c_1] at hR
    refine lv_iconst (v := (0 : Int32)) hx hb dX7_isHeard_15 (by decide) ?_
    exact q_zretr C0 (by decide) hR dX7_isHeard_16
  · have hs := hs.2 c_1
    rw [if_neg c_1] at hR
    refine lv_iconst (v := (1 : Int32)) hx hb dX7_isHeard_11 (by decide) ?_
    refine lv_goto (tgt := 16) hx hb dX7_isHeard_12 (by decide) ?_
    exact q_zretr C0 (by decide) hR dX7_isHeard_16
set_option maxHeartbeats 400000 in
set_option maxRecDepth 100000 in
theorem m_X7_isHeard (l : Launch) (D : va_G) (k : Nat → ClassId) (a : Nat → Nat) (sz : Nat) (σ : T2) (p0 : Int32) (hs : S_X7_isHeard σ p0) : Met l yX7_isHeard wsX7_isHeard { frames := 0, cells := 0, slots := 0, locals := 0 } (va_Pc [.ref (a 0), .int p0] (q_B D (tyL k) (wX7 k a σ) sz)) (vp_Si (fun r => r = P_X7_isHeard σ p0)) 0 0 (fun _ => False) := by
  refine q_met [.ref (a 0), .int p0] (wX7 k a σ) sz (cc := cX7_isHeard) (maxL := 2) (ret := (some .boolean)) (by decide) rfl (Nat.le_of_ble_eq_true rfl) ?_
  intro p e s m args below meth c ls hsz C0 hW hl hin
  subst hsz
  exact b_X7_isHeard_b0 l D k a _ C0 _ σ p0 hs rfl s.heap [] ls hW (lv_sub hl [0, 1] rfl)
theorem hin_X7_halfWindow_X1 : ∀ w ∈ u_ws RX1 TX1 7, w ∈ wsX7_halfWindow := by decide +kernel
theorem hin_X7_halfWindow_X7 : ∀ w ∈ u_ws RX7 TX7 7, w ∈ wsX7_halfWindow := by decide +kernel
theorem hd_X7_halfWindow : yX7_halfWindow.cls = RX7 ∧ yX7_halfWindow.cls ≠ "java/lang/invoke/MethodHandle" ∧ yX7_halfWindow.cls ≠ "java/lang/invoke/VarHandle" ∧ (parseMethodDescriptor yX7_halfWindow.desc).map (fun d => d.parameters.length) = some 0 := by decide +kernel
noncomputable def P_X7_halfWindow_b0 (σ : T2) : Int32 := P_J9_floorDiv_7cf53 ((σ 15 1) * (σ 1 1)) (100 : Int32)
def S_X7_halfWindow_b0 (σ : T2) : Prop := (S_J9_floorDiv_7cf53 ((σ 15 1) * (σ 1 1)) (100 : Int32)) ∧ (True)
theorem P_X7_halfWindow_b0_e (σ : T2) : P_X7_halfWindow_b0 σ = P_J9_floorDiv_7cf53 ((σ 15 1) * (σ 1 1)) (100 : Int32) := rfl
theorem S_X7_halfWindow_b0_e (σ : T2) : S_X7_halfWindow_b0 σ = ((S_J9_floorDiv_7cf53 ((σ 15 1) * (σ 1 1)) (100 : Int32)) ∧ (True)) := rfl
noncomputable def P_X7_halfWindow (σ : T2) : Int32 := P_X7_halfWindow_b0 σ
def S_X7_halfWindow (σ : T2) : Prop := S_X7_halfWindow_b0 σ
set_option maxHeartbeats 400000 in
set_option maxRecDepth 100000 in
theorem b_X7_halfWindow_b0 {p : Program} {e : Env} {s : State} {m : MethodId} {args : Array Value} {below : List Frame} {meth : Method} {c : Code} (l : Launch) (D : va_G) (k : Nat → ClassId) (a : Nat → Nat) (A : Nat → Prop) (C0 : q_C p s m meth c args RX7 cX7_halfWindow 1 (some .int) wsX7_halfWindow D (tyL k) A) (R : Int32) : ∀ (σ : T2), S_X7_halfWindow_b0 σ → P_X7_halfWindow_b0 σ = R → ∀ (H : Heap) (locs : List Loc) (ls : Array Slot), q_W D A s.heap (wX7 k a σ) s.heap [] → lv_has ls 1 [(0, .ref (a 0))] → W p l e { frames := 1, cells := 0, slots := 0, locals := 22 } s m args below meth c s.heap [] 0 0 (MQ below (vp_Si (fun r => r = R)) args s 0 0 (fun _ => False)) (F0 m 0 ls []) := by
  intro σ hs hR H locs ls hW hl
  rw [P_X7_halfWindow_b0_e] at hR
  rw [S_X7_halfWindow_b0_e] at hs
  obtain ⟨hx, hb, hr, hml, hts, hown, hlocks, hK, hA⟩ := id C0
  have hf9 := hts (.fieldLink RX7 9 "BeatFollower$Scene" "settings" "[I") (by decide +kernel)
  have hf39 := hts (.fieldLink RX7 39 "BeatFollower$Scene" "drummer" "LBeatFollower$Drummer;") (by decide +kernel)
  have hf126 := hts (.fieldLink RX7 126 "BeatFollower$Drummer" "period" "I") (by decide +kernel)
  have hinX1 : ∀ w ∈ u_ws RX1 TX1 7, w ∈ wsX7_halfWindow := hin_X7_halfWindow_X1
  have hinX7 : ∀ w ∈ u_ws RX7 TX7 7, w ∈ wsX7_halfWindow := hin_X7_halfWindow_X7
  refine lv_aload_n hx hb dX7_halfWindow_0 rfl (lv_at hl 0 rfl) ?_
  refine va_get (v := .ref (a 15)) (C := RX7) (T := TX7) (N := 7) hx hb hts hinX7 hown hK hW.1 0 rfl rfl 4 (by decide) hf39 (fun _ h9 => h9) rfl dX7_halfWindow_1 ?_
  refine va_get (v := .int (σ 15 1)) (C := RX1) (T := TX1) (N := 7) hx hb hts hinX1 hown hK hW.1 15 rfl rfl 1 (by decide) hf126 (fun _ h9 => h9) rfl dX7_halfWindow_4 ?_
  refine lv_aload_n hx hb dX7_halfWindow_7 rfl (lv_at hl 0 rfl) ?_
  refine va_get (v := .ref (a 1)) (C := RX7) (T := TX7) (N := 7) hx hb hts hinX7 hown hK hW.1 0 rfl rfl 0 (by decide) hf9 (fun _ h9 => h9) rfl dX7_halfWindow_8 ?_
  refine lv_iconst (v := (1 : Int32)) hx hb dX7_halfWindow_11 (by decide) ?_
  refine q_iald (v := σ 1 1) C0 hW 1 rfl rfl vi_1_8 cl_1 rfl dX7_halfWindow_12 ?_
  refine lv_imul hx hb dX7_halfWindow_13 ?_
  refine lv_bipush (v := (100 : Int32)) hx hb dX7_halfWindow_14 (by decide) ?_
  have hs1 := hs.1
  have hs := hs.2
  refine q_Si (As := [.int ((σ 15 1) * (σ 1 1)), .int (100 : Int32)]) (rest := []) (R := P_J9_floorDiv_7cf53 ((σ 15 1) * (σ 1 1)) (100 : Int32)) ⟨hx, hb, hml, hown, hts⟩ (m_J9_floorDiv_7cf53 l ((σ 15 1) * (σ 1 1)) (100 : Int32) hs1) (va_cwS 2 hts gX7_halfWindow_J9_floorDiv_7cf53 rfl rfl rfl hd_J9_floorDiv_7cf53 ⟨Nat.le_of_ble_eq_true rfl, Nat.le_of_ble_eq_true rfl⟩) hl rfl rfl (Nat.le_of_ble_eq_true rfl) dX7_halfWindow_16 ⟨Nat.le_refl 0, Nat.le_refl 0⟩ ?_
  exact q_iretr C0 hR dX7_halfWindow_19
set_option maxHeartbeats 400000 in
set_option maxRecDepth 100000 in
theorem m_X7_halfWindow (l : Launch) (D : va_G) (k : Nat → ClassId) (a : Nat → Nat) (sz : Nat) (σ : T2) (hs : S_X7_halfWindow σ) : Met l yX7_halfWindow wsX7_halfWindow { frames := 1, cells := 0, slots := 0, locals := 22 } (va_Pc [.ref (a 0)] (q_B D (tyL k) (wX7 k a σ) sz)) (vp_Si (fun r => r = P_X7_halfWindow σ)) 0 0 (fun _ => False) := by
  refine q_met [.ref (a 0)] (wX7 k a σ) sz (cc := cX7_halfWindow) (maxL := 1) (ret := (some .int)) (by decide) rfl (Nat.le_of_ble_eq_true rfl) ?_
  intro p e s m args below meth c ls hsz C0 hW hl hin
  subst hsz
  exact b_X7_halfWindow_b0 l D k a _ C0 _ σ  hs rfl s.heap [] ls hW (lv_sub hl [0] rfl)
theorem hin_X7_isWindowOver_X1 : ∀ w ∈ u_ws RX1 TX1 7, w ∈ wsX7_isWindowOver := by decide +kernel
theorem hin_X7_isWindowOver_X7 : ∀ w ∈ u_ws RX7 TX7 7, w ∈ wsX7_isWindowOver := by decide +kernel
theorem hd_X7_isWindowOver : yX7_isWindowOver.cls = RX7 ∧ yX7_isWindowOver.cls ≠ "java/lang/invoke/MethodHandle" ∧ yX7_isWindowOver.cls ≠ "java/lang/invoke/VarHandle" ∧ (parseMethodDescriptor yX7_isWindowOver.desc).map (fun d => d.parameters.length) = some 1 := by decide +kernel
noncomputable def P_X7_isWindowOver_b0 (σ : T2) (v1 : Int32) : Int32 := if (σ 15 2) = (-6 : Int32) then ((0 : Int32)) else (if v1 < (((σ 15 2) + (P_X7_halfWindow σ)) + (1 : Int32)) then ((0 : Int32)) else ((1 : Int32)))
def S_X7_isWindowOver_b0 (σ : T2) (v1 : Int32) : Prop := ((σ 15 2) = (-6 : Int32) → (True)) ∧ (¬ ((σ 15 2) = (-6 : Int32)) → ((S_X7_halfWindow σ ) ∧ ((v1 < (((σ 15 2) + (P_X7_halfWindow σ)) + (1 : Int32)) → (True)) ∧ (¬ (v1 < (((σ 15 2) + (P_X7_halfWindow σ)) + (1 : Int32))) → (True)))))
theorem P_X7_isWindowOver_b0_e (σ : T2) (v1 : Int32) : P_X7_isWindowOver_b0 σ v1 = if (σ 15 2) = (-6 : Int32) then ((0 : Int32)) else (if v1 < (((σ 15 2) + (P_X7_halfWindow σ)) + (1 : Int32)) then ((0 : Int32)) else ((1 : Int32))) := rfl
theorem S_X7_isWindowOver_b0_e (σ : T2) (v1 : Int32) : S_X7_isWindowOver_b0 σ v1 = (((σ 15 2) = (-6 : Int32) → (True)) ∧ (¬ ((σ 15 2) = (-6 : Int32)) → ((S_X7_halfWindow σ ) ∧ ((v1 < (((σ 15 2) + (P_X7_halfWindow σ)) + (1 : Int32)) → (True)) ∧ (¬ (v1 < (((σ 15 2) + (P_X7_halfWindow σ)) + (1 : Int32))) → (True)))))) := rfl
noncomputable def P_X7_isWindowOver (σ : T2) (p0 : Int32) : Int32 := P_X7_isWindowOver_b0 σ p0
def S_X7_isWindowOver (σ : T2) (p0 : Int32) : Prop := S_X7_isWindowOver_b0 σ p0
set_option maxHeartbeats 400000 in
set_option maxRecDepth 100000 in
theorem b_X7_isWindowOver_b0 {p : Program} {e : Env} {s : State} {m : MethodId} {args : Array Value} {below : List Frame} {meth : Method} {c : Code} (l : Launch) (D : va_G) (k : Nat → ClassId) (a : Nat → Nat) (A : Nat → Prop) (C0 : q_C p s m meth c args RX7 cX7_isWindowOver 2 (some .boolean) wsX7_isWindowOver D (tyL k) A) (R : Int32) : ∀ (σ : T2) (v1 : Int32), S_X7_isWindowOver_b0 σ v1 → P_X7_isWindowOver_b0 σ v1 = R → ∀ (H : Heap) (locs : List Loc) (ls : Array Slot), q_W D A s.heap (wX7 k a σ) s.heap [] → lv_has ls 2 [(0, .ref (a 0)), (1, .int v1)] → W p l e { frames := 2, cells := 0, slots := 0, locals := 42 } s m args below meth c s.heap [] 0 0 (MQ below (vp_Si (fun r => r = R)) args s 0 0 (fun _ => False)) (F0 m 0 ls []) := by
  intro σ v1 hs hR H locs ls hW hl
  rw [P_X7_isWindowOver_b0_e] at hR
  rw [S_X7_isWindowOver_b0_e] at hs
  obtain ⟨hx, hb, hr, hml, hts, hown, hlocks, hK, hA⟩ := id C0
  have hf39 := hts (.fieldLink RX7 39 "BeatFollower$Scene" "drummer" "LBeatFollower$Drummer;") (by decide +kernel)
  have hf120 := hts (.fieldLink RX7 120 "BeatFollower$Drummer" "nextBlow" "I") (by decide +kernel)
  have hinX1 : ∀ w ∈ u_ws RX1 TX1 7, w ∈ wsX7_isWindowOver := hin_X7_isWindowOver_X1
  have hinX7 : ∀ w ∈ u_ws RX7 TX7 7, w ∈ wsX7_isWindowOver := hin_X7_isWindowOver_X7
  refine lv_aload_n hx hb dX7_isWindowOver_0 rfl (lv_at hl 0 rfl) ?_
  refine va_get (v := .ref (a 15)) (C := RX7) (T := TX7) (N := 7) hx hb hts hinX7 hown hK hW.1 0 rfl rfl 4 (by decide) hf39 (fun _ h9 => h9) rfl dX7_isWindowOver_1 ?_
  refine va_get (v := .int (σ 15 2)) (C := RX1) (T := TX1) (N := 7) hx hb hts hinX1 hown hK hW.1 15 rfl rfl 2 (by decide) hf120 (fun _ h9 => h9) rfl dX7_isWindowOver_4 ?_
  refine lv_bipush (v := (-6 : Int32)) hx hb dX7_isWindowOver_7 (by decide) ?_
  refine lv_icmp_eq (tgt := 34) hx hb dX7_isWindowOver_9 (by decide) (fun c_1 => ?_) (fun c_1 => ?_)
  · have hs := hs.1 c_1
    rw [if_pos c_1] at hR
    refine lv_iconst (v := (0 : Int32)) hx hb dX7_isWindowOver_34 (by decide) ?_
    exact q_zretr C0 (by decide) hR dX7_isWindowOver_35
  · have hs := hs.2 c_1
    rw [if_neg c_1] at hR
    refine lv_aload_n hx hb dX7_isWindowOver_12 rfl (lv_at hl 0 rfl) ?_
    refine va_get (v := .ref (a 15)) (C := RX7) (T := TX7) (N := 7) hx hb hts hinX7 hown hK hW.1 0 rfl rfl 4 (by decide) hf39 (fun _ h9 => h9) rfl dX7_isWindowOver_13 ?_
    refine va_get (v := .int (σ 15 2)) (C := RX1) (T := TX1) (N := 7) hx hb hts hinX1 hown hK hW.1 15 rfl rfl 2 (by decide) hf120 (fun _ h9 => h9) rfl dX7_isWindowOver_16 ?_
    refine lv_aload_n hx hb dX7_isWindowOver_19 rfl (lv_at hl 0 rfl) ?_
    have hs2 := hs.1
    have hs := hs.2
    refine q_Vi (As := []) (rest := [.int (σ 15 2)]) (R := P_X7_halfWindow σ) [0, 1, 2, 3, 4, 5, 6, 7, 8, 9, 10, 11, 12, 13, 14, 15, 16] [0, 1, 2, 3] 0 7 C0 hW (m_X7_halfWindow l D k a _ σ  hs2) (cwV 0 hts gX7_isWindowOver_X7_halfWindow rfl rfl rfl hd_X7_halfWindow ⟨Nat.le_of_ble_eq_true rfl, Nat.le_of_ble_eq_true rfl⟩) (by decide) (wX7_pl k a _) rfl (wX7_rec k a _) rfl hl rfl rfl (Nat.le_of_ble_eq_true rfl) dX7_isWindowOver_20 ⟨Nat.le_refl 0, Nat.le_refl 0⟩ ?_
    refine lv_iadd hx hb dX7_isWindowOver_23 ?_
    refine lv_iconst (v := (1 : Int32)) hx hb dX7_isWindowOver_24 (by decide) ?_
    refine lv_iadd hx hb dX7_isWindowOver_25 ?_
    refine lv_iload_n hx hb dX7_isWindowOver_26 rfl (lv_at hl 1 rfl) ?_
    refine lv_icmp_gt (tgt := 34) hx hb dX7_isWindowOver_27 (by decide) (fun c_3 => ?_) (fun c_3 => ?_)
    · have hs := hs.1 c_3
      rw [if_pos c_3] at hR
      refine lv_iconst (v := (0 : Int32)) hx hb dX7_isWindowOver_34 (by decide) ?_
      exact q_zretr C0 (by decide) hR dX7_isWindowOver_35
    · have hs := hs.2 c_3
      rw [if_neg c_3] at hR
      refine lv_iconst (v := (1 : Int32)) hx hb dX7_isWindowOver_30 (by decide) ?_
      refine lv_goto (tgt := 35) hx hb dX7_isWindowOver_31 (by decide) ?_
      exact q_zretr C0 (by decide) hR dX7_isWindowOver_35
set_option maxHeartbeats 400000 in
set_option maxRecDepth 100000 in
theorem m_X7_isWindowOver (l : Launch) (D : va_G) (k : Nat → ClassId) (a : Nat → Nat) (sz : Nat) (σ : T2) (p0 : Int32) (hs : S_X7_isWindowOver σ p0) : Met l yX7_isWindowOver wsX7_isWindowOver { frames := 2, cells := 0, slots := 0, locals := 42 } (va_Pc [.ref (a 0), .int p0] (q_B D (tyL k) (wX7 k a σ) sz)) (vp_Si (fun r => r = P_X7_isWindowOver σ p0)) 0 0 (fun _ => False) := by
  refine q_met [.ref (a 0), .int p0] (wX7 k a σ) sz (cc := cX7_isWindowOver) (maxL := 2) (ret := (some .boolean)) (by decide) rfl (Nat.le_of_ble_eq_true rfl) ?_
  intro p e s m args below meth c ls hsz C0 hW hl hin
  subst hsz
  exact b_X7_isWindowOver_b0 l D k a _ C0 _ σ p0 hs rfl s.heap [] ls hW (lv_sub hl [0, 1] rfl)
theorem hin_X7_loseLock_X1 : ∀ w ∈ u_ws RX1 TX1 7, w ∈ wsX7_loseLock := by decide +kernel
theorem hin_X7_loseLock_X7 : ∀ w ∈ u_ws RX7 TX7 7, w ∈ wsX7_loseLock := by decide +kernel
theorem hin_X7_loseLock_X8 : ∀ w ∈ u_ws RX8 TX8 10, w ∈ wsX7_loseLock := by decide +kernel
theorem hd_X7_loseLock : yX7_loseLock.cls = RX7 ∧ yX7_loseLock.cls ≠ "java/lang/invoke/MethodHandle" ∧ yX7_loseLock.cls ≠ "java/lang/invoke/VarHandle" ∧ (parseMethodDescriptor yX7_loseLock.desc).map (fun d => d.parameters.length) = some 0 := by decide +kernel
noncomputable def P_X7_loseLock_b0 (σ : T2) : T2 := u2 (u2 σ 15 (upd (upd (upd (σ 15) 0 (0 : Int32)) 3 (0 : Int32)) 4 (0 : Int32))) 16 (upd (σ 16) 4 ((σ 16 4) + (1 : Int32)))
def S_X7_loseLock_b0 (σ : T2) : Prop := True
theorem P_X7_loseLock_b0_e (σ : T2) : P_X7_loseLock_b0 σ = u2 (u2 σ 15 (upd (upd (upd (σ 15) 0 (0 : Int32)) 3 (0 : Int32)) 4 (0 : Int32))) 16 (upd (σ 16) 4 ((σ 16 4) + (1 : Int32))) := rfl
theorem S_X7_loseLock_b0_e (σ : T2) : S_X7_loseLock_b0 σ = (True) := rfl
noncomputable def P_X7_loseLock (σ : T2) : T2 := P_X7_loseLock_b0 σ
def S_X7_loseLock (σ : T2) : Prop := S_X7_loseLock_b0 σ
set_option maxHeartbeats 400000 in
set_option maxRecDepth 100000 in
theorem b_X7_loseLock_b0 {p : Program} {e : Env} {s : State} {m : MethodId} {args : Array Value} {below : List Frame} {meth : Method} {c : Code} (l : Launch) (D : va_G) (k : Nat → ClassId) (a : Nat → Nat) (A : Nat → Prop) (C0 : q_C p s m meth c args RX7 cX7_loseLock 1 none wsX7_loseLock D (tyL k) A) (R : T2) : ∀ (σ : T2), S_X7_loseLock_b0 σ → P_X7_loseLock_b0 σ = R → ∀ (H : Heap) (locs : List Loc) (ls : Array Slot), q_W D A s.heap (wX7 k a σ) H locs → lv_has ls 1 [(0, .ref (a 0))] → W p l e { frames := 0, cells := 0, slots := 0, locals := 0 } s m args below meth c H locs 0 0 (MQ below (va_Qv (fun u => u = R) (fun u => q_E D (tyL k) A (wX7 k a u)) A) args s 0 0 A) (F0 m 0 ls []) := by
  intro σ hs hR H locs ls hW hl
  rw [P_X7_loseLock_b0_e] at hR
  rw [S_X7_loseLock_b0_e] at hs
  obtain ⟨hx, hb, hr, hml, hts, hown, hlocks, hK, hA⟩ := id C0
  have hf39 := hts (.fieldLink RX7 39 "BeatFollower$Scene" "drummer" "LBeatFollower$Drummer;") (by decide +kernel)
  have hf46 := hts (.fieldLink RX7 46 "BeatFollower$Scene" "tally" "LBeatFollower$Tally;") (by decide +kernel)
  have hf132 := hts (.fieldLink RX7 132 "BeatFollower$Drummer" "state" "I") (by decide +kernel)
  have hf197 := hts (.fieldLink RX7 197 "BeatFollower$Drummer" "goodInRow" "I") (by decide +kernel)
  have hf200 := hts (.fieldLink RX7 200 "BeatFollower$Drummer" "badInRow" "I") (by decide +kernel)
  have hf209 := hts (.fieldLink RX7 209 "BeatFollower$Tally" "locksLost" "I") (by decide +kernel)
  have hinX1 : ∀ w ∈ u_ws RX1 TX1 7, w ∈ wsX7_loseLock := hin_X7_loseLock_X1
  have hinX7 : ∀ w ∈ u_ws RX7 TX7 7, w ∈ wsX7_loseLock := hin_X7_loseLock_X7
  have hinX8 : ∀ w ∈ u_ws RX8 TX8 10, w ∈ wsX7_loseLock := hin_X7_loseLock_X8
  refine lv_aload_n hx hb dX7_loseLock_0 rfl (lv_at hl 0 rfl) ?_
  refine va_get (v := .ref (a 15)) (C := RX7) (T := TX7) (N := 7) hx hb hts hinX7 hown hK hW.1 0 rfl rfl 4 (by decide) hf39 (fun _ h9 => h9) rfl dX7_loseLock_1 ?_
  refine lv_iconst (v := (0 : Int32)) hx hb dX7_loseLock_4 (by decide) ?_
  refine q_putf (ty := .int) (wd' := wX7 k a (u2 σ 15 (upd (σ 15) 0 (0 : Int32)))) C0 hW hinX1 tyX1 tyX1_ok nmX1 15 rfl rfl 0 (by decide) hf132 rfl (by decide +kernel) rfl rfl (Nat.le_of_ble_eq_true rfl) dX7_loseLock_5 (fX1_s0 _ _ _) (wX7_s15 k a _ _) (fun H locs hW => ?_)
  refine lv_aload_n hx hb dX7_loseLock_8 rfl (lv_at hl 0 rfl) ?_
  refine va_get (v := .ref (a 15)) (C := RX7) (T := TX7) (N := 7) hx hb hts hinX7 hown hK hW.1 0 rfl rfl 4 (by decide) hf39 (fun _ h9 => h9) rfl dX7_loseLock_9 ?_
  refine lv_iconst (v := (0 : Int32)) hx hb dX7_loseLock_12 (by decide) ?_
  refine q_putf (ty := .int) (wd' := wX7 k a (u2 σ 15 (upd (upd (σ 15) 0 (0 : Int32)) 3 (0 : Int32)))) C0 hW hinX1 tyX1 tyX1_ok nmX1 15 rfl rfl 3 (by decide) hf197 rfl (by decide +kernel) rfl rfl (Nat.le_of_ble_eq_true rfl) dX7_loseLock_13 (fX1_s3 _ _ _) ((wX7_s15 k a _ _).trans (congrArg (wX7 k a) (u2_same _ _ _ _))) (fun H locs hW => ?_)
  refine lv_aload_n hx hb dX7_loseLock_16 rfl (lv_at hl 0 rfl) ?_
  refine va_get (v := .ref (a 15)) (C := RX7) (T := TX7) (N := 7) hx hb hts hinX7 hown hK hW.1 0 rfl rfl 4 (by decide) hf39 (fun _ h9 => h9) rfl dX7_loseLock_17 ?_
  refine lv_iconst (v := (0 : Int32)) hx hb dX7_loseLock_20 (by decide) ?_
  refine q_putf (ty := .int) (wd' := wX7 k a (u2 σ 15 (upd (upd (upd (σ 15) 0 (0 : Int32)) 3 (0 : Int32)) 4 (0 : Int32)))) C0 hW hinX1 tyX1 tyX1_ok nmX1 15 rfl rfl 4 (by decide) hf200 rfl (by decide +kernel) rfl rfl (Nat.le_of_ble_eq_true rfl) dX7_loseLock_21 (fX1_s4 _ _ _) ((wX7_s15 k a _ _).trans (congrArg (wX7 k a) (u2_same _ _ _ _))) (fun H locs hW => ?_)
  refine lv_aload_n hx hb dX7_loseLock_24 rfl (lv_at hl 0 rfl) ?_
  refine va_get (v := .ref (a 16)) (C := RX7) (T := TX7) (N := 7) hx hb hts hinX7 hown hK hW.1 0 rfl rfl 5 (by decide) hf46 (fun _ h9 => h9) rfl dX7_loseLock_25 ?_
  refine lv_dup hx hb dX7_loseLock_28 rfl ?_
  refine va_get (v := .int (σ 16 4)) (C := RX8) (T := TX8) (N := 10) hx hb hts hinX8 hown hK hW.1 16 rfl rfl 4 (by decide) hf209 (fun _ h9 => h9) rfl dX7_loseLock_29 ?_
  refine lv_iconst (v := (1 : Int32)) hx hb dX7_loseLock_32 (by decide) ?_
  refine lv_iadd hx hb dX7_loseLock_33 ?_
  refine q_putf (ty := .int) (wd' := wX7 k a (u2 (u2 σ 15 (upd (upd (upd (σ 15) 0 (0 : Int32)) 3 (0 : Int32)) 4 (0 : Int32))) 16 (upd (σ 16) 4 ((σ 16 4) + (1 : Int32))))) C0 hW hinX8 tyX8 tyX8_ok nmX8 16 rfl rfl 4 (by decide) hf209 rfl (by decide +kernel) rfl rfl (Nat.le_of_ble_eq_true rfl) dX7_loseLock_34 (fX8_s4 _ _ _) (wX7_s16 k a _ _) (fun H locs hW => ?_)
  exact q_vret C0 hW hR dX7_loseLock_37
set_option maxHeartbeats 400000 in
set_option maxRecDepth 100000 in
theorem m_X7_loseLock (l : Launch) (D : va_G) (k : Nat → ClassId) (a : Nat → Nat) (sz : Nat) (σ : T2) (hs : S_X7_loseLock σ) : Met l yX7_loseLock wsX7_loseLock { frames := 0, cells := 0, slots := 0, locals := 0 } (va_Pc [.ref (a 0)] (q_B D (tyL k) (wX7 k a σ) sz)) (va_Qv (fun u => u = P_X7_loseLock σ) (fun u => q_E D (tyL k) (va_A (wX7 k a σ) sz) (wX7 k a u)) (va_A (wX7 k a σ) sz)) 0 0 (va_A (wX7 k a σ) sz) := by
  refine q_met [.ref (a 0)] (wX7 k a σ) sz (cc := cX7_loseLock) (maxL := 1) (ret := none) (by decide) rfl (Nat.le_of_ble_eq_true rfl) ?_
  intro p e s m args below meth c ls hsz C0 hW hl hin
  subst hsz
  exact b_X7_loseLock_b0 l D k a _ C0 _ σ  hs rfl s.heap [] ls hW (lv_sub hl [0] rfl)
theorem hin_X7_judge_X1 : ∀ w ∈ u_ws RX1 TX1 7, w ∈ wsX7_judge := by decide +kernel
theorem hin_X7_judge_X7 : ∀ w ∈ u_ws RX7 TX7 7, w ∈ wsX7_judge := by decide +kernel
theorem hin_X7_judge_X8 : ∀ w ∈ u_ws RX8 TX8 10, w ∈ wsX7_judge := by decide +kernel
theorem hd_X7_judge : yX7_judge.cls = RX7 ∧ yX7_judge.cls ≠ "java/lang/invoke/MethodHandle" ∧ yX7_judge.cls ≠ "java/lang/invoke/VarHandle" ∧ (parseMethodDescriptor yX7_judge.desc).map (fun d => d.parameters.length) = some 1 := by decide +kernel
noncomputable def P_X7_judge_b100 (σ : T2) : T2 := if (σ 15 0) = 0 then (σ) else (if (σ 15 4) < (σ 1 6) then (σ) else (P_X7_loseLock σ))
def S_X7_judge_b100 (σ : T2) : Prop := ((σ 15 0) = 0 → (True)) ∧ (¬ ((σ 15 0) = 0) → (((σ 15 4) < (σ 1 6) → (True)) ∧ (¬ ((σ 15 4) < (σ 1 6)) → ((S_X7_loseLock σ ) ∧ (True)))))
theorem P_X7_judge_b100_e (σ : T2) : P_X7_judge_b100 σ = if (σ 15 0) = 0 then (σ) else (if (σ 15 4) < (σ 1 6) then (σ) else (P_X7_loseLock σ)) := rfl
theorem S_X7_judge_b100_e (σ : T2) : S_X7_judge_b100 σ = (((σ 15 0) = 0 → (True)) ∧ (¬ ((σ 15 0) = 0) → (((σ 15 4) < (σ 1 6) → (True)) ∧ (¬ ((σ 15 4) < (σ 1 6)) → ((S_X7_loseLock σ ) ∧ (True)))))) := rfl
noncomputable def P_X7_judge_b45 (σ : T2) (v1 : Int32) (t0 : Int32) : T2 := if v1 = 0 then (P_X7_judge_b100 (u2 σ 15 (upd (σ 15) 4 t0))) else (if (σ 15 0) = (1 : Int32) then (P_X7_judge_b100 (u2 σ 15 (upd (σ 15) 4 t0))) else (if (σ 15 3) < (σ 1 5) then (P_X7_judge_b100 (u2 σ 15 (upd (σ 15) 4 t0))) else (P_X7_judge_b100 (u2 (u2 σ 15 (upd (upd (σ 15) 4 t0) 0 (1 : Int32))) 16 (upd (σ 16) 3 ((σ 16 3) + (1 : Int32)))))))
def S_X7_judge_b45 (σ : T2) (v1 : Int32) (t0 : Int32) : Prop := (v1 = 0 → (S_X7_judge_b100 (u2 σ 15 (upd (σ 15) 4 t0)))) ∧ (¬ (v1 = 0) → (((σ 15 0) = (1 : Int32) → (S_X7_judge_b100 (u2 σ 15 (upd (σ 15) 4 t0)))) ∧ (¬ ((σ 15 0) = (1 : Int32)) → (((σ 15 3) < (σ 1 5) → (S_X7_judge_b100 (u2 σ 15 (upd (σ 15) 4 t0)))) ∧ (¬ ((σ 15 3) < (σ 1 5)) → (S_X7_judge_b100 (u2 (u2 σ 15 (upd (upd (σ 15) 4 t0) 0 (1 : Int32))) 16 (upd (σ 16) 3 ((σ 16 3) + (1 : Int32))))))))))
theorem P_X7_judge_b45_e (σ : T2) (v1 : Int32) (t0 : Int32) : P_X7_judge_b45 σ v1 t0 = if v1 = 0 then (P_X7_judge_b100 (u2 σ 15 (upd (σ 15) 4 t0))) else (if (σ 15 0) = (1 : Int32) then (P_X7_judge_b100 (u2 σ 15 (upd (σ 15) 4 t0))) else (if (σ 15 3) < (σ 1 5) then (P_X7_judge_b100 (u2 σ 15 (upd (σ 15) 4 t0))) else (P_X7_judge_b100 (u2 (u2 σ 15 (upd (upd (σ 15) 4 t0) 0 (1 : Int32))) 16 (upd (σ 16) 3 ((σ 16 3) + (1 : Int32))))))) := rfl
theorem S_X7_judge_b45_e (σ : T2) (v1 : Int32) (t0 : Int32) : S_X7_judge_b45 σ v1 t0 = ((v1 = 0 → (S_X7_judge_b100 (u2 σ 15 (upd (σ 15) 4 t0)))) ∧ (¬ (v1 = 0) → (((σ 15 0) = (1 : Int32) → (S_X7_judge_b100 (u2 σ 15 (upd (σ 15) 4 t0)))) ∧ (¬ ((σ 15 0) = (1 : Int32)) → (((σ 15 3) < (σ 1 5) → (S_X7_judge_b100 (u2 σ 15 (upd (σ 15) 4 t0)))) ∧ (¬ ((σ 15 3) < (σ 1 5)) → (S_X7_judge_b100 (u2 (u2 σ 15 (upd (upd (σ 15) 4 t0) 0 (1 : Int32))) 16 (upd (σ 16) 3 ((σ 16 3) + (1 : Int32))))))))))) := rfl
noncomputable def P_X7_judge_b21 (σ : T2) (v1 : Int32) (t0 : Int32) : T2 := if v1 = 0 then (P_X7_judge_b45 (u2 σ 15 (upd (σ 15) 3 t0)) v1 ((σ 15 4) + (1 : Int32))) else (P_X7_judge_b45 (u2 σ 15 (upd (σ 15) 3 t0)) v1 (0 : Int32))
def S_X7_judge_b21 (σ : T2) (v1 : Int32) (t0 : Int32) : Prop := (v1 = 0 → (S_X7_judge_b45 (u2 σ 15 (upd (σ 15) 3 t0)) v1 ((σ 15 4) + (1 : Int32)))) ∧ (¬ (v1 = 0) → (S_X7_judge_b45 (u2 σ 15 (upd (σ 15) 3 t0)) v1 (0 : Int32)))
theorem P_X7_judge_b21_e (σ : T2) (v1 : Int32) (t0 : Int32) : P_X7_judge_b21 σ v1 t0 = if v1 = 0 then (P_X7_judge_b45 (u2 σ 15 (upd (σ 15) 3 t0)) v1 ((σ 15 4) + (1 : Int32))) else (P_X7_judge_b45 (u2 σ 15 (upd (σ 15) 3 t0)) v1 (0 : Int32)) := rfl
theorem S_X7_judge_b21_e (σ : T2) (v1 : Int32) (t0 : Int32) : S_X7_judge_b21 σ v1 t0 = ((v1 = 0 → (S_X7_judge_b45 (u2 σ 15 (upd (σ 15) 3 t0)) v1 ((σ 15 4) + (1 : Int32)))) ∧ (¬ (v1 = 0) → (S_X7_judge_b45 (u2 σ 15 (upd (σ 15) 3 t0)) v1 (0 : Int32)))) := rfl
noncomputable def P_X7_judge_b0 (σ : T2) (v1 : Int32) : T2 := if v1 = 0 then (P_X7_judge_b21 σ v1 (0 : Int32)) else (P_X7_judge_b21 σ v1 ((σ 15 3) + (1 : Int32)))
def S_X7_judge_b0 (σ : T2) (v1 : Int32) : Prop := (v1 = 0 → (S_X7_judge_b21 σ v1 (0 : Int32))) ∧ (¬ (v1 = 0) → (S_X7_judge_b21 σ v1 ((σ 15 3) + (1 : Int32))))
theorem P_X7_judge_b0_e (σ : T2) (v1 : Int32) : P_X7_judge_b0 σ v1 = if v1 = 0 then (P_X7_judge_b21 σ v1 (0 : Int32)) else (P_X7_judge_b21 σ v1 ((σ 15 3) + (1 : Int32))) := rfl
theorem S_X7_judge_b0_e (σ : T2) (v1 : Int32) : S_X7_judge_b0 σ v1 = ((v1 = 0 → (S_X7_judge_b21 σ v1 (0 : Int32))) ∧ (¬ (v1 = 0) → (S_X7_judge_b21 σ v1 ((σ 15 3) + (1 : Int32))))) := rfl
noncomputable def P_X7_judge (σ : T2) (p0 : Int32) : T2 := P_X7_judge_b0 σ p0
def S_X7_judge (σ : T2) (p0 : Int32) : Prop := S_X7_judge_b0 σ p0
set_option maxHeartbeats 400000 in
set_option maxRecDepth 100000 in
theorem b_X7_judge_b100 {p : Program} {e : Env} {s : State} {m : MethodId} {args : Array Value} {below : List Frame} {meth : Method} {c : Code} (l : Launch) (D : va_G) (k : Nat → ClassId) (a : Nat → Nat) (A : Nat → Prop) (C0 : q_C p s m meth c args RX7 cX7_judge 2 none wsX7_judge D (tyL k) A) (R : T2) : ∀ (σ : T2), S_X7_judge_b100 σ → P_X7_judge_b100 σ = R → ∀ (H : Heap) (locs : List Loc) (ls : Array Slot), q_W D A s.heap (wX7 k a σ) H locs → lv_has ls 2 [(0, .ref (a 0))] → W p l e { frames := 1, cells := 0, slots := 0, locals := 20 } s m args below meth c H locs 0 0 (MQ below (va_Qv (fun u => u = R) (fun u => q_E D (tyL k) A (wX7 k a u)) A) args s 0 0 A) (F0 m 100 ls []) := by
  intro σ hs hR H locs ls hW hl
  rw [P_X7_judge_b100_e] at hR
  rw [S_X7_judge_b100_e] at hs
  obtain ⟨hx, hb, hr, hml, hts, hown, hlocks, hK, hA⟩ := id C0
  have hf9 := hts (.fieldLink RX7 9 "BeatFollower$Scene" "settings" "[I") (by decide +kernel)
  have hf39 := hts (.fieldLink RX7 39 "BeatFollower$Scene" "drummer" "LBeatFollower$Drummer;") (by decide +kernel)
  have hf132 := hts (.fieldLink RX7 132 "BeatFollower$Drummer" "state" "I") (by decide +kernel)
  have hf200 := hts (.fieldLink RX7 200 "BeatFollower$Drummer" "badInRow" "I") (by decide +kernel)
  have hinX1 : ∀ w ∈ u_ws RX1 TX1 7, w ∈ wsX7_judge := hin_X7_judge_X1
  have hinX7 : ∀ w ∈ u_ws RX7 TX7 7, w ∈ wsX7_judge := hin_X7_judge_X7
  refine lv_aload_n hx hb dX7_judge_100 rfl (lv_at hl 0 rfl) ?_
  refine va_get (v := .ref (a 15)) (C := RX7) (T := TX7) (N := 7) hx hb hts hinX7 hown hK hW.1 0 rfl rfl 4 (by decide) hf39 (fun _ h9 => h9) rfl dX7_judge_101 ?_
  refine va_get (v := .int (σ 15 0)) (C := RX1) (T := TX1) (N := 7) hx hb hts hinX1 hown hK hW.1 15 rfl rfl 0 (by decide) hf132 (fun _ h9 => h9) rfl dX7_judge_104 ?_
  refine lv_if_eq (tgt := 131) hx hb dX7_judge_107 (by decide) (fun c_4 => ?_) (fun c_4 => ?_)
  · have hs := hs.1 c_4
    rw [if_pos c_4] at hR
    exact q_vret C0 hW hR dX7_judge_131
  · have hs := hs.2 c_4
    rw [if_neg c_4] at hR
    refine lv_aload_n hx hb dX7_judge_110 rfl (lv_at hl 0 rfl) ?_
    refine va_get (v := .ref (a 15)) (C := RX7) (T := TX7) (N := 7) hx hb hts hinX7 hown hK hW.1 0 rfl rfl 4 (by decide) hf39 (fun _ h9 => h9) rfl dX7_judge_111 ?_
    refine va_get (v := .int (σ 15 4)) (C := RX1) (T := TX1) (N := 7) hx hb hts hinX1 hown hK hW.1 15 rfl rfl 4 (by decide) hf200 (fun _ h9 => h9) rfl dX7_judge_114 ?_
    refine lv_aload_n hx hb dX7_judge_117 rfl (lv_at hl 0 rfl) ?_
    refine va_get (v := .ref (a 1)) (C := RX7) (T := TX7) (N := 7) hx hb hts hinX7 hown hK hW.1 0 rfl rfl 0 (by decide) hf9 (fun _ h9 => h9) rfl dX7_judge_118 ?_
    refine lv_bipush (v := (6 : Int32)) hx hb dX7_judge_121 (by decide) ?_
    refine q_iald (v := σ 1 6) C0 hW 1 rfl rfl vi_6_8 cl_6 rfl dX7_judge_123 ?_
    refine lv_icmp_lt (tgt := 131) hx hb dX7_judge_124 (by decide) (fun c_5 => ?_) (fun c_5 => ?_)
    · have hs := hs.1 c_5
      rw [if_pos c_5] at hR
      exact q_vret C0 hW hR dX7_judge_131
    · have hs := hs.2 c_5
      rw [if_neg c_5] at hR
      refine lv_aload_n hx hb dX7_judge_127 rfl (lv_at hl 0 rfl) ?_
      have hs6 := hs.1
      have hs := hs.2
      refine q_Vv (As := []) (rest := []) (wf := wX7 k a) (R := P_X7_loseLock σ) (wd' := wX7 k a (P_X7_loseLock σ)) [0, 1, 2, 3, 4, 5, 6, 7, 8, 9, 10, 11, 12, 13, 14, 15, 16] [0, 1, 2, 3] 0 7 C0 hW (m_X7_loseLock l D k a H.size σ  hs6) (cwV 0 hts gX7_judge_X7_loseLock rfl rfl rfl hd_X7_loseLock ⟨Nat.le_of_ble_eq_true rfl, Nat.le_of_ble_eq_true rfl⟩) (by decide) (wX7_pl k a _) rfl (wX7_rec k a _) rfl (wX7_fst k a _ _) (wX7_put k a _ _) hl rfl rfl (Nat.le_of_ble_eq_true rfl) dX7_judge_128 ⟨Nat.le_refl 0, Nat.le_refl 0⟩ (fun H locs hW => ?_)
      exact q_vret C0 hW hR dX7_judge_131
set_option maxHeartbeats 400000 in
set_option maxRecDepth 100000 in
theorem b_X7_judge_b45 {p : Program} {e : Env} {s : State} {m : MethodId} {args : Array Value} {below : List Frame} {meth : Method} {c : Code} (l : Launch) (D : va_G) (k : Nat → ClassId) (a : Nat → Nat) (A : Nat → Prop) (C0 : q_C p s m meth c args RX7 cX7_judge 2 none wsX7_judge D (tyL k) A) (R : T2) : ∀ (σ : T2) (v1 : Int32) (t0 : Int32), S_X7_judge_b45 σ v1 t0 → P_X7_judge_b45 σ v1 t0 = R → ∀ (H : Heap) (locs : List Loc) (ls : Array Slot), q_W D A s.heap (wX7 k a σ) H locs → lv_has ls 2 [(0, .ref (a 0)), (1, .int v1)] → W p l e { frames := 1, cells := 0, slots := 0, locals := 20 } s m args below meth c H locs 0 0 (MQ below (va_Qv (fun u => u = R) (fun u => q_E D (tyL k) A (wX7 k a u)) A) args s 0 0 A) (F0 m 45 ls [.int t0, .ref (a 15)]) := by
  intro σ v1 t0 hs hR H locs ls hW hl
  rw [P_X7_judge_b45_e] at hR
  rw [S_X7_judge_b45_e] at hs
  obtain ⟨hx, hb, hr, hml, hts, hown, hlocks, hK, hA⟩ := id C0
  have hf9 := hts (.fieldLink RX7 9 "BeatFollower$Scene" "settings" "[I") (by decide +kernel)
  have hf39 := hts (.fieldLink RX7 39 "BeatFollower$Scene" "drummer" "LBeatFollower$Drummer;") (by decide +kernel)
  have hf46 := hts (.fieldLink RX7 46 "BeatFollower$Scene" "tally" "LBeatFollower$Tally;") (by decide +kernel)
  have hf132 := hts (.fieldLink RX7 132 "BeatFollower$Drummer" "state" "I") (by decide +kernel)
  have hf197 := hts (.fieldLink RX7 197 "BeatFollower$Drummer" "goodInRow" "I") (by decide +kernel)
  have hf200 := hts (.fieldLink RX7 200 "BeatFollower$Drummer" "badInRow" "I") (by decide +kernel)
  have hf203 := hts (.fieldLink RX7 203 "BeatFollower$Tally" "locksWon" "I") (by decide +kernel)
  have hinX1 : ∀ w ∈ u_ws RX1 TX1 7, w ∈ wsX7_judge := hin_X7_judge_X1
  have hinX7 : ∀ w ∈ u_ws RX7 TX7 7, w ∈ wsX7_judge := hin_X7_judge_X7
  have hinX8 : ∀ w ∈ u_ws RX8 TX8 10, w ∈ wsX7_judge := hin_X7_judge_X8
  refine q_putf (ty := .int) (wd' := wX7 k a (u2 σ 15 (upd (σ 15) 4 t0))) C0 hW hinX1 tyX1 tyX1_ok nmX1 15 rfl rfl 4 (by decide) hf200 rfl (by decide +kernel) rfl rfl (Nat.le_of_ble_eq_true rfl) dX7_judge_45 (fX1_s4 _ _ _) (wX7_s15 k a _ _) (fun H locs hW => ?_)
  refine lv_iload_n hx hb dX7_judge_48 rfl (lv_at hl 1 rfl) ?_
  refine lv_if_eq (tgt := 100) hx hb dX7_judge_49 (by decide) (fun c_3 => ?_) (fun c_3 => ?_)
  · have hs := hs.1 c_3
    rw [if_pos c_3] at hR
    exact b_X7_judge_b100 l D k a A C0 R (u2 σ 15 (upd (σ 15) 4 t0)) hs hR H locs ls hW (lv_sub hl [0] rfl)
  · have hs := hs.2 c_3
    rw [if_neg c_3] at hR
    refine lv_aload_n hx hb dX7_judge_52 rfl (lv_at hl 0 rfl) ?_
    refine va_get (v := .ref (a 15)) (C := RX7) (T := TX7) (N := 7) hx hb hts hinX7 hown hK hW.1 0 rfl rfl 4 (by decide) hf39 (fun _ h9 => h9) rfl dX7_judge_53 ?_
    refine va_get (v := .int (σ 15 0)) (C := RX1) (T := TX1) (N := 7) hx hb hts hinX1 hown hK hW.1 15 rfl rfl 0 (by decide) hf132 (fun _ h9 => h9) rfl dX7_judge_56 ?_
    refine lv_iconst (v := (1 : Int32)) hx hb dX7_judge_59 (by decide) ?_
    refine lv_icmp_eq (tgt := 100) hx hb dX7_judge_60 (by decide) (fun c_7 => ?_) (fun c_7 => ?_)
    · have hs := hs.1 c_7
      rw [if_pos c_7] at hR
      exact b_X7_judge_b100 l D k a A C0 R (u2 σ 15 (upd (σ 15) 4 t0)) hs hR H locs ls hW (lv_sub hl [0] rfl)
    · have hs := hs.2 c_7
      rw [if_neg c_7] at hR
      refine lv_aload_n hx hb dX7_judge_63 rfl (lv_at hl 0 rfl) ?_
      refine va_get (v := .ref (a 15)) (C := RX7) (T := TX7) (N := 7) hx hb hts hinX7 hown hK hW.1 0 rfl rfl 4 (by decide) hf39 (fun _ h9 => h9) rfl dX7_judge_64 ?_
      refine va_get (v := .int (σ 15 3)) (C := RX1) (T := TX1) (N := 7) hx hb hts hinX1 hown hK hW.1 15 rfl rfl 3 (by decide) hf197 (fun _ h9 => h9) rfl dX7_judge_67 ?_
      refine lv_aload_n hx hb dX7_judge_70 rfl (lv_at hl 0 rfl) ?_
      refine va_get (v := .ref (a 1)) (C := RX7) (T := TX7) (N := 7) hx hb hts hinX7 hown hK hW.1 0 rfl rfl 0 (by decide) hf9 (fun _ h9 => h9) rfl dX7_judge_71 ?_
      refine lv_iconst (v := (5 : Int32)) hx hb dX7_judge_74 (by decide) ?_
      refine q_iald (v := σ 1 5) C0 hW 1 rfl rfl vi_5_8 cl_5 rfl dX7_judge_75 ?_
      refine lv_icmp_lt (tgt := 100) hx hb dX7_judge_76 (by decide) (fun c_8 => ?_) (fun c_8 => ?_)
      · have hs := hs.1 c_8
        rw [if_pos c_8] at hR
        exact b_X7_judge_b100 l D k a A C0 R (u2 σ 15 (upd (σ 15) 4 t0)) hs hR H locs ls hW (lv_sub hl [0] rfl)
      · have hs := hs.2 c_8
        rw [if_neg c_8] at hR
        refine lv_aload_n hx hb dX7_judge_79 rfl (lv_at hl 0 rfl) ?_
        refine va_get (v := .ref (a 15)) (C := RX7) (T := TX7) (N := 7) hx hb hts hinX7 hown hK hW.1 0 rfl rfl 4 (by decide) hf39 (fun _ h9 => h9) rfl dX7_judge_80 ?_
        refine lv_iconst (v := (1 : Int32)) hx hb dX7_judge_83 (by decide) ?_
        refine q_putf (ty := .int) (wd' := wX7 k a (u2 σ 15 (upd (upd (σ 15) 4 t0) 0 (1 : Int32)))) C0 hW hinX1 tyX1 tyX1_ok nmX1 15 rfl rfl 0 (by decide) hf132 rfl (by decide +kernel) rfl rfl (Nat.le_of_ble_eq_true rfl) dX7_judge_84 (fX1_s0 _ _ _) ((wX7_s15 k a _ _).trans (congrArg (wX7 k a) (u2_same _ _ _ _))) (fun H locs hW => ?_)
        refine lv_aload_n hx hb dX7_judge_87 rfl (lv_at hl 0 rfl) ?_
        refine va_get (v := .ref (a 16)) (C := RX7) (T := TX7) (N := 7) hx hb hts hinX7 hown hK hW.1 0 rfl rfl 5 (by decide) hf46 (fun _ h9 => h9) rfl dX7_judge_88 ?_
        refine lv_dup hx hb dX7_judge_91 rfl ?_
        refine va_get (v := .int (σ 16 3)) (C := RX8) (T := TX8) (N := 10) hx hb hts hinX8 hown hK hW.1 16 rfl rfl 3 (by decide) hf203 (fun _ h9 => h9) rfl dX7_judge_92 ?_
        refine lv_iconst (v := (1 : Int32)) hx hb dX7_judge_95 (by decide) ?_
        refine lv_iadd hx hb dX7_judge_96 ?_
        refine q_putf (ty := .int) (wd' := wX7 k a (u2 (u2 σ 15 (upd (upd (σ 15) 4 t0) 0 (1 : Int32))) 16 (upd (σ 16) 3 ((σ 16 3) + (1 : Int32))))) C0 hW hinX8 tyX8 tyX8_ok nmX8 16 rfl rfl 3 (by decide) hf203 rfl (by decide +kernel) rfl rfl (Nat.le_of_ble_eq_true rfl) dX7_judge_97 (fX8_s3 _ _ _) (wX7_s16 k a _ _) (fun H locs hW => ?_)
        exact b_X7_judge_b100 l D k a A C0 R (u2 (u2 σ 15 (upd (upd (σ 15) 4 t0) 0 (1 : Int32))) 16 (upd (σ 16) 3 ((σ 16 3) + (1 : Int32)))) hs hR H locs ls hW (lv_sub hl [0] rfl)
set_option maxHeartbeats 400000 in
set_option maxRecDepth 100000 in
theorem b_X7_judge_b21 {p : Program} {e : Env} {s : State} {m : MethodId} {args : Array Value} {below : List Frame} {meth : Method} {c : Code} (l : Launch) (D : va_G) (k : Nat → ClassId) (a : Nat → Nat) (A : Nat → Prop) (C0 : q_C p s m meth c args RX7 cX7_judge 2 none wsX7_judge D (tyL k) A) (R : T2) : ∀ (σ : T2) (v1 : Int32) (t0 : Int32), S_X7_judge_b21 σ v1 t0 → P_X7_judge_b21 σ v1 t0 = R → ∀ (H : Heap) (locs : List Loc) (ls : Array Slot), q_W D A s.heap (wX7 k a σ) H locs → lv_has ls 2 [(0, .ref (a 0)), (1, .int v1)] → W p l e { frames := 1, cells := 0, slots := 0, locals := 20 } s m args below meth c H locs 0 0 (MQ below (va_Qv (fun u => u = R) (fun u => q_E D (tyL k) A (wX7 k a u)) A) args s 0 0 A) (F0 m 21 ls [.int t0, .ref (a 15)]) := by
  intro σ v1 t0 hs hR H locs ls hW hl
  rw [P_X7_judge_b21_e] at hR
  rw [S_X7_judge_b21_e] at hs
  obtain ⟨hx, hb, hr, hml, hts, hown, hlocks, hK, hA⟩ := id C0
  have hf39 := hts (.fieldLink RX7 39 "BeatFollower$Scene" "drummer" "LBeatFollower$Drummer;") (by decide +kernel)
  have hf197 := hts (.fieldLink RX7 197 "BeatFollower$Drummer" "goodInRow" "I") (by decide +kernel)
  have hf200 := hts (.fieldLink RX7 200 "BeatFollower$Drummer" "badInRow" "I") (by decide +kernel)
  have hinX1 : ∀ w ∈ u_ws RX1 TX1 7, w ∈ wsX7_judge := hin_X7_judge_X1
  have hinX7 : ∀ w ∈ u_ws RX7 TX7 7, w ∈ wsX7_judge := hin_X7_judge_X7
  refine q_putf (ty := .int) (wd' := wX7 k a (u2 σ 15 (upd (σ 15) 3 t0))) C0 hW hinX1 tyX1 tyX1_ok nmX1 15 rfl rfl 3 (by decide) hf197 rfl (by decide +kernel) rfl rfl (Nat.le_of_ble_eq_true rfl) dX7_judge_21 (fX1_s3 _ _ _) (wX7_s15 k a _ _) (fun H locs hW => ?_)
  refine lv_aload_n hx hb dX7_judge_24 rfl (lv_at hl 0 rfl) ?_
  refine va_get (v := .ref (a 15)) (C := RX7) (T := TX7) (N := 7) hx hb hts hinX7 hown hK hW.1 0 rfl rfl 4 (by decide) hf39 (fun _ h9 => h9) rfl dX7_judge_25 ?_
  refine lv_iload_n hx hb dX7_judge_28 rfl (lv_at hl 1 rfl) ?_
  refine lv_if_eq (tgt := 36) hx hb dX7_judge_29 (by decide) (fun c_2 => ?_) (fun c_2 => ?_)
  · have hs := hs.1 c_2
    rw [if_pos c_2] at hR
    refine lv_aload_n hx hb dX7_judge_36 rfl (lv_at hl 0 rfl) ?_
    refine va_get (v := .ref (a 15)) (C := RX7) (T := TX7) (N := 7) hx hb hts hinX7 hown hK hW.1 0 rfl rfl 4 (by decide) hf39 (fun _ h9 => h9) rfl dX7_judge_37 ?_
    refine va_get (v := .int (σ 15 4)) (C := RX1) (T := TX1) (N := 7) hx hb hts hinX1 hown hK hW.1 15 rfl rfl 4 (by decide) hf200 (fun _ h9 => h9) rfl dX7_judge_40 ?_
    refine lv_iconst (v := (1 : Int32)) hx hb dX7_judge_43 (by decide) ?_
    refine lv_iadd hx hb dX7_judge_44 ?_
    exact b_X7_judge_b45 l D k a A C0 R (u2 σ 15 (upd (σ 15) 3 t0)) v1 ((σ 15 4) + (1 : Int32)) hs hR H locs ls hW (lv_sub hl [0, 1] rfl)
  · have hs := hs.2 c_2
    rw [if_neg c_2] at hR
    refine lv_iconst (v := (0 : Int32)) hx hb dX7_judge_32 (by decide) ?_
    refine lv_goto (tgt := 45) hx hb dX7_judge_33 (by decide) ?_
    exact b_X7_judge_b45 l D k a A C0 R (u2 σ 15 (upd (σ 15) 3 t0)) v1 (0 : Int32) hs hR H locs ls hW (lv_sub hl [0, 1] rfl)
set_option maxHeartbeats 400000 in
set_option maxRecDepth 100000 in
theorem b_X7_judge_b0 {p : Program} {e : Env} {s : State} {m : MethodId} {args : Array Value} {below : List Frame} {meth : Method} {c : Code} (l : Launch) (D : va_G) (k : Nat → ClassId) (a : Nat → Nat) (A : Nat → Prop) (C0 : q_C p s m meth c args RX7 cX7_judge 2 none wsX7_judge D (tyL k) A) (R : T2) : ∀ (σ : T2) (v1 : Int32), S_X7_judge_b0 σ v1 → P_X7_judge_b0 σ v1 = R → ∀ (H : Heap) (locs : List Loc) (ls : Array Slot), q_W D A s.heap (wX7 k a σ) H locs → lv_has ls 2 [(0, .ref (a 0)), (1, .int v1)] → W p l e { frames := 1, cells := 0, slots := 0, locals := 20 } s m args below meth c H locs 0 0 (MQ below (va_Qv (fun u => u = R) (fun u => q_E D (tyL k) A (wX7 k a u)) A) args s 0 0 A) (F0 m 0 ls []) := by
  intro σ v1 hs hR H locs ls hW hl
  rw [P_X7_judge_b0_e] at hR
  rw [S_X7_judge_b0_e] at hs
  obtain ⟨hx, hb, hr, hml, hts, hown, hlocks, hK, hA⟩ := id C0
  have hf39 := hts (.fieldLink RX7 39 "BeatFollower$Scene" "drummer" "LBeatFollower$Drummer;") (by decide +kernel)
  have hf197 := hts (.fieldLink RX7 197 "BeatFollower$Drummer" "goodInRow" "I") (by decide +kernel)
  have hinX1 : ∀ w ∈ u_ws RX1 TX1 7, w ∈ wsX7_judge := hin_X7_judge_X1
  have hinX7 : ∀ w ∈ u_ws RX7 TX7 7, w ∈ wsX7_judge := hin_X7_judge_X7
  refine lv_aload_n hx hb dX7_judge_0 rfl (lv_at hl 0 rfl) ?_
  refine va_get (v := .ref (a 15)) (C := RX7) (T := TX7) (N := 7) hx hb hts hinX7 hown hK hW.1 0 rfl rfl 4 (by decide) hf39 (fun _ h9 => h9) rfl dX7_judge_1 ?_
  refine lv_iload_n hx hb dX7_judge_4 rfl (lv_at hl 1 rfl) ?_
  refine lv_if_eq (tgt := 20) hx hb dX7_judge_5 (by decide) (fun c_1 => ?_) (fun c_1 => ?_)
  · have hs := hs.1 c_1
    rw [if_pos c_1] at hR
    refine lv_iconst (v := (0 : Int32)) hx hb dX7_judge_20 (by decide) ?_
    exact b_X7_judge_b21 l D k a A C0 R σ v1 (0 : Int32) hs hR H locs ls hW (lv_sub hl [0, 1] rfl)
  · have hs := hs.2 c_1
    rw [if_neg c_1] at hR
    refine lv_aload_n hx hb dX7_judge_8 rfl (lv_at hl 0 rfl) ?_
    refine va_get (v := .ref (a 15)) (C := RX7) (T := TX7) (N := 7) hx hb hts hinX7 hown hK hW.1 0 rfl rfl 4 (by decide) hf39 (fun _ h9 => h9) rfl dX7_judge_9 ?_
    refine va_get (v := .int (σ 15 3)) (C := RX1) (T := TX1) (N := 7) hx hb hts hinX1 hown hK hW.1 15 rfl rfl 3 (by decide) hf197 (fun _ h9 => h9) rfl dX7_judge_12 ?_
    refine lv_iconst (v := (1 : Int32)) hx hb dX7_judge_15 (by decide) ?_
    refine lv_iadd hx hb dX7_judge_16 ?_
    refine lv_goto (tgt := 21) hx hb dX7_judge_17 (by decide) ?_
    exact b_X7_judge_b21 l D k a A C0 R σ v1 ((σ 15 3) + (1 : Int32)) hs hR H locs ls hW (lv_sub hl [0, 1] rfl)
set_option maxHeartbeats 400000 in
set_option maxRecDepth 100000 in
theorem m_X7_judge (l : Launch) (D : va_G) (k : Nat → ClassId) (a : Nat → Nat) (sz : Nat) (σ : T2) (p0 : Int32) (hs : S_X7_judge σ p0) : Met l yX7_judge wsX7_judge { frames := 1, cells := 0, slots := 0, locals := 20 } (va_Pc [.ref (a 0), .int p0] (q_B D (tyL k) (wX7 k a σ) sz)) (va_Qv (fun u => u = P_X7_judge σ p0) (fun u => q_E D (tyL k) (va_A (wX7 k a σ) sz) (wX7 k a u)) (va_A (wX7 k a σ) sz)) 0 0 (va_A (wX7 k a σ) sz) := by
  refine q_met [.ref (a 0), .int p0] (wX7 k a σ) sz (cc := cX7_judge) (maxL := 2) (ret := none) (by decide) rfl (Nat.le_of_ble_eq_true rfl) ?_
  intro p e s m args below meth c ls hsz C0 hW hl hin
  subst hsz
  exact b_X7_judge_b0 l D k a _ C0 _ σ p0 hs rfl s.heap [] ls hW (lv_sub hl [0, 1] rfl)
theorem hin_X7_fallSilent_X1 : ∀ w ∈ u_ws RX1 TX1 7, w ∈ wsX7_fallSilent := by decide +kernel
theorem hin_X7_fallSilent_X7 : ∀ w ∈ u_ws RX7 TX7 7, w ∈ wsX7_fallSilent := by decide +kernel
theorem hin_X7_fallSilent_X8 : ∀ w ∈ u_ws RX8 TX8 10, w ∈ wsX7_fallSilent := by decide +kernel
theorem hd_X7_fallSilent : yX7_fallSilent.cls = RX7 ∧ yX7_fallSilent.cls ≠ "java/lang/invoke/MethodHandle" ∧ yX7_fallSilent.cls ≠ "java/lang/invoke/VarHandle" ∧ (parseMethodDescriptor yX7_fallSilent.desc).map (fun d => d.parameters.length) = some 0 := by decide +kernel
noncomputable def P_X7_fallSilent_b27 (σ : T2) : T2 := u2 σ 15 (upd (upd (upd (upd (σ 15) 3 (0 : Int32)) 4 (0 : Int32)) 5 (0 : Int32)) 2 (-6 : Int32))
def S_X7_fallSilent_b27 (σ : T2) : Prop := True
theorem P_X7_fallSilent_b27_e (σ : T2) : P_X7_fallSilent_b27 σ = u2 σ 15 (upd (upd (upd (upd (σ 15) 3 (0 : Int32)) 4 (0 : Int32)) 5 (0 : Int32)) 2 (-6 : Int32)) := rfl
theorem S_X7_fallSilent_b27_e (σ : T2) : S_X7_fallSilent_b27 σ = (True) := rfl
noncomputable def P_X7_fallSilent_b0 (σ : T2) : T2 := if (σ 15 0) = 0 then (P_X7_fallSilent_b27 (u2 σ 16 (upd (σ 16) 5 ((σ 16 5) + (1 : Int32))))) else (P_X7_fallSilent_b27 (P_X7_loseLock (u2 σ 16 (upd (σ 16) 5 ((σ 16 5) + (1 : Int32))))))
def S_X7_fallSilent_b0 (σ : T2) : Prop := ((σ 15 0) = 0 → (S_X7_fallSilent_b27 (u2 σ 16 (upd (σ 16) 5 ((σ 16 5) + (1 : Int32)))))) ∧ (¬ ((σ 15 0) = 0) → ((S_X7_loseLock (u2 σ 16 (upd (σ 16) 5 ((σ 16 5) + (1 : Int32)))) ) ∧ (S_X7_fallSilent_b27 (P_X7_loseLock (u2 σ 16 (upd (σ 16) 5 ((σ 16 5) + (1 : Int32))))))))
theorem P_X7_fallSilent_b0_e (σ : T2) : P_X7_fallSilent_b0 σ = if (σ 15 0) = 0 then (P_X7_fallSilent_b27 (u2 σ 16 (upd (σ 16) 5 ((σ 16 5) + (1 : Int32))))) else (P_X7_fallSilent_b27 (P_X7_loseLock (u2 σ 16 (upd (σ 16) 5 ((σ 16 5) + (1 : Int32)))))) := rfl
theorem S_X7_fallSilent_b0_e (σ : T2) : S_X7_fallSilent_b0 σ = (((σ 15 0) = 0 → (S_X7_fallSilent_b27 (u2 σ 16 (upd (σ 16) 5 ((σ 16 5) + (1 : Int32)))))) ∧ (¬ ((σ 15 0) = 0) → ((S_X7_loseLock (u2 σ 16 (upd (σ 16) 5 ((σ 16 5) + (1 : Int32)))) ) ∧ (S_X7_fallSilent_b27 (P_X7_loseLock (u2 σ 16 (upd (σ 16) 5 ((σ 16 5) + (1 : Int32))))))))) := rfl
noncomputable def P_X7_fallSilent (σ : T2) : T2 := P_X7_fallSilent_b0 σ
def S_X7_fallSilent (σ : T2) : Prop := S_X7_fallSilent_b0 σ
set_option maxHeartbeats 400000 in
set_option maxRecDepth 100000 in
theorem b_X7_fallSilent_b27 {p : Program} {e : Env} {s : State} {m : MethodId} {args : Array Value} {below : List Frame} {meth : Method} {c : Code} (l : Launch) (D : va_G) (k : Nat → ClassId) (a : Nat → Nat) (A : Nat → Prop) (C0 : q_C p s m meth c args RX7 cX7_fallSilent 1 none wsX7_fallSilent D (tyL k) A) (R : T2) : ∀ (σ : T2), S_X7_fallSilent_b27 σ → P_X7_fallSilent_b27 σ = R → ∀ (H : Heap) (locs : List Loc) (ls : Array Slot), q_W D A s.heap (wX7 k a σ) H locs → lv_has ls 1 [(0, .ref (a 0))] → W p l e { frames := 1, cells := 0, slots := 0, locals := 20 } s m args below meth c H locs 0 0 (MQ below (va_Qv (fun u => u = R) (fun u => q_E D (tyL k) A (wX7 k a u)) A) args s 0 0 A) (F0 m 27 ls []) := by
  intro σ hs hR H locs ls hW hl
  rw [P_X7_fallSilent_b27_e] at hR
  rw [S_X7_fallSilent_b27_e] at hs
  obtain ⟨hx, hb, hr, hml, hts, hown, hlocks, hK, hA⟩ := id C0
  have hf39 := hts (.fieldLink RX7 39 "BeatFollower$Scene" "drummer" "LBeatFollower$Drummer;") (by decide +kernel)
  have hf120 := hts (.fieldLink RX7 120 "BeatFollower$Drummer" "nextBlow" "I") (by decide +kernel)
  have hf179 := hts (.fieldLink RX7 179 "BeatFollower$Drummer" "heldInRow" "I") (by decide +kernel)
  have hf197 := hts (.fieldLink RX7 197 "BeatFollower$Drummer" "goodInRow" "I") (by decide +kernel)
  have hf200 := hts (.fieldLink RX7 200 "BeatFollower$Drummer" "badInRow" "I") (by decide +kernel)
  have hinX1 : ∀ w ∈ u_ws RX1 TX1 7, w ∈ wsX7_fallSilent := hin_X7_fallSilent_X1
  have hinX7 : ∀ w ∈ u_ws RX7 TX7 7, w ∈ wsX7_fallSilent := hin_X7_fallSilent_X7
  refine lv_aload_n hx hb dX7_fallSilent_27 rfl (lv_at hl 0 rfl) ?_
  refine va_get (v := .ref (a 15)) (C := RX7) (T := TX7) (N := 7) hx hb hts hinX7 hown hK hW.1 0 rfl rfl 4 (by decide) hf39 (fun _ h9 => h9) rfl dX7_fallSilent_28 ?_
  refine lv_iconst (v := (0 : Int32)) hx hb dX7_fallSilent_31 (by decide) ?_
  refine q_putf (ty := .int) (wd' := wX7 k a (u2 σ 15 (upd (σ 15) 3 (0 : Int32)))) C0 hW hinX1 tyX1 tyX1_ok nmX1 15 rfl rfl 3 (by decide) hf197 rfl (by decide +kernel) rfl rfl (Nat.le_of_ble_eq_true rfl) dX7_fallSilent_32 (fX1_s3 _ _ _) (wX7_s15 k a _ _) (fun H locs hW => ?_)
  refine lv_aload_n hx hb dX7_fallSilent_35 rfl (lv_at hl 0 rfl) ?_
  refine va_get (v := .ref (a 15)) (C := RX7) (T := TX7) (N := 7) hx hb hts hinX7 hown hK hW.1 0 rfl rfl 4 (by decide) hf39 (fun _ h9 => h9) rfl dX7_fallSilent_36 ?_
  refine lv_iconst (v := (0 : Int32)) hx hb dX7_fallSilent_39 (by decide) ?_
  refine q_putf (ty := .int) (wd' := wX7 k a (u2 σ 15 (upd (upd (σ 15) 3 (0 : Int32)) 4 (0 : Int32)))) C0 hW hinX1 tyX1 tyX1_ok nmX1 15 rfl rfl 4 (by decide) hf200 rfl (by decide +kernel) rfl rfl (Nat.le_of_ble_eq_true rfl) dX7_fallSilent_40 (fX1_s4 _ _ _) ((wX7_s15 k a _ _).trans (congrArg (wX7 k a) (u2_same _ _ _ _))) (fun H locs hW => ?_)
  refine lv_aload_n hx hb dX7_fallSilent_43 rfl (lv_at hl 0 rfl) ?_
  refine va_get (v := .ref (a 15)) (C := RX7) (T := TX7) (N := 7) hx hb hts hinX7 hown hK hW.1 0 rfl rfl 4 (by decide) hf39 (fun _ h9 => h9) rfl dX7_fallSilent_44 ?_
  refine lv_iconst (v := (0 : Int32)) hx hb dX7_fallSilent_47 (by decide) ?_
  refine q_putf (ty := .int) (wd' := wX7 k a (u2 σ 15 (upd (upd (upd (σ 15) 3 (0 : Int32)) 4 (0 : Int32)) 5 (0 : Int32)))) C0 hW hinX1 tyX1 tyX1_ok nmX1 15 rfl rfl 5 (by decide) hf179 rfl (by decide +kernel) rfl rfl (Nat.le_of_ble_eq_true rfl) dX7_fallSilent_48 (fX1_s5 _ _ _) ((wX7_s15 k a _ _).trans (congrArg (wX7 k a) (u2_same _ _ _ _))) (fun H locs hW => ?_)
  refine lv_aload_n hx hb dX7_fallSilent_51 rfl (lv_at hl 0 rfl) ?_
  refine va_get (v := .ref (a 15)) (C := RX7) (T := TX7) (N := 7) hx hb hts hinX7 hown hK hW.1 0 rfl rfl 4 (by decide) hf39 (fun _ h9 => h9) rfl dX7_fallSilent_52 ?_
  refine lv_bipush (v := (-6 : Int32)) hx hb dX7_fallSilent_55 (by decide) ?_
  refine q_putf (ty := .int) (wd' := wX7 k a (u2 σ 15 (upd (upd (upd (upd (σ 15) 3 (0 : Int32)) 4 (0 : Int32)) 5 (0 : Int32)) 2 (-6 : Int32)))) C0 hW hinX1 tyX1 tyX1_ok nmX1 15 rfl rfl 2 (by decide) hf120 rfl (by decide +kernel) rfl rfl (Nat.le_of_ble_eq_true rfl) dX7_fallSilent_57 (fX1_s2 _ _ _) ((wX7_s15 k a _ _).trans (congrArg (wX7 k a) (u2_same _ _ _ _))) (fun H locs hW => ?_)
  exact q_vret C0 hW hR dX7_fallSilent_60
set_option maxHeartbeats 400000 in
set_option maxRecDepth 100000 in
theorem b_X7_fallSilent_b0 {p : Program} {e : Env} {s : State} {m : MethodId} {args : Array Value} {below : List Frame} {meth : Method} {c : Code} (l : Launch) (D : va_G) (k : Nat → ClassId) (a : Nat → Nat) (A : Nat → Prop) (C0 : q_C p s m meth c args RX7 cX7_fallSilent 1 none wsX7_fallSilent D (tyL k) A) (R : T2) : ∀ (σ : T2), S_X7_fallSilent_b0 σ → P_X7_fallSilent_b0 σ = R → ∀ (H : Heap) (locs : List Loc) (ls : Array Slot), q_W D A s.heap (wX7 k a σ) H locs → lv_has ls 1 [(0, .ref (a 0))] → W p l e { frames := 1, cells := 0, slots := 0, locals := 20 } s m args below meth c H locs 0 0 (MQ below (va_Qv (fun u => u = R) (fun u => q_E D (tyL k) A (wX7 k a u)) A) args s 0 0 A) (F0 m 0 ls []) := by
  intro σ hs hR H locs ls hW hl
  rw [P_X7_fallSilent_b0_e] at hR
  rw [S_X7_fallSilent_b0_e] at hs
  obtain ⟨hx, hb, hr, hml, hts, hown, hlocks, hK, hA⟩ := id C0
  have hf39 := hts (.fieldLink RX7 39 "BeatFollower$Scene" "drummer" "LBeatFollower$Drummer;") (by decide +kernel)
  have hf46 := hts (.fieldLink RX7 46 "BeatFollower$Scene" "tally" "LBeatFollower$Tally;") (by decide +kernel)
  have hf132 := hts (.fieldLink RX7 132 "BeatFollower$Drummer" "state" "I") (by decide +kernel)
  have hf212 := hts (.fieldLink RX7 212 "BeatFollower$Tally" "silences" "I") (by decide +kernel)
  have hinX1 : ∀ w ∈ u_ws RX1 TX1 7, w ∈ wsX7_fallSilent := hin_X7_fallSilent_X1
  have hinX7 : ∀ w ∈ u_ws RX7 TX7 7, w ∈ wsX7_fallSilent := hin_X7_fallSilent_X7
  have hinX8 : ∀ w ∈ u_ws RX8 TX8 10, w ∈ wsX7_fallSilent := hin_X7_fallSilent_X8
  refine lv_aload_n hx hb dX7_fallSilent_0 rfl (lv_at hl 0 rfl) ?_
  refine va_get (v := .ref (a 16)) (C := RX7) (T := TX7) (N := 7) hx hb hts hinX7 hown hK hW.1 0 rfl rfl 5 (by decide) hf46 (fun _ h9 => h9) rfl dX7_fallSilent_1 ?_
  refine lv_dup hx hb dX7_fallSilent_4 rfl ?_
  refine va_get (v := .int (σ 16 5)) (C := RX8) (T := TX8) (N := 10) hx hb hts hinX8 hown hK hW.1 16 rfl rfl 5 (by decide) hf212 (fun _ h9 => h9) rfl dX7_fallSilent_5 ?_
  refine lv_iconst (v := (1 : Int32)) hx hb dX7_fallSilent_8 (by decide) ?_
  refine lv_iadd hx hb dX7_fallSilent_9 ?_
  refine q_putf (ty := .int) (wd' := wX7 k a (u2 σ 16 (upd (σ 16) 5 ((σ 16 5) + (1 : Int32))))) C0 hW hinX8 tyX8 tyX8_ok nmX8 16 rfl rfl 5 (by decide) hf212 rfl (by decide +kernel) rfl rfl (Nat.le_of_ble_eq_true rfl) dX7_fallSilent_10 (fX8_s5 _ _ _) (wX7_s16 k a _ _) (fun H locs hW => ?_)
  refine lv_aload_n hx hb dX7_fallSilent_13 rfl (lv_at hl 0 rfl) ?_
  refine va_get (v := .ref (a 15)) (C := RX7) (T := TX7) (N := 7) hx hb hts hinX7 hown hK hW.1 0 rfl rfl 4 (by decide) hf39 (fun _ h9 => h9) rfl dX7_fallSilent_14 ?_
  refine va_get (v := .int (σ 15 0)) (C := RX1) (T := TX1) (N := 7) hx hb hts hinX1 hown hK hW.1 15 rfl rfl 0 (by decide) hf132 (fun _ h9 => h9) rfl dX7_fallSilent_17 ?_
  refine lv_if_eq (tgt := 27) hx hb dX7_fallSilent_20 (by decide) (fun c_1 => ?_) (fun c_1 => ?_)
  · have hs := hs.1 c_1
    rw [if_pos c_1] at hR
    exact b_X7_fallSilent_b27 l D k a A C0 R (u2 σ 16 (upd (σ 16) 5 ((σ 16 5) + (1 : Int32)))) hs hR H locs ls hW (lv_sub hl [0] rfl)
  · have hs := hs.2 c_1
    rw [if_neg c_1] at hR
    refine lv_aload_n hx hb dX7_fallSilent_23 rfl (lv_at hl 0 rfl) ?_
    have hs2 := hs.1
    have hs := hs.2
    refine q_Vv (As := []) (rest := []) (wf := wX7 k a) (R := P_X7_loseLock (u2 σ 16 (upd (σ 16) 5 ((σ 16 5) + (1 : Int32))))) (wd' := wX7 k a (P_X7_loseLock (u2 σ 16 (upd (σ 16) 5 ((σ 16 5) + (1 : Int32)))))) [0, 1, 2, 3, 4, 5, 6, 7, 8, 9, 10, 11, 12, 13, 14, 15, 16] [0, 1, 2, 3] 0 7 C0 hW (m_X7_loseLock l D k a H.size (u2 σ 16 (upd (σ 16) 5 ((σ 16 5) + (1 : Int32))))  hs2) (cwV 0 hts gX7_fallSilent_X7_loseLock rfl rfl rfl hd_X7_loseLock ⟨Nat.le_of_ble_eq_true rfl, Nat.le_of_ble_eq_true rfl⟩) (by decide) (wX7_pl k a _) rfl (wX7_rec k a _) rfl (wX7_fst k a _ _) (wX7_put k a _ _) hl rfl rfl (Nat.le_of_ble_eq_true rfl) dX7_fallSilent_24 ⟨Nat.le_refl 0, Nat.le_refl 0⟩ (fun H locs hW => ?_)
    exact b_X7_fallSilent_b27 l D k a A C0 R (P_X7_loseLock (u2 σ 16 (upd (σ 16) 5 ((σ 16 5) + (1 : Int32))))) hs hR H locs ls hW (lv_sub hl [0] rfl)
set_option maxHeartbeats 400000 in
set_option maxRecDepth 100000 in
theorem m_X7_fallSilent (l : Launch) (D : va_G) (k : Nat → ClassId) (a : Nat → Nat) (sz : Nat) (σ : T2) (hs : S_X7_fallSilent σ) : Met l yX7_fallSilent wsX7_fallSilent { frames := 1, cells := 0, slots := 0, locals := 20 } (va_Pc [.ref (a 0)] (q_B D (tyL k) (wX7 k a σ) sz)) (va_Qv (fun u => u = P_X7_fallSilent σ) (fun u => q_E D (tyL k) (va_A (wX7 k a σ) sz) (wX7 k a u)) (va_A (wX7 k a σ) sz)) 0 0 (va_A (wX7 k a σ) sz) := by
  refine q_met [.ref (a 0)] (wX7 k a σ) sz (cc := cX7_fallSilent) (maxL := 1) (ret := none) (by decide) rfl (Nat.le_of_ble_eq_true rfl) ?_
  intro p e s m args below meth c ls hsz C0 hW hl hin
  subst hsz
  exact b_X7_fallSilent_b0 l D k a _ C0 _ σ  hs rfl s.heap [] ls hW (lv_sub hl [0] rfl)
theorem hin_X7_holdBlow_X1 : ∀ w ∈ u_ws RX1 TX1 7, w ∈ wsX7_holdBlow := by decide +kernel
theorem hin_X7_holdBlow_X7 : ∀ w ∈ u_ws RX7 TX7 7, w ∈ wsX7_holdBlow := by decide +kernel
theorem hin_X7_holdBlow_X8 : ∀ w ∈ u_ws RX8 TX8 10, w ∈ wsX7_holdBlow := by decide +kernel
theorem hd_X7_holdBlow : yX7_holdBlow.cls = RX7 ∧ yX7_holdBlow.cls ≠ "java/lang/invoke/MethodHandle" ∧ yX7_holdBlow.cls ≠ "java/lang/invoke/VarHandle" ∧ (parseMethodDescriptor yX7_holdBlow.desc).map (fun d => d.parameters.length) = some 0 := by decide +kernel
noncomputable def P_X7_holdBlow_b95 (σ : T2) (v1 : Int32) : T2 := sb σ 10 5 (P_X0_append (fun j => σ (10 + j)) v1 (-6 : Int32) (σ 15 1) (σ 15 0))
def S_X7_holdBlow_b95 (σ : T2) (v1 : Int32) : Prop := (S_X0_append (fun j => σ (10 + j)) v1 (-6 : Int32) (σ 15 1) (σ 15 0)) ∧ (True)
theorem P_X7_holdBlow_b95_e (σ : T2) (v1 : Int32) : P_X7_holdBlow_b95 σ v1 = sb σ 10 5 (P_X0_append (fun j => σ (10 + j)) v1 (-6 : Int32) (σ 15 1) (σ 15 0)) := rfl
theorem S_X7_holdBlow_b95_e (σ : T2) (v1 : Int32) : S_X7_holdBlow_b95 σ v1 = ((S_X0_append (fun j => σ (10 + j)) v1 (-6 : Int32) (σ 15 1) (σ 15 0)) ∧ (True)) := rfl
noncomputable def P_X7_holdBlow_b74c (σ : T2) (v1 : Int32) : T2 := if (σ 15 5) < (σ 1 7) then (P_X7_holdBlow_b95 σ v1) else (P_X7_holdBlow_b95 (P_X7_fallSilent σ) v1)
def S_X7_holdBlow_b74c (σ : T2) (v1 : Int32) : Prop := ((σ 15 5) < (σ 1 7) → (S_X7_holdBlow_b95 σ v1)) ∧ (¬ ((σ 15 5) < (σ 1 7)) → ((S_X7_fallSilent σ ) ∧ (S_X7_holdBlow_b95 (P_X7_fallSilent σ) v1)))
theorem P_X7_holdBlow_b74c_e (σ : T2) (v1 : Int32) : P_X7_holdBlow_b74c σ v1 = if (σ 15 5) < (σ 1 7) then (P_X7_holdBlow_b95 σ v1) else (P_X7_holdBlow_b95 (P_X7_fallSilent σ) v1) := rfl
theorem S_X7_holdBlow_b74c_e (σ : T2) (v1 : Int32) : S_X7_holdBlow_b74c σ v1 = (((σ 15 5) < (σ 1 7) → (S_X7_holdBlow_b95 σ v1)) ∧ (¬ ((σ 15 5) < (σ 1 7)) → ((S_X7_fallSilent σ ) ∧ (S_X7_holdBlow_b95 (P_X7_fallSilent σ) v1)))) := rfl
noncomputable def P_X7_holdBlow_b69 (σ : T2) (v1 : Int32) : T2 := P_X7_holdBlow_b74c (P_X7_judge σ (0 : Int32)) v1
def S_X7_holdBlow_b69 (σ : T2) (v1 : Int32) : Prop := (S_X7_judge σ (0 : Int32)) ∧ (S_X7_holdBlow_b74c (P_X7_judge σ (0 : Int32)) v1)
theorem P_X7_holdBlow_b69_e (σ : T2) (v1 : Int32) : P_X7_holdBlow_b69 σ v1 = P_X7_holdBlow_b74c (P_X7_judge σ (0 : Int32)) v1 := rfl
theorem S_X7_holdBlow_b69_e (σ : T2) (v1 : Int32) : S_X7_holdBlow_b69 σ v1 = ((S_X7_judge σ (0 : Int32)) ∧ (S_X7_holdBlow_b74c (P_X7_judge σ (0 : Int32)) v1)) := rfl
noncomputable def P_X7_holdBlow_b0 (σ : T2) : T2 := if (σ 15 0) = (1 : Int32) then (P_X7_holdBlow_b69 (u2 (u2 (u2 σ 15 (upd (upd (σ 15) 2 ((σ 15 2) + (σ 15 1))) 5 ((σ 15 5) + (1 : Int32)))) 16 (upd (σ 16) 2 ((σ 16 2) + (1 : Int32)))) 15 (upd (upd (upd (σ 15) 2 ((σ 15 2) + (σ 15 1))) 5 ((σ 15 5) + (1 : Int32))) 0 (2 : Int32))) (σ 15 2)) else (P_X7_holdBlow_b69 (u2 (u2 σ 15 (upd (upd (σ 15) 2 ((σ 15 2) + (σ 15 1))) 5 ((σ 15 5) + (1 : Int32)))) 16 (upd (σ 16) 2 ((σ 16 2) + (1 : Int32)))) (σ 15 2))
def S_X7_holdBlow_b0 (σ : T2) : Prop := ((σ 15 0) = (1 : Int32) → (S_X7_holdBlow_b69 (u2 (u2 (u2 σ 15 (upd (upd (σ 15) 2 ((σ 15 2) + (σ 15 1))) 5 ((σ 15 5) + (1 : Int32)))) 16 (upd (σ 16) 2 ((σ 16 2) + (1 : Int32)))) 15 (upd (upd (upd (σ 15) 2 ((σ 15 2) + (σ 15 1))) 5 ((σ 15 5) + (1 : Int32))) 0 (2 : Int32))) (σ 15 2))) ∧ (¬ ((σ 15 0) = (1 : Int32)) → (S_X7_holdBlow_b69 (u2 (u2 σ 15 (upd (upd (σ 15) 2 ((σ 15 2) + (σ 15 1))) 5 ((σ 15 5) + (1 : Int32)))) 16 (upd (σ 16) 2 ((σ 16 2) + (1 : Int32)))) (σ 15 2)))
theorem P_X7_holdBlow_b0_e (σ : T2) : P_X7_holdBlow_b0 σ = if (σ 15 0) = (1 : Int32) then (P_X7_holdBlow_b69 (u2 (u2 (u2 σ 15 (upd (upd (σ 15) 2 ((σ 15 2) + (σ 15 1))) 5 ((σ 15 5) + (1 : Int32)))) 16 (upd (σ 16) 2 ((σ 16 2) + (1 : Int32)))) 15 (upd (upd (upd (σ 15) 2 ((σ 15 2) + (σ 15 1))) 5 ((σ 15 5) + (1 : Int32))) 0 (2 : Int32))) (σ 15 2)) else (P_X7_holdBlow_b69 (u2 (u2 σ 15 (upd (upd (σ 15) 2 ((σ 15 2) + (σ 15 1))) 5 ((σ 15 5) + (1 : Int32)))) 16 (upd (σ 16) 2 ((σ 16 2) + (1 : Int32)))) (σ 15 2)) := rfl
theorem S_X7_holdBlow_b0_e (σ : T2) : S_X7_holdBlow_b0 σ = (((σ 15 0) = (1 : Int32) → (S_X7_holdBlow_b69 (u2 (u2 (u2 σ 15 (upd (upd (σ 15) 2 ((σ 15 2) + (σ 15 1))) 5 ((σ 15 5) + (1 : Int32)))) 16 (upd (σ 16) 2 ((σ 16 2) + (1 : Int32)))) 15 (upd (upd (upd (σ 15) 2 ((σ 15 2) + (σ 15 1))) 5 ((σ 15 5) + (1 : Int32))) 0 (2 : Int32))) (σ 15 2))) ∧ (¬ ((σ 15 0) = (1 : Int32)) → (S_X7_holdBlow_b69 (u2 (u2 σ 15 (upd (upd (σ 15) 2 ((σ 15 2) + (σ 15 1))) 5 ((σ 15 5) + (1 : Int32)))) 16 (upd (σ 16) 2 ((σ 16 2) + (1 : Int32)))) (σ 15 2)))) := rfl
noncomputable def P_X7_holdBlow (σ : T2) : T2 := P_X7_holdBlow_b0 σ
def S_X7_holdBlow (σ : T2) : Prop := S_X7_holdBlow_b0 σ
set_option maxHeartbeats 400000 in
set_option maxRecDepth 100000 in
theorem b_X7_holdBlow_b95 {p : Program} {e : Env} {s : State} {m : MethodId} {args : Array Value} {below : List Frame} {meth : Method} {c : Code} (l : Launch) (D : va_G) (k : Nat → ClassId) (a : Nat → Nat) (A : Nat → Prop) (C0 : q_C p s m meth c args RX7 cX7_holdBlow 2 none wsX7_holdBlow D (tyL k) A) (R : T2) : ∀ (σ : T2) (v1 : Int32), S_X7_holdBlow_b95 σ v1 → P_X7_holdBlow_b95 σ v1 = R → ∀ (H : Heap) (locs : List Loc) (ls : Array Slot), q_W D A s.heap (wX7 k a σ) H locs → lv_has ls 2 [(0, .ref (a 0)), (1, .int v1)] → W p l e { frames := 2, cells := 0, slots := 0, locals := 46 } s m args below meth c H locs 0 0 (MQ below (va_Qv (fun u => u = R) (fun u => q_E D (tyL k) A (wX7 k a u)) A) args s 0 0 A) (F0 m 95 ls []) := by
  intro σ v1 hs hR H locs ls hW hl
  rw [P_X7_holdBlow_b95_e] at hR
  rw [S_X7_holdBlow_b95_e] at hs
  obtain ⟨hx, hb, hr, hml, hts, hown, hlocks, hK, hA⟩ := id C0
  have hf32 := hts (.fieldLink RX7 32 "BeatFollower$Scene" "blows" "LBeatFollower$Blows;") (by decide +kernel)
  have hf39 := hts (.fieldLink RX7 39 "BeatFollower$Scene" "drummer" "LBeatFollower$Drummer;") (by decide +kernel)
  have hf126 := hts (.fieldLink RX7 126 "BeatFollower$Drummer" "period" "I") (by decide +kernel)
  have hf132 := hts (.fieldLink RX7 132 "BeatFollower$Drummer" "state" "I") (by decide +kernel)
  have hinX1 : ∀ w ∈ u_ws RX1 TX1 7, w ∈ wsX7_holdBlow := hin_X7_holdBlow_X1
  have hinX7 : ∀ w ∈ u_ws RX7 TX7 7, w ∈ wsX7_holdBlow := hin_X7_holdBlow_X7
  refine lv_aload_n hx hb dX7_holdBlow_95 rfl (lv_at hl 0 rfl) ?_
  refine va_get (v := .ref (a 10)) (C := RX7) (T := TX7) (N := 7) hx hb hts hinX7 hown hK hW.1 0 rfl rfl 3 (by decide) hf32 (fun _ h9 => h9) rfl dX7_holdBlow_96 ?_
  refine lv_iload_n hx hb dX7_holdBlow_99 rfl (lv_at hl 1 rfl) ?_
  refine lv_bipush (v := (-6 : Int32)) hx hb dX7_holdBlow_100 (by decide) ?_
  refine lv_aload_n hx hb dX7_holdBlow_102 rfl (lv_at hl 0 rfl) ?_
  refine va_get (v := .ref (a 15)) (C := RX7) (T := TX7) (N := 7) hx hb hts hinX7 hown hK hW.1 0 rfl rfl 4 (by decide) hf39 (fun _ h9 => h9) rfl dX7_holdBlow_103 ?_
  refine va_get (v := .int (σ 15 1)) (C := RX1) (T := TX1) (N := 7) hx hb hts hinX1 hown hK hW.1 15 rfl rfl 1 (by decide) hf126 (fun _ h9 => h9) rfl dX7_holdBlow_106 ?_
  refine lv_aload_n hx hb dX7_holdBlow_109 rfl (lv_at hl 0 rfl) ?_
  refine va_get (v := .ref (a 15)) (C := RX7) (T := TX7) (N := 7) hx hb hts hinX7 hown hK hW.1 0 rfl rfl 4 (by decide) hf39 (fun _ h9 => h9) rfl dX7_holdBlow_110 ?_
  refine va_get (v := .int (σ 15 0)) (C := RX1) (T := TX1) (N := 7) hx hb hts hinX1 hown hK hW.1 15 rfl rfl 0 (by decide) hf132 (fun _ h9 => h9) rfl dX7_holdBlow_113 ?_
  have hs4 := hs.1
  have hs := hs.2
  refine q_Vv (As := [.int v1, .int (-6 : Int32), .int (σ 15 1), .int (σ 15 0)]) (rest := []) (wf := wX0 k (fun j => a (10 + j))) (R := P_X0_append (fun j => σ (10 + j)) v1 (-6 : Int32) (σ 15 1) (σ 15 0)) (wd' := wX7 k a (sb σ 10 5 (P_X0_append (fun j => σ (10 + j)) v1 (-6 : Int32) (σ 15 1) (σ 15 0)))) [10, 11, 12, 13, 14] [0, 1, 2, 3] 10 0 C0 hW (m_X0_append l D k (fun j => a (10 + j)) H.size (fun j => σ (10 + j)) v1 (-6 : Int32) (σ 15 1) (σ 15 0) hs4) (cwV 4 hts gX7_holdBlow_X0_append rfl rfl rfl hd_X0_append ⟨Nat.le_of_ble_eq_true rfl, Nat.le_of_ble_eq_true rfl⟩) (by decide) (wX7_X0_10_pl k a _) rfl rfl rfl (wX0_fst k _ _ _) (wX7_X0_10_pt k a _ _) hl rfl rfl (Nat.le_of_ble_eq_true rfl) dX7_holdBlow_116 ⟨Nat.le_refl 0, Nat.le_refl 0⟩ (fun H locs hW => ?_)
  exact q_vret C0 hW hR dX7_holdBlow_119
set_option maxHeartbeats 400000 in
set_option maxRecDepth 100000 in
theorem b_X7_holdBlow_b74c {p : Program} {e : Env} {s : State} {m : MethodId} {args : Array Value} {below : List Frame} {meth : Method} {c : Code} (l : Launch) (D : va_G) (k : Nat → ClassId) (a : Nat → Nat) (A : Nat → Prop) (C0 : q_C p s m meth c args RX7 cX7_holdBlow 2 none wsX7_holdBlow D (tyL k) A) (R : T2) : ∀ (σ : T2) (v1 : Int32), S_X7_holdBlow_b74c σ v1 → P_X7_holdBlow_b74c σ v1 = R → ∀ (H : Heap) (locs : List Loc) (ls : Array Slot), q_W D A s.heap (wX7 k a σ) H locs → lv_has ls 2 [(0, .ref (a 0)), (1, .int v1)] → W p l e { frames := 2, cells := 0, slots := 0, locals := 46 } s m args below meth c H locs 0 0 (MQ below (va_Qv (fun u => u = R) (fun u => q_E D (tyL k) A (wX7 k a u)) A) args s 0 0 A) (F0 m 74 ls []) := by
  intro σ v1 hs hR H locs ls hW hl
  rw [P_X7_holdBlow_b74c_e] at hR
  rw [S_X7_holdBlow_b74c_e] at hs
  obtain ⟨hx, hb, hr, hml, hts, hown, hlocks, hK, hA⟩ := id C0
  have hf9 := hts (.fieldLink RX7 9 "BeatFollower$Scene" "settings" "[I") (by decide +kernel)
  have hf39 := hts (.fieldLink RX7 39 "BeatFollower$Scene" "drummer" "LBeatFollower$Drummer;") (by decide +kernel)
  have hf179 := hts (.fieldLink RX7 179 "BeatFollower$Drummer" "heldInRow" "I") (by decide +kernel)
  have hinX1 : ∀ w ∈ u_ws RX1 TX1 7, w ∈ wsX7_holdBlow := hin_X7_holdBlow_X1
  have hinX7 : ∀ w ∈ u_ws RX7 TX7 7, w ∈ wsX7_holdBlow := hin_X7_holdBlow_X7
  refine lv_aload_n hx hb dX7_holdBlow_74 rfl (lv_at hl 0 rfl) ?_
  refine va_get (v := .ref (a 15)) (C := RX7) (T := TX7) (N := 7) hx hb hts hinX7 hown hK hW.1 0 rfl rfl 4 (by decide) hf39 (fun _ h9 => h9) rfl dX7_holdBlow_75 ?_
  refine va_get (v := .int (σ 15 5)) (C := RX1) (T := TX1) (N := 7) hx hb hts hinX1 hown hK hW.1 15 rfl rfl 5 (by decide) hf179 (fun _ h9 => h9) rfl dX7_holdBlow_78 ?_
  refine lv_aload_n hx hb dX7_holdBlow_81 rfl (lv_at hl 0 rfl) ?_
  refine va_get (v := .ref (a 1)) (C := RX7) (T := TX7) (N := 7) hx hb hts hinX7 hown hK hW.1 0 rfl rfl 0 (by decide) hf9 (fun _ h9 => h9) rfl dX7_holdBlow_82 ?_
  refine lv_bipush (v := (7 : Int32)) hx hb dX7_holdBlow_85 (by decide) ?_
  refine q_iald (v := σ 1 7) C0 hW 1 rfl rfl vi_7_8 cl_7 rfl dX7_holdBlow_87 ?_
  refine lv_icmp_lt (tgt := 95) hx hb dX7_holdBlow_88 (by decide) (fun c_3 => ?_) (fun c_3 => ?_)
  · have hs := hs.1 c_3
    rw [if_pos c_3] at hR
    exact b_X7_holdBlow_b95 l D k a A C0 R σ v1 hs hR H locs ls hW (lv_sub hl [0, 1] rfl)
  · have hs := hs.2 c_3
    rw [if_neg c_3] at hR
    refine lv_aload_n hx hb dX7_holdBlow_91 rfl (lv_at hl 0 rfl) ?_
    have hs5 := hs.1
    have hs := hs.2
    refine q_Vv (As := []) (rest := []) (wf := wX7 k a) (R := P_X7_fallSilent σ) (wd' := wX7 k a (P_X7_fallSilent σ)) [0, 1, 2, 3, 4, 5, 6, 7, 8, 9, 10, 11, 12, 13, 14, 15, 16] [0, 1, 2, 3] 0 7 C0 hW (m_X7_fallSilent l D k a H.size σ  hs5) (cwV 0 hts gX7_holdBlow_X7_fallSilent rfl rfl rfl hd_X7_fallSilent ⟨Nat.le_of_ble_eq_true rfl, Nat.le_of_ble_eq_true rfl⟩) (by decide) (wX7_pl k a _) rfl (wX7_rec k a _) rfl (wX7_fst k a _ _) (wX7_put k a _ _) hl rfl rfl (Nat.le_of_ble_eq_true rfl) dX7_holdBlow_92 ⟨Nat.le_refl 0, Nat.le_refl 0⟩ (fun H locs hW => ?_)
    exact b_X7_holdBlow_b95 l D k a A C0 R (P_X7_fallSilent σ) v1 hs hR H locs ls hW (lv_sub hl [0, 1] rfl)
set_option maxHeartbeats 400000 in
set_option maxRecDepth 100000 in
theorem b_X7_holdBlow_b69 {p : Program} {e : Env} {s : State} {m : MethodId} {args : Array Value} {below : List Frame} {meth : Method} {c : Code} (l : Launch) (D : va_G) (k : Nat → ClassId) (a : Nat → Nat) (A : Nat → Prop) (C0 : q_C p s m meth c args RX7 cX7_holdBlow 2 none wsX7_holdBlow D (tyL k) A) (R : T2) : ∀ (σ : T2) (v1 : Int32), S_X7_holdBlow_b69 σ v1 → P_X7_holdBlow_b69 σ v1 = R → ∀ (H : Heap) (locs : List Loc) (ls : Array Slot), q_W D A s.heap (wX7 k a σ) H locs → lv_has ls 2 [(0, .ref (a 0)), (1, .int v1)] → W p l e { frames := 2, cells := 0, slots := 0, locals := 46 } s m args below meth c H locs 0 0 (MQ below (va_Qv (fun u => u = R) (fun u => q_E D (tyL k) A (wX7 k a u)) A) args s 0 0 A) (F0 m 69 ls []) := by
  intro σ v1 hs hR H locs ls hW hl
  rw [P_X7_holdBlow_b69_e] at hR
  rw [S_X7_holdBlow_b69_e] at hs
  obtain ⟨hx, hb, hr, hml, hts, hown, hlocks, hK, hA⟩ := id C0
  refine lv_aload_n hx hb dX7_holdBlow_69 rfl (lv_at hl 0 rfl) ?_
  refine lv_iconst (v := (0 : Int32)) hx hb dX7_holdBlow_70 (by decide) ?_
  have hs2 := hs.1
  have hs := hs.2
  refine q_Vv (As := [.int (0 : Int32)]) (rest := []) (wf := wX7 k a) (R := P_X7_judge σ (0 : Int32)) (wd' := wX7 k a (P_X7_judge σ (0 : Int32))) [0, 1, 2, 3, 4, 5, 6, 7, 8, 9, 10, 11, 12, 13, 14, 15, 16] [0, 1, 2, 3] 0 7 C0 hW (m_X7_judge l D k a H.size σ (0 : Int32) hs2) (cwV 1 hts gX7_holdBlow_X7_judge rfl rfl rfl hd_X7_judge ⟨Nat.le_of_ble_eq_true rfl, Nat.le_of_ble_eq_true rfl⟩) (by decide) (wX7_pl k a _) rfl (wX7_rec k a _) rfl (wX7_fst k a _ _) (wX7_put k a _ _) hl rfl rfl (Nat.le_of_ble_eq_true rfl) dX7_holdBlow_71 ⟨Nat.le_refl 0, Nat.le_refl 0⟩ (fun H locs hW => ?_)
  exact b_X7_holdBlow_b74c l D k a A C0 R (P_X7_judge σ (0 : Int32)) v1 hs hR H locs ls hW (lv_sub hl [0, 1] rfl)
set_option maxHeartbeats 400000 in
set_option maxRecDepth 100000 in
theorem b_X7_holdBlow_b0 {p : Program} {e : Env} {s : State} {m : MethodId} {args : Array Value} {below : List Frame} {meth : Method} {c : Code} (l : Launch) (D : va_G) (k : Nat → ClassId) (a : Nat → Nat) (A : Nat → Prop) (C0 : q_C p s m meth c args RX7 cX7_holdBlow 2 none wsX7_holdBlow D (tyL k) A) (R : T2) : ∀ (σ : T2), S_X7_holdBlow_b0 σ → P_X7_holdBlow_b0 σ = R → ∀ (H : Heap) (locs : List Loc) (ls : Array Slot), q_W D A s.heap (wX7 k a σ) H locs → lv_has ls 2 [(0, .ref (a 0))] → W p l e { frames := 2, cells := 0, slots := 0, locals := 46 } s m args below meth c H locs 0 0 (MQ below (va_Qv (fun u => u = R) (fun u => q_E D (tyL k) A (wX7 k a u)) A) args s 0 0 A) (F0 m 0 ls []) := by
  intro σ hs hR H locs ls hW hl
  rw [P_X7_holdBlow_b0_e] at hR
  rw [S_X7_holdBlow_b0_e] at hs
  obtain ⟨hx, hb, hr, hml, hts, hown, hlocks, hK, hA⟩ := id C0
  have hf39 := hts (.fieldLink RX7 39 "BeatFollower$Scene" "drummer" "LBeatFollower$Drummer;") (by decide +kernel)
  have hf46 := hts (.fieldLink RX7 46 "BeatFollower$Scene" "tally" "LBeatFollower$Tally;") (by decide +kernel)
  have hf120 := hts (.fieldLink RX7 120 "BeatFollower$Drummer" "nextBlow" "I") (by decide +kernel)
  have hf126 := hts (.fieldLink RX7 126 "BeatFollower$Drummer" "period" "I") (by decide +kernel)
  have hf132 := hts (.fieldLink RX7 132 "BeatFollower$Drummer" "state" "I") (by decide +kernel)
  have hf179 := hts (.fieldLink RX7 179 "BeatFollower$Drummer" "heldInRow" "I") (by decide +kernel)
  have hf191 := hts (.fieldLink RX7 191 "BeatFollower$Tally" "held" "I") (by decide +kernel)
  have hinX1 : ∀ w ∈ u_ws RX1 TX1 7, w ∈ wsX7_holdBlow := hin_X7_holdBlow_X1
  have hinX7 : ∀ w ∈ u_ws RX7 TX7 7, w ∈ wsX7_holdBlow := hin_X7_holdBlow_X7
  have hinX8 : ∀ w ∈ u_ws RX8 TX8 10, w ∈ wsX7_holdBlow := hin_X7_holdBlow_X8
  refine lv_aload_n hx hb dX7_holdBlow_0 rfl (lv_at hl 0 rfl) ?_
  refine va_get (v := .ref (a 15)) (C := RX7) (T := TX7) (N := 7) hx hb hts hinX7 hown hK hW.1 0 rfl rfl 4 (by decide) hf39 (fun _ h9 => h9) rfl dX7_holdBlow_1 ?_
  refine va_get (v := .int (σ 15 2)) (C := RX1) (T := TX1) (N := 7) hx hb hts hinX1 hown hK hW.1 15 rfl rfl 2 (by decide) hf120 (fun _ h9 => h9) rfl dX7_holdBlow_4 ?_
  refine lv_istore_n (lv' := [(1, .int (σ 15 2)), (0, .ref (a 0))]) hx hb dX7_holdBlow_7 rfl hl (by decide) rfl (fun ls hl => ?_)
  refine lv_aload_n hx hb dX7_holdBlow_8 rfl (lv_at hl 1 rfl) ?_
  refine va_get (v := .ref (a 15)) (C := RX7) (T := TX7) (N := 7) hx hb hts hinX7 hown hK hW.1 0 rfl rfl 4 (by decide) hf39 (fun _ h9 => h9) rfl dX7_holdBlow_9 ?_
  refine lv_iload_n hx hb dX7_holdBlow_12 rfl (lv_at hl 0 rfl) ?_
  refine lv_aload_n hx hb dX7_holdBlow_13 rfl (lv_at hl 1 rfl) ?_
  refine va_get (v := .ref (a 15)) (C := RX7) (T := TX7) (N := 7) hx hb hts hinX7 hown hK hW.1 0 rfl rfl 4 (by decide) hf39 (fun _ h9 => h9) rfl dX7_holdBlow_14 ?_
  refine va_get (v := .int (σ 15 1)) (C := RX1) (T := TX1) (N := 7) hx hb hts hinX1 hown hK hW.1 15 rfl rfl 1 (by decide) hf126 (fun _ h9 => h9) rfl dX7_holdBlow_17 ?_
  refine lv_iadd hx hb dX7_holdBlow_20 ?_
  refine q_putf (ty := .int) (wd' := wX7 k a (u2 σ 15 (upd (σ 15) 2 ((σ 15 2) + (σ 15 1))))) C0 hW hinX1 tyX1 tyX1_ok nmX1 15 rfl rfl 2 (by decide) hf120 rfl (by decide +kernel) rfl rfl (Nat.le_of_ble_eq_true rfl) dX7_holdBlow_21 (fX1_s2 _ _ _) (wX7_s15 k a _ _) (fun H locs hW => ?_)
  refine lv_aload_n hx hb dX7_holdBlow_24 rfl (lv_at hl 1 rfl) ?_
  refine va_get (v := .ref (a 15)) (C := RX7) (T := TX7) (N := 7) hx hb hts hinX7 hown hK hW.1 0 rfl rfl 4 (by decide) hf39 (fun _ h9 => h9) rfl dX7_holdBlow_25 ?_
  refine lv_dup hx hb dX7_holdBlow_28 rfl ?_
  refine va_get (v := .int (σ 15 5)) (C := RX1) (T := TX1) (N := 7) hx hb hts hinX1 hown hK hW.1 15 rfl rfl 5 (by decide) hf179 (fun _ h9 => h9) rfl dX7_holdBlow_29 ?_
  refine lv_iconst (v := (1 : Int32)) hx hb dX7_holdBlow_32 (by decide) ?_
  refine lv_iadd hx hb dX7_holdBlow_33 ?_
  refine q_putf (ty := .int) (wd' := wX7 k a (u2 σ 15 (upd (upd (σ 15) 2 ((σ 15 2) + (σ 15 1))) 5 ((σ 15 5) + (1 : Int32))))) C0 hW hinX1 tyX1 tyX1_ok nmX1 15 rfl rfl 5 (by decide) hf179 rfl (by decide +kernel) rfl rfl (Nat.le_of_ble_eq_true rfl) dX7_holdBlow_34 (fX1_s5 _ _ _) ((wX7_s15 k a _ _).trans (congrArg (wX7 k a) (u2_same _ _ _ _))) (fun H locs hW => ?_)
  refine lv_aload_n hx hb dX7_holdBlow_37 rfl (lv_at hl 1 rfl) ?_
  refine va_get (v := .ref (a 16)) (C := RX7) (T := TX7) (N := 7) hx hb hts hinX7 hown hK hW.1 0 rfl rfl 5 (by decide) hf46 (fun _ h9 => h9) rfl dX7_holdBlow_38 ?_
  refine lv_dup hx hb dX7_holdBlow_41 rfl ?_
  refine va_get (v := .int (σ 16 2)) (C := RX8) (T := TX8) (N := 10) hx hb hts hinX8 hown hK hW.1 16 rfl rfl 2 (by decide) hf191 (fun _ h9 => h9) rfl dX7_holdBlow_42 ?_
  refine lv_iconst (v := (1 : Int32)) hx hb dX7_holdBlow_45 (by decide) ?_
  refine lv_iadd hx hb dX7_holdBlow_46 ?_
  refine q_putf (ty := .int) (wd' := wX7 k a (u2 (u2 σ 15 (upd (upd (σ 15) 2 ((σ 15 2) + (σ 15 1))) 5 ((σ 15 5) + (1 : Int32)))) 16 (upd (σ 16) 2 ((σ 16 2) + (1 : Int32))))) C0 hW hinX8 tyX8 tyX8_ok nmX8 16 rfl rfl 2 (by decide) hf191 rfl (by decide +kernel) rfl rfl (Nat.le_of_ble_eq_true rfl) dX7_holdBlow_47 (fX8_s2 _ _ _) (wX7_s16 k a _ _) (fun H locs hW => ?_)
  refine lv_aload_n hx hb dX7_holdBlow_50 rfl (lv_at hl 1 rfl) ?_
  refine va_get (v := .ref (a 15)) (C := RX7) (T := TX7) (N := 7) hx hb hts hinX7 hown hK hW.1 0 rfl rfl 4 (by decide) hf39 (fun _ h9 => h9) rfl dX7_holdBlow_51 ?_
  refine va_get (v := .int (σ 15 0)) (C := RX1) (T := TX1) (N := 7) hx hb hts hinX1 hown hK hW.1 15 rfl rfl 0 (by decide) hf132 (fun _ h9 => h9) rfl dX7_holdBlow_54 ?_
  refine lv_iconst (v := (1 : Int32)) hx hb dX7_holdBlow_57 (by decide) ?_
  refine lv_icmp_ne (tgt := 69) hx hb dX7_holdBlow_58 (by decide) (fun c_1 => ?_) (fun c_1 => ?_)
  · have hs := hs.2 c_1
    rw [if_neg c_1] at hR
    exact b_X7_holdBlow_b69 l D k a A C0 R (u2 (u2 σ 15 (upd (upd (σ 15) 2 ((σ 15 2) + (σ 15 1))) 5 ((σ 15 5) + (1 : Int32)))) 16 (upd (σ 16) 2 ((σ 16 2) + (1 : Int32)))) (σ 15 2) hs hR H locs ls hW (lv_sub hl [1, 0] rfl)
  · have hs := hs.1 c_1
    rw [if_pos c_1] at hR
    refine lv_aload_n hx hb dX7_holdBlow_61 rfl (lv_at hl 1 rfl) ?_
    refine va_get (v := .ref (a 15)) (C := RX7) (T := TX7) (N := 7) hx hb hts hinX7 hown hK hW.1 0 rfl rfl 4 (by decide) hf39 (fun _ h9 => h9) rfl dX7_holdBlow_62 ?_
    refine lv_iconst (v := (2 : Int32)) hx hb dX7_holdBlow_65 (by decide) ?_
    refine q_putf (ty := .int) (wd' := wX7 k a (u2 (u2 (u2 σ 15 (upd (upd (σ 15) 2 ((σ 15 2) + (σ 15 1))) 5 ((σ 15 5) + (1 : Int32)))) 16 (upd (σ 16) 2 ((σ 16 2) + (1 : Int32)))) 15 (upd (upd (upd (σ 15) 2 ((σ 15 2) + (σ 15 1))) 5 ((σ 15 5) + (1 : Int32))) 0 (2 : Int32)))) C0 hW hinX1 tyX1 tyX1_ok nmX1 15 rfl rfl 0 (by decide) hf132 rfl (by decide +kernel) rfl rfl (Nat.le_of_ble_eq_true rfl) dX7_holdBlow_66 (fX1_s0 _ _ _) (wX7_s15 k a _ _) (fun H locs hW => ?_)
    exact b_X7_holdBlow_b69 l D k a A C0 R (u2 (u2 (u2 σ 15 (upd (upd (σ 15) 2 ((σ 15 2) + (σ 15 1))) 5 ((σ 15 5) + (1 : Int32)))) 16 (upd (σ 16) 2 ((σ 16 2) + (1 : Int32)))) 15 (upd (upd (upd (σ 15) 2 ((σ 15 2) + (σ 15 1))) 5 ((σ 15 5) + (1 : Int32))) 0 (2 : Int32))) (σ 15 2) hs hR H locs ls hW (lv_sub hl [1, 0] rfl)
set_option maxHeartbeats 400000 in
set_option maxRecDepth 100000 in
theorem m_X7_holdBlow (l : Launch) (D : va_G) (k : Nat → ClassId) (a : Nat → Nat) (sz : Nat) (σ : T2) (hs : S_X7_holdBlow σ) : Met l yX7_holdBlow wsX7_holdBlow { frames := 2, cells := 0, slots := 0, locals := 46 } (va_Pc [.ref (a 0)] (q_B D (tyL k) (wX7 k a σ) sz)) (va_Qv (fun u => u = P_X7_holdBlow σ) (fun u => q_E D (tyL k) (va_A (wX7 k a σ) sz) (wX7 k a u)) (va_A (wX7 k a σ) sz)) 0 0 (va_A (wX7 k a σ) sz) := by
  refine q_met [.ref (a 0)] (wX7 k a σ) sz (cc := cX7_holdBlow) (maxL := 2) (ret := none) (by decide) rfl (Nat.le_of_ble_eq_true rfl) ?_
  intro p e s m args below meth c ls hsz C0 hW hl hin
  subst hsz
  exact b_X7_holdBlow_b0 l D k a _ C0 _ σ  hs rfl s.heap [] ls hW (lv_sub hl [0] rfl)
theorem hin_X7_fateAt_X1 : ∀ w ∈ u_ws RX1 TX1 7, w ∈ wsX7_fateAt := by decide +kernel
theorem hin_X7_fateAt_X7 : ∀ w ∈ u_ws RX7 TX7 7, w ∈ wsX7_fateAt := by decide +kernel
theorem hd_X7_fateAt : yX7_fateAt.cls = RX7 ∧ yX7_fateAt.cls ≠ "java/lang/invoke/MethodHandle" ∧ yX7_fateAt.cls ≠ "java/lang/invoke/VarHandle" ∧ (parseMethodDescriptor yX7_fateAt.desc).map (fun d => d.parameters.length) = some 1 := by decide +kernel
noncomputable def P_X7_fateAt_b0 (σ : T2) (v1 : Int32) : Int32 := if (σ 15 2) = (-6 : Int32) then ((3 : Int32)) else (if (-(P_X7_halfWindow σ)) ≤ (v1 - (σ 15 2)) then ((2 : Int32)) else ((1 : Int32)))
def S_X7_fateAt_b0 (σ : T2) (v1 : Int32) : Prop := ((σ 15 2) = (-6 : Int32) → (True)) ∧ (¬ ((σ 15 2) = (-6 : Int32)) → ((S_X7_halfWindow σ ) ∧ (((-(P_X7_halfWindow σ)) ≤ (v1 - (σ 15 2)) → (True)) ∧ (¬ ((-(P_X7_halfWindow σ)) ≤ (v1 - (σ 15 2))) → (True)))))
theorem P_X7_fateAt_b0_e (σ : T2) (v1 : Int32) : P_X7_fateAt_b0 σ v1 = if (σ 15 2) = (-6 : Int32) then ((3 : Int32)) else (if (-(P_X7_halfWindow σ)) ≤ (v1 - (σ 15 2)) then ((2 : Int32)) else ((1 : Int32))) := rfl
theorem S_X7_fateAt_b0_e (σ : T2) (v1 : Int32) : S_X7_fateAt_b0 σ v1 = (((σ 15 2) = (-6 : Int32) → (True)) ∧ (¬ ((σ 15 2) = (-6 : Int32)) → ((S_X7_halfWindow σ ) ∧ (((-(P_X7_halfWindow σ)) ≤ (v1 - (σ 15 2)) → (True)) ∧ (¬ ((-(P_X7_halfWindow σ)) ≤ (v1 - (σ 15 2))) → (True)))))) := rfl
noncomputable def P_X7_fateAt (σ : T2) (p0 : Int32) : Int32 := P_X7_fateAt_b0 σ p0
def S_X7_fateAt (σ : T2) (p0 : Int32) : Prop := S_X7_fateAt_b0 σ p0
set_option maxHeartbeats 400000 in
set_option maxRecDepth 100000 in
theorem b_X7_fateAt_b0 {p : Program} {e : Env} {s : State} {m : MethodId} {args : Array Value} {below : List Frame} {meth : Method} {c : Code} (l : Launch) (D : va_G) (k : Nat → ClassId) (a : Nat → Nat) (A : Nat → Prop) (C0 : q_C p s m meth c args RX7 cX7_fateAt 2 (some .int) wsX7_fateAt D (tyL k) A) (R : Int32) : ∀ (σ : T2) (v1 : Int32), S_X7_fateAt_b0 σ v1 → P_X7_fateAt_b0 σ v1 = R → ∀ (H : Heap) (locs : List Loc) (ls : Array Slot), q_W D A s.heap (wX7 k a σ) s.heap [] → lv_has ls 2 [(0, .ref (a 0)), (1, .int v1)] → W p l e { frames := 2, cells := 0, slots := 0, locals := 42 } s m args below meth c s.heap [] 0 0 (MQ below (vp_Si (fun r => r = R)) args s 0 0 (fun _ => False)) (F0 m 0 ls []) := by
  intro σ v1 hs hR H locs ls hW hl
  rw [P_X7_fateAt_b0_e] at hR
  rw [S_X7_fateAt_b0_e] at hs
  obtain ⟨hx, hb, hr, hml, hts, hown, hlocks, hK, hA⟩ := id C0
  have hf39 := hts (.fieldLink RX7 39 "BeatFollower$Scene" "drummer" "LBeatFollower$Drummer;") (by decide +kernel)
  have hf120 := hts (.fieldLink RX7 120 "BeatFollower$Drummer" "nextBlow" "I") (by decide +kernel)
  have hinX1 : ∀ w ∈ u_ws RX1 TX1 7, w ∈ wsX7_fateAt := hin_X7_fateAt_X1
  have hinX7 : ∀ w ∈ u_ws RX7 TX7 7, w ∈ wsX7_fateAt := hin_X7_fateAt_X7
  refine lv_aload_n hx hb dX7_fateAt_0 rfl (lv_at hl 0 rfl) ?_
  refine va_get (v := .ref (a 15)) (C := RX7) (T := TX7) (N := 7) hx hb hts hinX7 hown hK hW.1 0 rfl rfl 4 (by decide) hf39 (fun _ h9 => h9) rfl dX7_fateAt_1 ?_
  refine va_get (v := .int (σ 15 2)) (C := RX1) (T := TX1) (N := 7) hx hb hts hinX1 hown hK hW.1 15 rfl rfl 2 (by decide) hf120 (fun _ h9 => h9) rfl dX7_fateAt_4 ?_
  refine lv_bipush (v := (-6 : Int32)) hx hb dX7_fateAt_7 (by decide) ?_
  refine lv_icmp_ne (tgt := 14) hx hb dX7_fateAt_9 (by decide) (fun c_1 => ?_) (fun c_1 => ?_)
  · have hs := hs.2 c_1
    rw [if_neg c_1] at hR
    refine lv_iload_n hx hb dX7_fateAt_14 rfl (lv_at hl 1 rfl) ?_
    refine lv_aload_n hx hb dX7_fateAt_15 rfl (lv_at hl 0 rfl) ?_
    refine va_get (v := .ref (a 15)) (C := RX7) (T := TX7) (N := 7) hx hb hts hinX7 hown hK hW.1 0 rfl rfl 4 (by decide) hf39 (fun _ h9 => h9) rfl dX7_fateAt_16 ?_
    refine va_get (v := .int (σ 15 2)) (C := RX1) (T := TX1) (N := 7) hx hb hts hinX1 hown hK hW.1 15 rfl rfl 2 (by decide) hf120 (fun _ h9 => h9) rfl dX7_fateAt_19 ?_
    refine lv_isub hx hb dX7_fateAt_22 ?_
    refine lv_aload_n hx hb dX7_fateAt_23 rfl (lv_at hl 0 rfl) ?_
    have hs2 := hs.1
    have hs := hs.2
    refine q_Vi (As := []) (rest := [.int (v1 - (σ 15 2))]) (R := P_X7_halfWindow σ) [0, 1, 2, 3, 4, 5, 6, 7, 8, 9, 10, 11, 12, 13, 14, 15, 16] [0, 1, 2, 3] 0 7 C0 hW (m_X7_halfWindow l D k a _ σ  hs2) (cwV 0 hts gX7_fateAt_X7_halfWindow rfl rfl rfl hd_X7_halfWindow ⟨Nat.le_of_ble_eq_true rfl, Nat.le_of_ble_eq_true rfl⟩) (by decide) (wX7_pl k a _) rfl (wX7_rec k a _) rfl hl rfl rfl (Nat.le_of_ble_eq_true rfl) dX7_fateAt_24 ⟨Nat.le_refl 0, Nat.le_refl 0⟩ ?_
    refine lv_ineg hx hb dX7_fateAt_27 ?_
    refine lv_icmp_ge (tgt := 35) hx hb dX7_fateAt_28 (by decide) (fun c_3 => ?_) (fun c_3 => ?_)
    · have hs := hs.1 c_3
      rw [if_pos c_3] at hR
      refine lv_iconst (v := (2 : Int32)) hx hb dX7_fateAt_35 (by decide) ?_
      exact q_iretr C0 hR dX7_fateAt_36
    · have hs := hs.2 c_3
      rw [if_neg c_3] at hR
      refine lv_iconst (v := (1 : Int32)) hx hb dX7_fateAt_31 (by decide) ?_
      refine lv_goto (tgt := 36) hx hb dX7_fateAt_32 (by decide) ?_
      exact q_iretr C0 hR dX7_fateAt_36
  · have hs := hs.1 c_1
    rw [if_pos c_1] at hR
    refine lv_iconst (v := (3 : Int32)) hx hb dX7_fateAt_12 (by decide) ?_
    exact q_iretr C0 hR dX7_fateAt_13
set_option maxHeartbeats 400000 in
set_option maxRecDepth 100000 in
theorem m_X7_fateAt (l : Launch) (D : va_G) (k : Nat → ClassId) (a : Nat → Nat) (sz : Nat) (σ : T2) (p0 : Int32) (hs : S_X7_fateAt σ p0) : Met l yX7_fateAt wsX7_fateAt { frames := 2, cells := 0, slots := 0, locals := 42 } (va_Pc [.ref (a 0), .int p0] (q_B D (tyL k) (wX7 k a σ) sz)) (vp_Si (fun r => r = P_X7_fateAt σ p0)) 0 0 (fun _ => False) := by
  refine q_met [.ref (a 0), .int p0] (wX7 k a σ) sz (cc := cX7_fateAt) (maxL := 2) (ret := (some .int)) (by decide) rfl (Nat.le_of_ble_eq_true rfl) ?_
  intro p e s m args below meth c ls hsz C0 hW hl hin
  subst hsz
  exact b_X7_fateAt_b0 l D k a _ C0 _ σ p0 hs rfl s.heap [] ls hW (lv_sub hl [0, 1] rfl)
theorem hin_X7_strikeWithBeat_X0 : ∀ w ∈ u_ws RX0 TX0 5, w ∈ wsX7_strikeWithBeat := by decide +kernel
theorem hin_X7_strikeWithBeat_X1 : ∀ w ∈ u_ws RX1 TX1 7, w ∈ wsX7_strikeWithBeat := by decide +kernel
theorem hin_X7_strikeWithBeat_X7 : ∀ w ∈ u_ws RX7 TX7 7, w ∈ wsX7_strikeWithBeat := by decide +kernel
theorem hd_X7_strikeWithBeat : yX7_strikeWithBeat.cls = RX7 ∧ yX7_strikeWithBeat.cls ≠ "java/lang/invoke/MethodHandle" ∧ yX7_strikeWithBeat.cls ≠ "java/lang/invoke/VarHandle" ∧ (parseMethodDescriptor yX7_strikeWithBeat.desc).map (fun d => d.parameters.length) = some 2 := by decide +kernel
noncomputable def P_X7_strikeWithBeat_b60c (σ : T2) (v1 : Int32) (v2 : Int32) : T2 := sb σ 10 5 (P_X0_append (fun j => σ (10 + j)) v2 v1 (σ 15 1) (σ 15 0))
def S_X7_strikeWithBeat_b60c (σ : T2) (v1 : Int32) (v2 : Int32) : Prop := (S_X0_append (fun j => σ (10 + j)) v2 v1 (σ 15 1) (σ 15 0)) ∧ (True)
theorem P_X7_strikeWithBeat_b60c_e (σ : T2) (v1 : Int32) (v2 : Int32) : P_X7_strikeWithBeat_b60c σ v1 v2 = sb σ 10 5 (P_X0_append (fun j => σ (10 + j)) v2 v1 (σ 15 1) (σ 15 0)) := rfl
theorem S_X7_strikeWithBeat_b60c_e (σ : T2) (v1 : Int32) (v2 : Int32) : S_X7_strikeWithBeat_b60c σ v1 v2 = ((S_X0_append (fun j => σ (10 + j)) v2 v1 (σ 15 1) (σ 15 0)) ∧ (True)) := rfl
noncomputable def P_X7_strikeWithBeat_b0 (σ : T2) (v1 : Int32) (v2 : Int32) : T2 := P_X7_strikeWithBeat_b60c (sb (u2 σ 15 (upd (upd (σ 15) 2 (v2 + (σ 15 1))) 6 ((P_X5_numberOf (fun j => (u2 σ 15 (upd (σ 15) 2 (v2 + (σ 15 1)))) (2 + j)) v1) - (σ 10 4)))) 5 5 (P_X2_note (fun j => (u2 σ 15 (upd (upd (σ 15) 2 (v2 + (σ 15 1))) 6 ((P_X5_numberOf (fun j => (u2 σ 15 (upd (σ 15) 2 (v2 + (σ 15 1)))) (2 + j)) v1) - (σ 10 4)))) (5 + j)) v1 (3 : Int32) (σ 10 4) (-6 : Int32) (1000 : Int32))) v1 v2
def S_X7_strikeWithBeat_b0 (σ : T2) (v1 : Int32) (v2 : Int32) : Prop := (S_X5_numberOf (fun j => (u2 σ 15 (upd (σ 15) 2 (v2 + (σ 15 1)))) (2 + j)) v1) ∧ ((S_X2_note (fun j => (u2 σ 15 (upd (upd (σ 15) 2 (v2 + (σ 15 1))) 6 ((P_X5_numberOf (fun j => (u2 σ 15 (upd (σ 15) 2 (v2 + (σ 15 1)))) (2 + j)) v1) - (σ 10 4)))) (5 + j)) v1 (3 : Int32) (σ 10 4) (-6 : Int32) (1000 : Int32)) ∧ (S_X7_strikeWithBeat_b60c (sb (u2 σ 15 (upd (upd (σ 15) 2 (v2 + (σ 15 1))) 6 ((P_X5_numberOf (fun j => (u2 σ 15 (upd (σ 15) 2 (v2 + (σ 15 1)))) (2 + j)) v1) - (σ 10 4)))) 5 5 (P_X2_note (fun j => (u2 σ 15 (upd (upd (σ 15) 2 (v2 + (σ 15 1))) 6 ((P_X5_numberOf (fun j => (u2 σ 15 (upd (σ 15) 2 (v2 + (σ 15 1)))) (2 + j)) v1) - (σ 10 4)))) (5 + j)) v1 (3 : Int32) (σ 10 4) (-6 : Int32) (1000 : Int32))) v1 v2))
theorem P_X7_strikeWithBeat_b0_e (σ : T2) (v1 : Int32) (v2 : Int32) : P_X7_strikeWithBeat_b0 σ v1 v2 = P_X7_strikeWithBeat_b60c (sb (u2 σ 15 (upd (upd (σ 15) 2 (v2 + (σ 15 1))) 6 ((P_X5_numberOf (fun j => (u2 σ 15 (upd (σ 15) 2 (v2 + (σ 15 1)))) (2 + j)) v1) - (σ 10 4)))) 5 5 (P_X2_note (fun j => (u2 σ 15 (upd (upd (σ 15) 2 (v2 + (σ 15 1))) 6 ((P_X5_numberOf (fun j => (u2 σ 15 (upd (σ 15) 2 (v2 + (σ 15 1)))) (2 + j)) v1) - (σ 10 4)))) (5 + j)) v1 (3 : Int32) (σ 10 4) (-6 : Int32) (1000 : Int32))) v1 v2 := rfl
theorem S_X7_strikeWithBeat_b0_e (σ : T2) (v1 : Int32) (v2 : Int32) : S_X7_strikeWithBeat_b0 σ v1 v2 = ((S_X5_numberOf (fun j => (u2 σ 15 (upd (σ 15) 2 (v2 + (σ 15 1)))) (2 + j)) v1) ∧ ((S_X2_note (fun j => (u2 σ 15 (upd (upd (σ 15) 2 (v2 + (σ 15 1))) 6 ((P_X5_numberOf (fun j => (u2 σ 15 (upd (σ 15) 2 (v2 + (σ 15 1)))) (2 + j)) v1) - (σ 10 4)))) (5 + j)) v1 (3 : Int32) (σ 10 4) (-6 : Int32) (1000 : Int32)) ∧ (S_X7_strikeWithBeat_b60c (sb (u2 σ 15 (upd (upd (σ 15) 2 (v2 + (σ 15 1))) 6 ((P_X5_numberOf (fun j => (u2 σ 15 (upd (σ 15) 2 (v2 + (σ 15 1)))) (2 + j)) v1) - (σ 10 4)))) 5 5 (P_X2_note (fun j => (u2 σ 15 (upd (upd (σ 15) 2 (v2 + (σ 15 1))) 6 ((P_X5_numberOf (fun j => (u2 σ 15 (upd (σ 15) 2 (v2 + (σ 15 1)))) (2 + j)) v1) - (σ 10 4)))) (5 + j)) v1 (3 : Int32) (σ 10 4) (-6 : Int32) (1000 : Int32))) v1 v2))) := rfl
noncomputable def P_X7_strikeWithBeat (σ : T2) (p0 : Int32) (p1 : Int32) : T2 := P_X7_strikeWithBeat_b0 σ p0 p1
def S_X7_strikeWithBeat (σ : T2) (p0 : Int32) (p1 : Int32) : Prop := S_X7_strikeWithBeat_b0 σ p0 p1
set_option maxHeartbeats 400000 in
set_option maxRecDepth 100000 in
theorem b_X7_strikeWithBeat_b60c {p : Program} {e : Env} {s : State} {m : MethodId} {args : Array Value} {below : List Frame} {meth : Method} {c : Code} (l : Launch) (D : va_G) (k : Nat → ClassId) (a : Nat → Nat) (A : Nat → Prop) (C0 : q_C p s m meth c args RX7 cX7_strikeWithBeat 3 none wsX7_strikeWithBeat D (tyL k) A) (R : T2) : ∀ (σ : T2) (v1 : Int32) (v2 : Int32), S_X7_strikeWithBeat_b60c σ v1 v2 → P_X7_strikeWithBeat_b60c σ v1 v2 = R → ∀ (H : Heap) (locs : List Loc) (ls : Array Slot), q_W D A s.heap (wX7 k a σ) H locs → lv_has ls 3 [(0, .ref (a 0)), (1, .int v1), (2, .int v2)] → W p l e { frames := 2, cells := 0, slots := 0, locals := 46 } s m args below meth c H locs 0 0 (MQ below (va_Qv (fun u => u = R) (fun u => q_E D (tyL k) A (wX7 k a u)) A) args s 0 0 A) (F0 m 60 ls []) := by
  intro σ v1 v2 hs hR H locs ls hW hl
  rw [P_X7_strikeWithBeat_b60c_e] at hR
  rw [S_X7_strikeWithBeat_b60c_e] at hs
  obtain ⟨hx, hb, hr, hml, hts, hown, hlocks, hK, hA⟩ := id C0
  have hf32 := hts (.fieldLink RX7 32 "BeatFollower$Scene" "blows" "LBeatFollower$Blows;") (by decide +kernel)
  have hf39 := hts (.fieldLink RX7 39 "BeatFollower$Scene" "drummer" "LBeatFollower$Drummer;") (by decide +kernel)
  have hf126 := hts (.fieldLink RX7 126 "BeatFollower$Drummer" "period" "I") (by decide +kernel)
  have hf132 := hts (.fieldLink RX7 132 "BeatFollower$Drummer" "state" "I") (by decide +kernel)
  have hinX1 : ∀ w ∈ u_ws RX1 TX1 7, w ∈ wsX7_strikeWithBeat := hin_X7_strikeWithBeat_X1
  have hinX7 : ∀ w ∈ u_ws RX7 TX7 7, w ∈ wsX7_strikeWithBeat := hin_X7_strikeWithBeat_X7
  refine lv_aload_n hx hb dX7_strikeWithBeat_60 rfl (lv_at hl 0 rfl) ?_
  refine va_get (v := .ref (a 10)) (C := RX7) (T := TX7) (N := 7) hx hb hts hinX7 hown hK hW.1 0 rfl rfl 3 (by decide) hf32 (fun _ h9 => h9) rfl dX7_strikeWithBeat_61 ?_
  refine lv_iload_n hx hb dX7_strikeWithBeat_64 rfl (lv_at hl 2 rfl) ?_
  refine lv_iload_n hx hb dX7_strikeWithBeat_65 rfl (lv_at hl 1 rfl) ?_
  refine lv_aload_n hx hb dX7_strikeWithBeat_66 rfl (lv_at hl 0 rfl) ?_
  refine va_get (v := .ref (a 15)) (C := RX7) (T := TX7) (N := 7) hx hb hts hinX7 hown hK hW.1 0 rfl rfl 4 (by decide) hf39 (fun _ h9 => h9) rfl dX7_strikeWithBeat_67 ?_
  refine va_get (v := .int (σ 15 1)) (C := RX1) (T := TX1) (N := 7) hx hb hts hinX1 hown hK hW.1 15 rfl rfl 1 (by decide) hf126 (fun _ h9 => h9) rfl dX7_strikeWithBeat_70 ?_
  refine lv_aload_n hx hb dX7_strikeWithBeat_73 rfl (lv_at hl 0 rfl) ?_
  refine va_get (v := .ref (a 15)) (C := RX7) (T := TX7) (N := 7) hx hb hts hinX7 hown hK hW.1 0 rfl rfl 4 (by decide) hf39 (fun _ h9 => h9) rfl dX7_strikeWithBeat_74 ?_
  refine va_get (v := .int (σ 15 0)) (C := RX1) (T := TX1) (N := 7) hx hb hts hinX1 hown hK hW.1 15 rfl rfl 0 (by decide) hf132 (fun _ h9 => h9) rfl dX7_strikeWithBeat_77 ?_
  have hs3 := hs.1
  have hs := hs.2
  refine q_Vv (As := [.int v2, .int v1, .int (σ 15 1), .int (σ 15 0)]) (rest := []) (wf := wX0 k (fun j => a (10 + j))) (R := P_X0_append (fun j => σ (10 + j)) v2 v1 (σ 15 1) (σ 15 0)) (wd' := wX7 k a (sb σ 10 5 (P_X0_append (fun j => σ (10 + j)) v2 v1 (σ 15 1) (σ 15 0)))) [10, 11, 12, 13, 14] [0, 1, 2, 3] 10 0 C0 hW (m_X0_append l D k (fun j => a (10 + j)) H.size (fun j => σ (10 + j)) v2 v1 (σ 15 1) (σ 15 0) hs3) (cwV 4 hts gX7_strikeWithBeat_X0_append rfl rfl rfl hd_X0_append ⟨Nat.le_of_ble_eq_true rfl, Nat.le_of_ble_eq_true rfl⟩) (by decide) (wX7_X0_10_pl k a _) rfl rfl rfl (wX0_fst k _ _ _) (wX7_X0_10_pt k a _ _) hl rfl rfl (Nat.le_of_ble_eq_true rfl) dX7_strikeWithBeat_80 ⟨Nat.le_refl 0, Nat.le_refl 0⟩ (fun H locs hW => ?_)
  exact q_vret C0 hW hR dX7_strikeWithBeat_83
set_option maxHeartbeats 400000 in
set_option maxRecDepth 100000 in
theorem b_X7_strikeWithBeat_b0 {p : Program} {e : Env} {s : State} {m : MethodId} {args : Array Value} {below : List Frame} {meth : Method} {c : Code} (l : Launch) (D : va_G) (k : Nat → ClassId) (a : Nat → Nat) (A : Nat → Prop) (C0 : q_C p s m meth c args RX7 cX7_strikeWithBeat 3 none wsX7_strikeWithBeat D (tyL k) A) (R : T2) : ∀ (σ : T2) (v1 : Int32) (v2 : Int32), S_X7_strikeWithBeat_b0 σ v1 v2 → P_X7_strikeWithBeat_b0 σ v1 v2 = R → ∀ (H : Heap) (locs : List Loc) (ls : Array Slot), q_W D A s.heap (wX7 k a σ) H locs → lv_has ls 3 [(0, .ref (a 0)), (1, .int v1), (2, .int v2)] → W p l e { frames := 2, cells := 0, slots := 0, locals := 46 } s m args below meth c H locs 0 0 (MQ below (va_Qv (fun u => u = R) (fun u => q_E D (tyL k) A (wX7 k a u)) A) args s 0 0 A) (F0 m 0 ls []) := by
  intro σ v1 v2 hs hR H locs ls hW hl
  rw [P_X7_strikeWithBeat_b0_e] at hR
  rw [S_X7_strikeWithBeat_b0_e] at hs
  obtain ⟨hx, hb, hr, hml, hts, hown, hlocks, hK, hA⟩ := id C0
  have hf18 := hts (.fieldLink RX7 18 "BeatFollower$Scene" "plan" "LBeatFollower$Plan;") (by decide +kernel)
  have hf25 := hts (.fieldLink RX7 25 "BeatFollower$Scene" "fates" "LBeatFollower$Fates;") (by decide +kernel)
  have hf32 := hts (.fieldLink RX7 32 "BeatFollower$Scene" "blows" "LBeatFollower$Blows;") (by decide +kernel)
  have hf39 := hts (.fieldLink RX7 39 "BeatFollower$Scene" "drummer" "LBeatFollower$Drummer;") (by decide +kernel)
  have hf66 := hts (.fieldLink RX7 66 "BeatFollower$Blows" "many" "I") (by decide +kernel)
  have hf120 := hts (.fieldLink RX7 120 "BeatFollower$Drummer" "nextBlow" "I") (by decide +kernel)
  have hf126 := hts (.fieldLink RX7 126 "BeatFollower$Drummer" "period" "I") (by decide +kernel)
  have hf154 := hts (.fieldLink RX7 154 "BeatFollower$Drummer" "lead" "I") (by decide +kernel)
  have hinX0 : ∀ w ∈ u_ws RX0 TX0 5, w ∈ wsX7_strikeWithBeat := hin_X7_strikeWithBeat_X0
  have hinX1 : ∀ w ∈ u_ws RX1 TX1 7, w ∈ wsX7_strikeWithBeat := hin_X7_strikeWithBeat_X1
  have hinX7 : ∀ w ∈ u_ws RX7 TX7 7, w ∈ wsX7_strikeWithBeat := hin_X7_strikeWithBeat_X7
  refine lv_aload_n hx hb dX7_strikeWithBeat_0 rfl (lv_at hl 0 rfl) ?_
  refine va_get (v := .ref (a 15)) (C := RX7) (T := TX7) (N := 7) hx hb hts hinX7 hown hK hW.1 0 rfl rfl 4 (by decide) hf39 (fun _ h9 => h9) rfl dX7_strikeWithBeat_1 ?_
  refine lv_iload_n hx hb dX7_strikeWithBeat_4 rfl (lv_at hl 2 rfl) ?_
  refine lv_aload_n hx hb dX7_strikeWithBeat_5 rfl (lv_at hl 0 rfl) ?_
  refine va_get (v := .ref (a 15)) (C := RX7) (T := TX7) (N := 7) hx hb hts hinX7 hown hK hW.1 0 rfl rfl 4 (by decide) hf39 (fun _ h9 => h9) rfl dX7_strikeWithBeat_6 ?_
  refine va_get (v := .int (σ 15 1)) (C := RX1) (T := TX1) (N := 7) hx hb hts hinX1 hown hK hW.1 15 rfl rfl 1 (by decide) hf126 (fun _ h9 => h9) rfl dX7_strikeWithBeat_9 ?_
  refine lv_iadd hx hb dX7_strikeWithBeat_12 ?_
  refine q_putf (ty := .int) (wd' := wX7 k a (u2 σ 15 (upd (σ 15) 2 (v2 + (σ 15 1))))) C0 hW hinX1 tyX1 tyX1_ok nmX1 15 rfl rfl 2 (by decide) hf120 rfl (by decide +kernel) rfl rfl (Nat.le_of_ble_eq_true rfl) dX7_strikeWithBeat_13 (fX1_s2 _ _ _) (wX7_s15 k a _ _) (fun H locs hW => ?_)
  refine lv_aload_n hx hb dX7_strikeWithBeat_16 rfl (lv_at hl 0 rfl) ?_
  refine va_get (v := .ref (a 15)) (C := RX7) (T := TX7) (N := 7) hx hb hts hinX7 hown hK hW.1 0 rfl rfl 4 (by decide) hf39 (fun _ h9 => h9) rfl dX7_strikeWithBeat_17 ?_
  refine lv_aload_n hx hb dX7_strikeWithBeat_20 rfl (lv_at hl 0 rfl) ?_
  refine va_get (v := .ref (a 2)) (C := RX7) (T := TX7) (N := 7) hx hb hts hinX7 hown hK hW.1 0 rfl rfl 1 (by decide) hf18 (fun _ h9 => h9) rfl dX7_strikeWithBeat_21 ?_
  refine lv_iload_n hx hb dX7_strikeWithBeat_24 rfl (lv_at hl 1 rfl) ?_
  have hs1 := hs.1
  have hs := hs.2
  refine q_Vi (As := [.int v1]) (rest := [.ref (a 15)]) (R := P_X5_numberOf (fun j => (u2 σ 15 (upd (σ 15) 2 (v2 + (σ 15 1)))) (2 + j)) v1) [2, 3, 4] [0, 1, 2, 3] 2 5 C0 hW (m_X5_numberOf l D k (fun j => a (2 + j)) _ (fun j => (u2 σ 15 (upd (σ 15) 2 (v2 + (σ 15 1)))) (2 + j)) v1 hs1) (cwV 1 hts gX7_strikeWithBeat_X5_numberOf rfl rfl rfl hd_X5_numberOf ⟨Nat.le_of_ble_eq_true rfl, Nat.le_of_ble_eq_true rfl⟩) (by decide) (wX7_X5_2_pl k a _) rfl rfl rfl hl rfl rfl (Nat.le_of_ble_eq_true rfl) dX7_strikeWithBeat_25 ⟨Nat.le_refl 0, Nat.le_refl 0⟩ ?_
  refine lv_aload_n hx hb dX7_strikeWithBeat_28 rfl (lv_at hl 0 rfl) ?_
  refine va_get (v := .ref (a 10)) (C := RX7) (T := TX7) (N := 7) hx hb hts hinX7 hown hK hW.1 0 rfl rfl 3 (by decide) hf32 (fun _ h9 => h9) rfl dX7_strikeWithBeat_29 ?_
  refine va_get (v := .int (σ 10 4)) (C := RX0) (T := TX0) (N := 5) hx hb hts hinX0 hown hK hW.1 10 rfl rfl 4 (by decide) hf66 (fun _ h9 => h9) rfl dX7_strikeWithBeat_32 ?_
  refine lv_isub hx hb dX7_strikeWithBeat_35 ?_
  refine q_putf (ty := .int) (wd' := wX7 k a (u2 σ 15 (upd (upd (σ 15) 2 (v2 + (σ 15 1))) 6 ((P_X5_numberOf (fun j => (u2 σ 15 (upd (σ 15) 2 (v2 + (σ 15 1)))) (2 + j)) v1) - (σ 10 4))))) C0 hW hinX1 tyX1 tyX1_ok nmX1 15 rfl rfl 6 (by decide) hf154 rfl (by decide +kernel) rfl rfl (Nat.le_of_ble_eq_true rfl) dX7_strikeWithBeat_36 (fX1_s6 _ _ _) ((wX7_s15 k a _ _).trans (congrArg (wX7 k a) (u2_same _ _ _ _))) (fun H locs hW => ?_)
  refine lv_aload_n hx hb dX7_strikeWithBeat_39 rfl (lv_at hl 0 rfl) ?_
  refine va_get (v := .ref (a 5)) (C := RX7) (T := TX7) (N := 7) hx hb hts hinX7 hown hK hW.1 0 rfl rfl 2 (by decide) hf25 (fun _ h9 => h9) rfl dX7_strikeWithBeat_40 ?_
  refine lv_iload_n hx hb dX7_strikeWithBeat_43 rfl (lv_at hl 1 rfl) ?_
  refine lv_iconst (v := (3 : Int32)) hx hb dX7_strikeWithBeat_44 (by decide) ?_
  refine lv_aload_n hx hb dX7_strikeWithBeat_45 rfl (lv_at hl 0 rfl) ?_
  refine va_get (v := .ref (a 10)) (C := RX7) (T := TX7) (N := 7) hx hb hts hinX7 hown hK hW.1 0 rfl rfl 3 (by decide) hf32 (fun _ h9 => h9) rfl dX7_strikeWithBeat_46 ?_
  refine va_get (v := .int (σ 10 4)) (C := RX0) (T := TX0) (N := 5) hx hb hts hinX0 hown hK hW.1 10 rfl rfl 4 (by decide) hf66 (fun _ h9 => h9) rfl dX7_strikeWithBeat_49 ?_
  refine lv_bipush (v := (-6 : Int32)) hx hb dX7_strikeWithBeat_52 (by decide) ?_
  refine lv_sipush (v := (1000 : Int32)) hx hb dX7_strikeWithBeat_54 (by decide) ?_
  have hs2 := hs.1
  have hs := hs.2
  refine q_Vv (As := [.int v1, .int (3 : Int32), .int (σ 10 4), .int (-6 : Int32), .int (1000 : Int32)]) (rest := []) (wf := wX2 k (fun j => a (5 + j))) (R := P_X2_note (fun j => (u2 σ 15 (upd (upd (σ 15) 2 (v2 + (σ 15 1))) 6 ((P_X5_numberOf (fun j => (u2 σ 15 (upd (σ 15) 2 (v2 + (σ 15 1)))) (2 + j)) v1) - (σ 10 4)))) (5 + j)) v1 (3 : Int32) (σ 10 4) (-6 : Int32) (1000 : Int32)) (wd' := wX7 k a (sb (u2 σ 15 (upd (upd (σ 15) 2 (v2 + (σ 15 1))) 6 ((P_X5_numberOf (fun j => (u2 σ 15 (upd (σ 15) 2 (v2 + (σ 15 1)))) (2 + j)) v1) - (σ 10 4)))) 5 5 (P_X2_note (fun j => (u2 σ 15 (upd (upd (σ 15) 2 (v2 + (σ 15 1))) 6 ((P_X5_numberOf (fun j => (u2 σ 15 (upd (σ 15) 2 (v2 + (σ 15 1)))) (2 + j)) v1) - (σ 10 4)))) (5 + j)) v1 (3 : Int32) (σ 10 4) (-6 : Int32) (1000 : Int32)))) [5, 6, 7, 8, 9] [0, 1, 2, 3] 5 2 C0 hW (m_X2_note l D k (fun j => a (5 + j)) H.size (fun j => (u2 σ 15 (upd (upd (σ 15) 2 (v2 + (σ 15 1))) 6 ((P_X5_numberOf (fun j => (u2 σ 15 (upd (σ 15) 2 (v2 + (σ 15 1)))) (2 + j)) v1) - (σ 10 4)))) (5 + j)) v1 (3 : Int32) (σ 10 4) (-6 : Int32) (1000 : Int32) hs2) (cwV 5 hts gX7_strikeWithBeat_X2_note rfl rfl rfl hd_X2_note ⟨Nat.le_of_ble_eq_true rfl, Nat.le_of_ble_eq_true rfl⟩) (by decide) (wX7_X2_5_pl k a _) rfl rfl rfl (wX2_fst k _ _ _) (wX7_X2_5_pt k a _ _) hl rfl rfl (Nat.le_of_ble_eq_true rfl) dX7_strikeWithBeat_57 ⟨Nat.le_refl 0, Nat.le_refl 0⟩ (fun H locs hW => ?_)
  exact b_X7_strikeWithBeat_b60c l D k a A C0 R (sb (u2 σ 15 (upd (upd (σ 15) 2 (v2 + (σ 15 1))) 6 ((P_X5_numberOf (fun j => (u2 σ 15 (upd (σ 15) 2 (v2 + (σ 15 1)))) (2 + j)) v1) - (σ 10 4)))) 5 5 (P_X2_note (fun j => (u2 σ 15 (upd (upd (σ 15) 2 (v2 + (σ 15 1))) 6 ((P_X5_numberOf (fun j => (u2 σ 15 (upd (σ 15) 2 (v2 + (σ 15 1)))) (2 + j)) v1) - (σ 10 4)))) (5 + j)) v1 (3 : Int32) (σ 10 4) (-6 : Int32) (1000 : Int32))) v1 v2 hs hR H locs ls hW (lv_sub hl [0, 1, 2] rfl)
set_option maxHeartbeats 400000 in
set_option maxRecDepth 100000 in
theorem m_X7_strikeWithBeat (l : Launch) (D : va_G) (k : Nat → ClassId) (a : Nat → Nat) (sz : Nat) (σ : T2) (p0 : Int32) (p1 : Int32) (hs : S_X7_strikeWithBeat σ p0 p1) : Met l yX7_strikeWithBeat wsX7_strikeWithBeat { frames := 2, cells := 0, slots := 0, locals := 46 } (va_Pc [.ref (a 0), .int p0, .int p1] (q_B D (tyL k) (wX7 k a σ) sz)) (va_Qv (fun u => u = P_X7_strikeWithBeat σ p0 p1) (fun u => q_E D (tyL k) (va_A (wX7 k a σ) sz) (wX7 k a u)) (va_A (wX7 k a σ) sz)) 0 0 (va_A (wX7 k a σ) sz) := by
  refine q_met [.ref (a 0), .int p0, .int p1] (wX7 k a σ) sz (cc := cX7_strikeWithBeat) (maxL := 3) (ret := none) (by decide) rfl (Nat.le_of_ble_eq_true rfl) ?_
  intro p e s m args below meth c ls hsz C0 hW hl hin
  subst hsz
  exact b_X7_strikeWithBeat_b0 l D k a _ C0 _ σ p0 p1 hs rfl s.heap [] ls hW (lv_sub hl [0, 1, 2] rfl)
theorem hin_X7_passOver_X7 : ∀ w ∈ u_ws RX7 TX7 7, w ∈ wsX7_passOver := by decide +kernel
theorem hin_X7_passOver_X8 : ∀ w ∈ u_ws RX8 TX8 10, w ∈ wsX7_passOver := by decide +kernel
theorem hd_X7_passOver : yX7_passOver.cls = RX7 ∧ yX7_passOver.cls ≠ "java/lang/invoke/MethodHandle" ∧ yX7_passOver.cls ≠ "java/lang/invoke/VarHandle" ∧ (parseMethodDescriptor yX7_passOver.desc).map (fun d => d.parameters.length) = some 2 := by decide +kernel
noncomputable def P_X7_passOver_b30c (σ : T2) : T2 := P_X7_judge σ (0 : Int32)
def S_X7_passOver_b30c (σ : T2) : Prop := (S_X7_judge σ (0 : Int32)) ∧ (True)
theorem P_X7_passOver_b30c_e (σ : T2) : P_X7_passOver_b30c σ = P_X7_judge σ (0 : Int32) := rfl
theorem S_X7_passOver_b30c_e (σ : T2) : S_X7_passOver_b30c σ = ((S_X7_judge σ (0 : Int32)) ∧ (True)) := rfl
noncomputable def P_X7_passOver_b0 (σ : T2) (v1 : Int32) (v2 : Int32) : T2 := P_X7_passOver_b30c (sb (u2 σ 16 (upd (σ 16) 1 ((σ 16 1) + (1 : Int32)))) 5 5 (P_X2_note (fun j => (u2 σ 16 (upd (σ 16) 1 ((σ 16 1) + (1 : Int32)))) (5 + j)) v1 (1 : Int32) (-6 : Int32) ((100000 : Int32) + v2) (-6 : Int32)))
def S_X7_passOver_b0 (σ : T2) (v1 : Int32) (v2 : Int32) : Prop := (S_X2_note (fun j => (u2 σ 16 (upd (σ 16) 1 ((σ 16 1) + (1 : Int32)))) (5 + j)) v1 (1 : Int32) (-6 : Int32) ((100000 : Int32) + v2) (-6 : Int32)) ∧ (S_X7_passOver_b30c (sb (u2 σ 16 (upd (σ 16) 1 ((σ 16 1) + (1 : Int32)))) 5 5 (P_X2_note (fun j => (u2 σ 16 (upd (σ 16) 1 ((σ 16 1) + (1 : Int32)))) (5 + j)) v1 (1 : Int32) (-6 : Int32) ((100000 : Int32) + v2) (-6 : Int32))))
theorem P_X7_passOver_b0_e (σ : T2) (v1 : Int32) (v2 : Int32) : P_X7_passOver_b0 σ v1 v2 = P_X7_passOver_b30c (sb (u2 σ 16 (upd (σ 16) 1 ((σ 16 1) + (1 : Int32)))) 5 5 (P_X2_note (fun j => (u2 σ 16 (upd (σ 16) 1 ((σ 16 1) + (1 : Int32)))) (5 + j)) v1 (1 : Int32) (-6 : Int32) ((100000 : Int32) + v2) (-6 : Int32))) := rfl
theorem S_X7_passOver_b0_e (σ : T2) (v1 : Int32) (v2 : Int32) : S_X7_passOver_b0 σ v1 v2 = ((S_X2_note (fun j => (u2 σ 16 (upd (σ 16) 1 ((σ 16 1) + (1 : Int32)))) (5 + j)) v1 (1 : Int32) (-6 : Int32) ((100000 : Int32) + v2) (-6 : Int32)) ∧ (S_X7_passOver_b30c (sb (u2 σ 16 (upd (σ 16) 1 ((σ 16 1) + (1 : Int32)))) 5 5 (P_X2_note (fun j => (u2 σ 16 (upd (σ 16) 1 ((σ 16 1) + (1 : Int32)))) (5 + j)) v1 (1 : Int32) (-6 : Int32) ((100000 : Int32) + v2) (-6 : Int32))))) := rfl
noncomputable def P_X7_passOver (σ : T2) (p0 : Int32) (p1 : Int32) : T2 := P_X7_passOver_b0 σ p0 p1
def S_X7_passOver (σ : T2) (p0 : Int32) (p1 : Int32) : Prop := S_X7_passOver_b0 σ p0 p1
set_option maxHeartbeats 400000 in
set_option maxRecDepth 100000 in
theorem b_X7_passOver_b30c {p : Program} {e : Env} {s : State} {m : MethodId} {args : Array Value} {below : List Frame} {meth : Method} {c : Code} (l : Launch) (D : va_G) (k : Nat → ClassId) (a : Nat → Nat) (A : Nat → Prop) (C0 : q_C p s m meth c args RX7 cX7_passOver 3 none wsX7_passOver D (tyL k) A) (R : T2) : ∀ (σ : T2), S_X7_passOver_b30c σ → P_X7_passOver_b30c σ = R → ∀ (H : Heap) (locs : List Loc) (ls : Array Slot), q_W D A s.heap (wX7 k a σ) H locs → lv_has ls 3 [(0, .ref (a 0))] → W p l e { frames := 2, cells := 0, slots := 0, locals := 45 } s m args below meth c H locs 0 0 (MQ below (va_Qv (fun u => u = R) (fun u => q_E D (tyL k) A (wX7 k a u)) A) args s 0 0 A) (F0 m 30 ls []) := by
  intro σ hs hR H locs ls hW hl
  rw [P_X7_passOver_b30c_e] at hR
  rw [S_X7_passOver_b30c_e] at hs
  obtain ⟨hx, hb, hr, hml, hts, hown, hlocks, hK, hA⟩ := id C0
  refine lv_aload_n hx hb dX7_passOver_30 rfl (lv_at hl 0 rfl) ?_
  refine lv_iconst (v := (0 : Int32)) hx hb dX7_passOver_31 (by decide) ?_
  have hs2 := hs.1
  have hs := hs.2
  refine q_Vv (As := [.int (0 : Int32)]) (rest := []) (wf := wX7 k a) (R := P_X7_judge σ (0 : Int32)) (wd' := wX7 k a (P_X7_judge σ (0 : Int32))) [0, 1, 2, 3, 4, 5, 6, 7, 8, 9, 10, 11, 12, 13, 14, 15, 16] [0, 1, 2, 3] 0 7 C0 hW (m_X7_judge l D k a H.size σ (0 : Int32) hs2) (cwV 1 hts gX7_passOver_X7_judge rfl rfl rfl hd_X7_judge ⟨Nat.le_of_ble_eq_true rfl, Nat.le_of_ble_eq_true rfl⟩) (by decide) (wX7_pl k a _) rfl (wX7_rec k a _) rfl (wX7_fst k a _ _) (wX7_put k a _ _) hl rfl rfl (Nat.le_of_ble_eq_true rfl) dX7_passOver_32 ⟨Nat.le_refl 0, Nat.le_refl 0⟩ (fun H locs hW => ?_)
  exact q_vret C0 hW hR dX7_passOver_35
set_option maxHeartbeats 400000 in
set_option maxRecDepth 100000 in
theorem b_X7_passOver_b0 {p : Program} {e : Env} {s : State} {m : MethodId} {args : Array Value} {below : List Frame} {meth : Method} {c : Code} (l : Launch) (D : va_G) (k : Nat → ClassId) (a : Nat → Nat) (A : Nat → Prop) (C0 : q_C p s m meth c args RX7 cX7_passOver 3 none wsX7_passOver D (tyL k) A) (R : T2) : ∀ (σ : T2) (v1 : Int32) (v2 : Int32), S_X7_passOver_b0 σ v1 v2 → P_X7_passOver_b0 σ v1 v2 = R → ∀ (H : Heap) (locs : List Loc) (ls : Array Slot), q_W D A s.heap (wX7 k a σ) H locs → lv_has ls 3 [(0, .ref (a 0)), (1, .int v1), (2, .int v2)] → W p l e { frames := 2, cells := 0, slots := 0, locals := 45 } s m args below meth c H locs 0 0 (MQ below (va_Qv (fun u => u = R) (fun u => q_E D (tyL k) A (wX7 k a u)) A) args s 0 0 A) (F0 m 0 ls []) := by
  intro σ v1 v2 hs hR H locs ls hW hl
  rw [P_X7_passOver_b0_e] at hR
  rw [S_X7_passOver_b0_e] at hs
  obtain ⟨hx, hb, hr, hml, hts, hown, hlocks, hK, hA⟩ := id C0
  have hf25 := hts (.fieldLink RX7 25 "BeatFollower$Scene" "fates" "LBeatFollower$Fates;") (by decide +kernel)
  have hf46 := hts (.fieldLink RX7 46 "BeatFollower$Scene" "tally" "LBeatFollower$Tally;") (by decide +kernel)
  have hf165 := hts (.fieldLink RX7 165 "BeatFollower$Tally" "passedOver" "I") (by decide +kernel)
  have hinX7 : ∀ w ∈ u_ws RX7 TX7 7, w ∈ wsX7_passOver := hin_X7_passOver_X7
  have hinX8 : ∀ w ∈ u_ws RX8 TX8 10, w ∈ wsX7_passOver := hin_X7_passOver_X8
  refine lv_aload_n hx hb dX7_passOver_0 rfl (lv_at hl 0 rfl) ?_
  refine va_get (v := .ref (a 16)) (C := RX7) (T := TX7) (N := 7) hx hb hts hinX7 hown hK hW.1 0 rfl rfl 5 (by decide) hf46 (fun _ h9 => h9) rfl dX7_passOver_1 ?_
  refine lv_dup hx hb dX7_passOver_4 rfl ?_
  refine va_get (v := .int (σ 16 1)) (C := RX8) (T := TX8) (N := 10) hx hb hts hinX8 hown hK hW.1 16 rfl rfl 1 (by decide) hf165 (fun _ h9 => h9) rfl dX7_passOver_5 ?_
  refine lv_iconst (v := (1 : Int32)) hx hb dX7_passOver_8 (by decide) ?_
  refine lv_iadd hx hb dX7_passOver_9 ?_
  refine q_putf (ty := .int) (wd' := wX7 k a (u2 σ 16 (upd (σ 16) 1 ((σ 16 1) + (1 : Int32))))) C0 hW hinX8 tyX8 tyX8_ok nmX8 16 rfl rfl 1 (by decide) hf165 rfl (by decide +kernel) rfl rfl (Nat.le_of_ble_eq_true rfl) dX7_passOver_10 (fX8_s1 _ _ _) (wX7_s16 k a _ _) (fun H locs hW => ?_)
  refine lv_aload_n hx hb dX7_passOver_13 rfl (lv_at hl 0 rfl) ?_
  refine va_get (v := .ref (a 5)) (C := RX7) (T := TX7) (N := 7) hx hb hts hinX7 hown hK hW.1 0 rfl rfl 2 (by decide) hf25 (fun _ h9 => h9) rfl dX7_passOver_14 ?_
  refine lv_iload_n hx hb dX7_passOver_17 rfl (lv_at hl 1 rfl) ?_
  refine lv_iconst (v := (1 : Int32)) hx hb dX7_passOver_18 (by decide) ?_
  refine lv_bipush (v := (-6 : Int32)) hx hb dX7_passOver_19 (by decide) ?_
  refine lv_ldc (v := (100000 : Int32)) hx hb hown (hts (.constant RX7 168 (100000 : Int32)) (by decide +kernel)) dX7_passOver_21 ?_
  refine lv_iload_n hx hb dX7_passOver_23 rfl (lv_at hl 2 rfl) ?_
  refine lv_iadd hx hb dX7_passOver_24 ?_
  refine lv_bipush (v := (-6 : Int32)) hx hb dX7_passOver_25 (by decide) ?_
  have hs1 := hs.1
  have hs := hs.2
  refine q_Vv (As := [.int v1, .int (1 : Int32), .int (-6 : Int32), .int ((100000 : Int32) + v2), .int (-6 : Int32)]) (rest := []) (wf := wX2 k (fun j => a (5 + j))) (R := P_X2_note (fun j => (u2 σ 16 (upd (σ 16) 1 ((σ 16 1) + (1 : Int32)))) (5 + j)) v1 (1 : Int32) (-6 : Int32) ((100000 : Int32) + v2) (-6 : Int32)) (wd' := wX7 k a (sb (u2 σ 16 (upd (σ 16) 1 ((σ 16 1) + (1 : Int32)))) 5 5 (P_X2_note (fun j => (u2 σ 16 (upd (σ 16) 1 ((σ 16 1) + (1 : Int32)))) (5 + j)) v1 (1 : Int32) (-6 : Int32) ((100000 : Int32) + v2) (-6 : Int32)))) [5, 6, 7, 8, 9] [0, 1, 2, 3] 5 2 C0 hW (m_X2_note l D k (fun j => a (5 + j)) H.size (fun j => (u2 σ 16 (upd (σ 16) 1 ((σ 16 1) + (1 : Int32)))) (5 + j)) v1 (1 : Int32) (-6 : Int32) ((100000 : Int32) + v2) (-6 : Int32) hs1) (cwV 5 hts gX7_passOver_X2_note rfl rfl rfl hd_X2_note ⟨Nat.le_of_ble_eq_true rfl, Nat.le_of_ble_eq_true rfl⟩) (by decide) (wX7_X2_5_pl k a _) rfl rfl rfl (wX2_fst k _ _ _) (wX7_X2_5_pt k a _ _) hl rfl rfl (Nat.le_of_ble_eq_true rfl) dX7_passOver_27 ⟨Nat.le_refl 0, Nat.le_refl 0⟩ (fun H locs hW => ?_)
  exact b_X7_passOver_b30c l D k a A C0 R (sb (u2 σ 16 (upd (σ 16) 1 ((σ 16 1) + (1 : Int32)))) 5 5 (P_X2_note (fun j => (u2 σ 16 (upd (σ 16) 1 ((σ 16 1) + (1 : Int32)))) (5 + j)) v1 (1 : Int32) (-6 : Int32) ((100000 : Int32) + v2) (-6 : Int32))) hs hR H locs ls hW (lv_sub hl [0] rfl)
set_option maxHeartbeats 400000 in
set_option maxRecDepth 100000 in
theorem m_X7_passOver (l : Launch) (D : va_G) (k : Nat → ClassId) (a : Nat → Nat) (sz : Nat) (σ : T2) (p0 : Int32) (p1 : Int32) (hs : S_X7_passOver σ p0 p1) : Met l yX7_passOver wsX7_passOver { frames := 2, cells := 0, slots := 0, locals := 45 } (va_Pc [.ref (a 0), .int p0, .int p1] (q_B D (tyL k) (wX7 k a σ) sz)) (va_Qv (fun u => u = P_X7_passOver σ p0 p1) (fun u => q_E D (tyL k) (va_A (wX7 k a σ) sz) (wX7 k a u)) (va_A (wX7 k a σ) sz)) 0 0 (va_A (wX7 k a σ) sz) := by
  refine q_met [.ref (a 0), .int p0, .int p1] (wX7 k a σ) sz (cc := cX7_passOver) (maxL := 3) (ret := none) (by decide) rfl (Nat.le_of_ble_eq_true rfl) ?_
  intro p e s m args below meth c ls hsz C0 hW hl hin
  subst hsz
  exact b_X7_passOver_b0 l D k a _ C0 _ σ p0 p1 hs rfl s.heap [] ls hW (lv_sub hl [0, 1, 2] rfl)
theorem hin_X7_nudge_X1 : ∀ w ∈ u_ws RX1 TX1 7, w ∈ wsX7_nudge := by decide +kernel
theorem hin_X7_nudge_X7 : ∀ w ∈ u_ws RX7 TX7 7, w ∈ wsX7_nudge := by decide +kernel
theorem hd_X7_nudge : yX7_nudge.cls = RX7 ∧ yX7_nudge.cls ≠ "java/lang/invoke/MethodHandle" ∧ yX7_nudge.cls ≠ "java/lang/invoke/VarHandle" ∧ (parseMethodDescriptor yX7_nudge.desc).map (fun d => d.parameters.length) = some 1 := by decide +kernel
noncomputable def P_X7_nudge_b22n (σ : T2) (v1 : Int32) (v2 : Int32) : T2 := u2 σ 15 (upd (upd (σ 15) 1 ((if ((2 : Int32) * (σ 1 0)) < ((if v2 < ((8 : Int32) * (σ 1 0)) then v2 else ((8 : Int32) * (σ 1 0)))) then ((if v2 < ((8 : Int32) * (σ 1 0)) then v2 else ((8 : Int32) * (σ 1 0)))) else ((2 : Int32) * (σ 1 0))))) 2 ((σ 15 2) + ((P_J9_floorDiv_7cf53 (v1 * (σ 1 2)) (16 : Int32)) + ((if ((2 : Int32) * (σ 1 0)) < ((if v2 < ((8 : Int32) * (σ 1 0)) then v2 else ((8 : Int32) * (σ 1 0)))) then ((if v2 < ((8 : Int32) * (σ 1 0)) then v2 else ((8 : Int32) * (σ 1 0)))) else ((2 : Int32) * (σ 1 0)))))))
def S_X7_nudge_b22n (σ : T2) (v1 : Int32) (v2 : Int32) : Prop := (S_J9_floorDiv_7cf53 (v1 * (σ 1 2)) (16 : Int32)) ∧ (True)
theorem P_X7_nudge_b22n_e (σ : T2) (v1 : Int32) (v2 : Int32) : P_X7_nudge_b22n σ v1 v2 = u2 σ 15 (upd (upd (σ 15) 1 ((if ((2 : Int32) * (σ 1 0)) < ((if v2 < ((8 : Int32) * (σ 1 0)) then v2 else ((8 : Int32) * (σ 1 0)))) then ((if v2 < ((8 : Int32) * (σ 1 0)) then v2 else ((8 : Int32) * (σ 1 0)))) else ((2 : Int32) * (σ 1 0))))) 2 ((σ 15 2) + ((P_J9_floorDiv_7cf53 (v1 * (σ 1 2)) (16 : Int32)) + ((if ((2 : Int32) * (σ 1 0)) < ((if v2 < ((8 : Int32) * (σ 1 0)) then v2 else ((8 : Int32) * (σ 1 0)))) then ((if v2 < ((8 : Int32) * (σ 1 0)) then v2 else ((8 : Int32) * (σ 1 0)))) else ((2 : Int32) * (σ 1 0))))))) := rfl
theorem S_X7_nudge_b22n_e (σ : T2) (v1 : Int32) (v2 : Int32) : S_X7_nudge_b22n σ v1 v2 = ((S_J9_floorDiv_7cf53 (v1 * (σ 1 2)) (16 : Int32)) ∧ (True)) := rfl
noncomputable def P_X7_nudge_b0 (σ : T2) (v1 : Int32) : T2 := P_X7_nudge_b22n σ v1 ((σ 15 1) + (P_J9_floorDiv_7cf53 (v1 * (σ 1 3)) (16 : Int32)))
def S_X7_nudge_b0 (σ : T2) (v1 : Int32) : Prop := (S_J9_floorDiv_7cf53 (v1 * (σ 1 3)) (16 : Int32)) ∧ (S_X7_nudge_b22n σ v1 ((σ 15 1) + (P_J9_floorDiv_7cf53 (v1 * (σ 1 3)) (16 : Int32))))
theorem P_X7_nudge_b0_e (σ : T2) (v1 : Int32) : P_X7_nudge_b0 σ v1 = P_X7_nudge_b22n σ v1 ((σ 15 1) + (P_J9_floorDiv_7cf53 (v1 * (σ 1 3)) (16 : Int32))) := rfl
theorem S_X7_nudge_b0_e (σ : T2) (v1 : Int32) : S_X7_nudge_b0 σ v1 = ((S_J9_floorDiv_7cf53 (v1 * (σ 1 3)) (16 : Int32)) ∧ (S_X7_nudge_b22n σ v1 ((σ 15 1) + (P_J9_floorDiv_7cf53 (v1 * (σ 1 3)) (16 : Int32))))) := rfl
noncomputable def P_X7_nudge (σ : T2) (p0 : Int32) : T2 := P_X7_nudge_b0 σ p0
def S_X7_nudge (σ : T2) (p0 : Int32) : Prop := S_X7_nudge_b0 σ p0
set_option maxHeartbeats 400000 in
set_option maxRecDepth 100000 in
theorem b_X7_nudge_b22n {p : Program} {e : Env} {s : State} {m : MethodId} {args : Array Value} {below : List Frame} {meth : Method} {c : Code} (l : Launch) (D : va_G) (k : Nat → ClassId) (a : Nat → Nat) (A : Nat → Prop) (C0 : q_C p s m meth c args RX7 cX7_nudge 3 none wsX7_nudge D (tyL k) A) (R : T2) : ∀ (σ : T2) (v1 : Int32) (v2 : Int32), S_X7_nudge_b22n σ v1 v2 → P_X7_nudge_b22n σ v1 v2 = R → ∀ (H : Heap) (locs : List Loc) (ls : Array Slot), q_W D A s.heap (wX7 k a σ) H locs → lv_has ls 3 [(0, .ref (a 0)), (1, .int v1), (2, .int v2)] → W p l e { frames := 1, cells := 0, slots := 0, locals := 40 } s m args below meth c H locs 0 0 (MQ below (va_Qv (fun u => u = R) (fun u => q_E D (tyL k) A (wX7 k a u)) A) args s 0 0 A) (F0 m 22 ls []) := by
  intro σ v1 v2 hs hR H locs ls hW hl
  rw [P_X7_nudge_b22n_e] at hR
  rw [S_X7_nudge_b22n_e] at hs
  obtain ⟨hx, hb, hr, hml, hts, hown, hlocks, hK, hA⟩ := id C0
  have hf9 := hts (.fieldLink RX7 9 "BeatFollower$Scene" "settings" "[I") (by decide +kernel)
  have hf39 := hts (.fieldLink RX7 39 "BeatFollower$Scene" "drummer" "LBeatFollower$Drummer;") (by decide +kernel)
  have hf120 := hts (.fieldLink RX7 120 "BeatFollower$Drummer" "nextBlow" "I") (by decide +kernel)
  have hf126 := hts (.fieldLink RX7 126 "BeatFollower$Drummer" "period" "I") (by decide +kernel)
  have hinX1 : ∀ w ∈ u_ws RX1 TX1 7, w ∈ wsX7_nudge := hin_X7_nudge_X1
  have hinX7 : ∀ w ∈ u_ws RX7 TX7 7, w ∈ wsX7_nudge := hin_X7_nudge_X7
  refine lv_aload_n hx hb dX7_nudge_22 rfl (lv_at hl 0 rfl) ?_
  refine va_get (v := .ref (a 15)) (C := RX7) (T := TX7) (N := 7) hx hb hts hinX7 hown hK hW.1 0 rfl rfl 4 (by decide) hf39 (fun _ h9 => h9) rfl dX7_nudge_23 ?_
  refine lv_iconst (v := (2 : Int32)) hx hb dX7_nudge_26 (by decide) ?_
  refine lv_aload_n hx hb dX7_nudge_27 rfl (lv_at hl 0 rfl) ?_
  refine va_get (v := .ref (a 1)) (C := RX7) (T := TX7) (N := 7) hx hb hts hinX7 hown hK hW.1 0 rfl rfl 0 (by decide) hf9 (fun _ h9 => h9) rfl dX7_nudge_28 ?_
  refine lv_iconst (v := (0 : Int32)) hx hb dX7_nudge_31 (by decide) ?_
  refine q_iald (v := σ 1 0) C0 hW 1 rfl rfl vi_0_8 cl_0 rfl dX7_nudge_32 ?_
  refine lv_imul hx hb dX7_nudge_33 ?_
  refine lv_bipush (v := (8 : Int32)) hx hb dX7_nudge_34 (by decide) ?_
  refine lv_aload_n hx hb dX7_nudge_36 rfl (lv_at hl 0 rfl) ?_
  refine va_get (v := .ref (a 1)) (C := RX7) (T := TX7) (N := 7) hx hb hts hinX7 hown hK hW.1 0 rfl rfl 0 (by decide) hf9 (fun _ h9 => h9) rfl dX7_nudge_37 ?_
  refine lv_iconst (v := (0 : Int32)) hx hb dX7_nudge_40 (by decide) ?_
  refine q_iald (v := σ 1 0) C0 hW 1 rfl rfl vi_0_8 cl_0 rfl dX7_nudge_41 ?_
  refine lv_imul hx hb dX7_nudge_42 ?_
  refine lv_iload_n hx hb dX7_nudge_43 rfl (lv_at hl 2 rfl) ?_
  refine va_mmin hx hb (by rw [hml]; exact hl.1.symm) hown (hts (.methodLink RX7 104 Lib.Math.min.name) (by decide +kernel)) (hts (.static Lib.Math.min.name) (by decide +kernel)) (hts (.initialized "java/lang/Math") (by decide +kernel)) (hts (.code Lib.Math.min.name Lib.Math.min.code 2 (some .int)) (by decide +kernel)) (Nat.le_of_ble_eq_true rfl) (Nat.le_of_ble_eq_true rfl) (Nat.zero_le _) (Nat.zero_le _) dX7_nudge_44 ?_
  refine va_mmax hx hb (by rw [hml]; exact hl.1.symm) hown (hts (.methodLink RX7 188 Lib.Math.max.name) (by decide +kernel)) (hts (.static Lib.Math.max.name) (by decide +kernel)) (hts (.initialized "java/lang/Math") (by decide +kernel)) (hts (.code Lib.Math.max.name Lib.Math.max.code 2 (some .int)) (by decide +kernel)) (Nat.le_of_ble_eq_true rfl) (Nat.le_of_ble_eq_true rfl) (Nat.zero_le _) (Nat.zero_le _) dX7_nudge_47 ?_
  refine q_putf (ty := .int) (wd' := wX7 k a (u2 σ 15 (upd (σ 15) 1 ((if ((2 : Int32) * (σ 1 0)) < ((if v2 < ((8 : Int32) * (σ 1 0)) then v2 else ((8 : Int32) * (σ 1 0)))) then ((if v2 < ((8 : Int32) * (σ 1 0)) then v2 else ((8 : Int32) * (σ 1 0)))) else ((2 : Int32) * (σ 1 0))))))) C0 hW hinX1 tyX1 tyX1_ok nmX1 15 rfl rfl 1 (by decide) hf126 rfl (by decide +kernel) rfl rfl (Nat.le_of_ble_eq_true rfl) dX7_nudge_50 (fX1_s1 _ _ _) (wX7_s15 k a _ _) (fun H locs hW => ?_)
  refine lv_aload_n hx hb dX7_nudge_53 rfl (lv_at hl 0 rfl) ?_
  refine va_get (v := .ref (a 15)) (C := RX7) (T := TX7) (N := 7) hx hb hts hinX7 hown hK hW.1 0 rfl rfl 4 (by decide) hf39 (fun _ h9 => h9) rfl dX7_nudge_54 ?_
  refine lv_dup hx hb dX7_nudge_57 rfl ?_
  refine va_get (v := .int (σ 15 2)) (C := RX1) (T := TX1) (N := 7) hx hb hts hinX1 hown hK hW.1 15 rfl rfl 2 (by decide) hf120 (fun _ h9 => h9) rfl dX7_nudge_58 ?_
  refine lv_iload_n hx hb dX7_nudge_61 rfl (lv_at hl 1 rfl) ?_
  refine lv_aload_n hx hb dX7_nudge_62 rfl (lv_at hl 0 rfl) ?_
  refine va_get (v := .ref (a 1)) (C := RX7) (T := TX7) (N := 7) hx hb hts hinX7 hown hK hW.1 0 rfl rfl 0 (by decide) hf9 (fun _ h9 => h9) rfl dX7_nudge_63 ?_
  refine lv_iconst (v := (2 : Int32)) hx hb dX7_nudge_66 (by decide) ?_
  refine q_iald (v := σ 1 2) C0 hW 1 rfl rfl vi_2_8 cl_2 rfl dX7_nudge_67 ?_
  refine lv_imul hx hb dX7_nudge_68 ?_
  refine lv_bipush (v := (16 : Int32)) hx hb dX7_nudge_69 (by decide) ?_
  have hs2 := hs.1
  have hs := hs.2
  refine q_Si (As := [.int (v1 * (σ 1 2)), .int (16 : Int32)]) (rest := [.int (σ 15 2), .ref (a 15)]) (R := P_J9_floorDiv_7cf53 (v1 * (σ 1 2)) (16 : Int32)) ⟨hx, hb, hml, hown, hts⟩ (m_J9_floorDiv_7cf53 l (v1 * (σ 1 2)) (16 : Int32) hs2) (va_cwS 2 hts gX7_nudge_J9_floorDiv_7cf53 rfl rfl rfl hd_J9_floorDiv_7cf53 ⟨Nat.le_of_ble_eq_true rfl, Nat.le_of_ble_eq_true rfl⟩) hl rfl rfl (Nat.le_of_ble_eq_true rfl) dX7_nudge_71 ⟨Nat.le_refl 0, Nat.le_refl 0⟩ ?_
  refine lv_aload_n hx hb dX7_nudge_74 rfl (lv_at hl 0 rfl) ?_
  refine va_get (v := .ref (a 15)) (C := RX7) (T := TX7) (N := 7) hx hb hts hinX7 hown hK hW.1 0 rfl rfl 4 (by decide) hf39 (fun _ h9 => h9) rfl dX7_nudge_75 ?_
  refine va_get (v := .int ((if ((2 : Int32) * (σ 1 0)) < ((if v2 < ((8 : Int32) * (σ 1 0)) then v2 else ((8 : Int32) * (σ 1 0)))) then ((if v2 < ((8 : Int32) * (σ 1 0)) then v2 else ((8 : Int32) * (σ 1 0)))) else ((2 : Int32) * (σ 1 0))))) (C := RX1) (T := TX1) (N := 7) hx hb hts hinX1 hown hK hW.1 15 rfl rfl 1 (by decide) hf126 (fun _ h9 => h9) rfl dX7_nudge_78 ?_
  refine lv_iadd hx hb dX7_nudge_81 ?_
  refine lv_iadd hx hb dX7_nudge_82 ?_
  refine q_putf (ty := .int) (wd' := wX7 k a (u2 σ 15 (upd (upd (σ 15) 1 ((if ((2 : Int32) * (σ 1 0)) < ((if v2 < ((8 : Int32) * (σ 1 0)) then v2 else ((8 : Int32) * (σ 1 0)))) then ((if v2 < ((8 : Int32) * (σ 1 0)) then v2 else ((8 : Int32) * (σ 1 0)))) else ((2 : Int32) * (σ 1 0))))) 2 ((σ 15 2) + ((P_J9_floorDiv_7cf53 (v1 * (σ 1 2)) (16 : Int32)) + ((if ((2 : Int32) * (σ 1 0)) < ((if v2 < ((8 : Int32) * (σ 1 0)) then v2 else ((8 : Int32) * (σ 1 0)))) then ((if v2 < ((8 : Int32) * (σ 1 0)) then v2 else ((8 : Int32) * (σ 1 0)))) else ((2 : Int32) * (σ 1 0))))))))) C0 hW hinX1 tyX1 tyX1_ok nmX1 15 rfl rfl 2 (by decide) hf120 rfl (by decide +kernel) rfl rfl (Nat.le_of_ble_eq_true rfl) dX7_nudge_83 (fX1_s2 _ _ _) ((wX7_s15 k a _ _).trans (congrArg (wX7 k a) (u2_same _ _ _ _))) (fun H locs hW => ?_)
  exact q_vret C0 hW hR dX7_nudge_86
set_option maxHeartbeats 400000 in
set_option maxRecDepth 100000 in
theorem b_X7_nudge_b0 {p : Program} {e : Env} {s : State} {m : MethodId} {args : Array Value} {below : List Frame} {meth : Method} {c : Code} (l : Launch) (D : va_G) (k : Nat → ClassId) (a : Nat → Nat) (A : Nat → Prop) (C0 : q_C p s m meth c args RX7 cX7_nudge 3 none wsX7_nudge D (tyL k) A) (R : T2) : ∀ (σ : T2) (v1 : Int32), S_X7_nudge_b0 σ v1 → P_X7_nudge_b0 σ v1 = R → ∀ (H : Heap) (locs : List Loc) (ls : Array Slot), q_W D A s.heap (wX7 k a σ) H locs → lv_has ls 3 [(0, .ref (a 0)), (1, .int v1)] → W p l e { frames := 1, cells := 0, slots := 0, locals := 40 } s m args below meth c H locs 0 0 (MQ below (va_Qv (fun u => u = R) (fun u => q_E D (tyL k) A (wX7 k a u)) A) args s 0 0 A) (F0 m 0 ls []) := by
  intro σ v1 hs hR H locs ls hW hl
  rw [P_X7_nudge_b0_e] at hR
  rw [S_X7_nudge_b0_e] at hs
  obtain ⟨hx, hb, hr, hml, hts, hown, hlocks, hK, hA⟩ := id C0
  have hf9 := hts (.fieldLink RX7 9 "BeatFollower$Scene" "settings" "[I") (by decide +kernel)
  have hf39 := hts (.fieldLink RX7 39 "BeatFollower$Scene" "drummer" "LBeatFollower$Drummer;") (by decide +kernel)
  have hf126 := hts (.fieldLink RX7 126 "BeatFollower$Drummer" "period" "I") (by decide +kernel)
  have hinX1 : ∀ w ∈ u_ws RX1 TX1 7, w ∈ wsX7_nudge := hin_X7_nudge_X1
  have hinX7 : ∀ w ∈ u_ws RX7 TX7 7, w ∈ wsX7_nudge := hin_X7_nudge_X7
  refine lv_aload_n hx hb dX7_nudge_0 rfl (lv_at hl 0 rfl) ?_
  refine va_get (v := .ref (a 15)) (C := RX7) (T := TX7) (N := 7) hx hb hts hinX7 hown hK hW.1 0 rfl rfl 4 (by decide) hf39 (fun _ h9 => h9) rfl dX7_nudge_1 ?_
  refine va_get (v := .int (σ 15 1)) (C := RX1) (T := TX1) (N := 7) hx hb hts hinX1 hown hK hW.1 15 rfl rfl 1 (by decide) hf126 (fun _ h9 => h9) rfl dX7_nudge_4 ?_
  refine lv_iload_n hx hb dX7_nudge_7 rfl (lv_at hl 1 rfl) ?_
  refine lv_aload_n hx hb dX7_nudge_8 rfl (lv_at hl 0 rfl) ?_
  refine va_get (v := .ref (a 1)) (C := RX7) (T := TX7) (N := 7) hx hb hts hinX7 hown hK hW.1 0 rfl rfl 0 (by decide) hf9 (fun _ h9 => h9) rfl dX7_nudge_9 ?_
  refine lv_iconst (v := (3 : Int32)) hx hb dX7_nudge_12 (by decide) ?_
  refine q_iald (v := σ 1 3) C0 hW 1 rfl rfl vi_3_8 cl_3 rfl dX7_nudge_13 ?_
  refine lv_imul hx hb dX7_nudge_14 ?_
  refine lv_bipush (v := (16 : Int32)) hx hb dX7_nudge_15 (by decide) ?_
  have hs1 := hs.1
  have hs := hs.2
  refine q_Si (As := [.int (v1 * (σ 1 3)), .int (16 : Int32)]) (rest := [.int (σ 15 1)]) (R := P_J9_floorDiv_7cf53 (v1 * (σ 1 3)) (16 : Int32)) ⟨hx, hb, hml, hown, hts⟩ (m_J9_floorDiv_7cf53 l (v1 * (σ 1 3)) (16 : Int32) hs1) (va_cwS 2 hts gX7_nudge_J9_floorDiv_7cf53 rfl rfl rfl hd_J9_floorDiv_7cf53 ⟨Nat.le_of_ble_eq_true rfl, Nat.le_of_ble_eq_true rfl⟩) hl rfl rfl (Nat.le_of_ble_eq_true rfl) dX7_nudge_17 ⟨Nat.le_refl 0, Nat.le_refl 0⟩ ?_
  refine lv_iadd hx hb dX7_nudge_20 ?_
  refine lv_istore_n (lv' := [(2, .int ((σ 15 1) + (P_J9_floorDiv_7cf53 (v1 * (σ 1 3)) (16 : Int32)))), (0, .ref (a 0)), (1, .int v1)]) hx hb dX7_nudge_21 rfl hl (by decide) rfl (fun ls hl => ?_)
  exact b_X7_nudge_b22n l D k a A C0 R σ v1 ((σ 15 1) + (P_J9_floorDiv_7cf53 (v1 * (σ 1 3)) (16 : Int32))) hs hR H locs ls hW (lv_sub hl [1, 2, 0] rfl)
set_option maxHeartbeats 400000 in
set_option maxRecDepth 100000 in
theorem m_X7_nudge (l : Launch) (D : va_G) (k : Nat → ClassId) (a : Nat → Nat) (sz : Nat) (σ : T2) (p0 : Int32) (hs : S_X7_nudge σ p0) : Met l yX7_nudge wsX7_nudge { frames := 1, cells := 0, slots := 0, locals := 40 } (va_Pc [.ref (a 0), .int p0] (q_B D (tyL k) (wX7 k a σ) sz)) (va_Qv (fun u => u = P_X7_nudge σ p0) (fun u => q_E D (tyL k) (va_A (wX7 k a σ) sz) (wX7 k a u)) (va_A (wX7 k a σ) sz)) 0 0 (va_A (wX7 k a σ) sz) := by
  refine q_met [.ref (a 0), .int p0] (wX7 k a σ) sz (cc := cX7_nudge) (maxL := 3) (ret := none) (by decide) rfl (Nat.le_of_ble_eq_true rfl) ?_
  intro p e s m args below meth c ls hsz C0 hW hl hin
  subst hsz
  exact b_X7_nudge_b0 l D k a _ C0 _ σ p0 hs rfl s.heap [] ls hW (lv_sub hl [0, 1] rfl)
theorem hin_X7_takeBeat_X0 : ∀ w ∈ u_ws RX0 TX0 5, w ∈ wsX7_takeBeat := by decide +kernel
theorem hin_X7_takeBeat_X1 : ∀ w ∈ u_ws RX1 TX1 7, w ∈ wsX7_takeBeat := by decide +kernel
theorem hin_X7_takeBeat_X7 : ∀ w ∈ u_ws RX7 TX7 7, w ∈ wsX7_takeBeat := by decide +kernel
theorem hin_X7_takeBeat_X8 : ∀ w ∈ u_ws RX8 TX8 10, w ∈ wsX7_takeBeat := by decide +kernel
theorem hd_X7_takeBeat : yX7_takeBeat.cls = RX7 ∧ yX7_takeBeat.cls ≠ "java/lang/invoke/MethodHandle" ∧ yX7_takeBeat.cls ≠ "java/lang/invoke/VarHandle" ∧ (parseMethodDescriptor yX7_takeBeat.desc).map (fun d => d.parameters.length) = some 2 := by decide +kernel
noncomputable def P_X7_takeBeat_b150c (σ : T2) (v1 : Int32) (v3 : Int32) : T2 := sb σ 10 5 (P_X0_append (fun j => σ (10 + j)) v3 v1 (σ 15 1) (σ 15 0))
def S_X7_takeBeat_b150c (σ : T2) (v1 : Int32) (v3 : Int32) : Prop := (S_X0_append (fun j => σ (10 + j)) v3 v1 (σ 15 1) (σ 15 0)) ∧ (True)
theorem P_X7_takeBeat_b150c_e (σ : T2) (v1 : Int32) (v3 : Int32) : P_X7_takeBeat_b150c σ v1 v3 = sb σ 10 5 (P_X0_append (fun j => σ (10 + j)) v3 v1 (σ 15 1) (σ 15 0)) := rfl
theorem S_X7_takeBeat_b150c_e (σ : T2) (v1 : Int32) (v3 : Int32) : S_X7_takeBeat_b150c σ v1 v3 = ((S_X0_append (fun j => σ (10 + j)) v3 v1 (σ 15 1) (σ 15 0)) ∧ (True)) := rfl
noncomputable def P_X7_takeBeat_b144c (σ : T2) (v1 : Int32) (v3 : Int32) (v4 : Int32) : T2 := P_X7_takeBeat_b150c (P_X7_judge σ v4) v1 v3
def S_X7_takeBeat_b144c (σ : T2) (v1 : Int32) (v3 : Int32) (v4 : Int32) : Prop := (S_X7_judge σ v4) ∧ (S_X7_takeBeat_b150c (P_X7_judge σ v4) v1 v3)
theorem P_X7_takeBeat_b144c_e (σ : T2) (v1 : Int32) (v3 : Int32) (v4 : Int32) : P_X7_takeBeat_b144c σ v1 v3 v4 = P_X7_takeBeat_b150c (P_X7_judge σ v4) v1 v3 := rfl
theorem S_X7_takeBeat_b144c_e (σ : T2) (v1 : Int32) (v3 : Int32) (v4 : Int32) : S_X7_takeBeat_b144c σ v1 v3 v4 = ((S_X7_judge σ v4) ∧ (S_X7_takeBeat_b150c (P_X7_judge σ v4) v1 v3)) := rfl
noncomputable def P_X7_takeBeat_b118c (σ : T2) (v1 : Int32) (v2 : Int32) (v3 : Int32) (v4 : Int32) (v6 : Int32) : T2 := P_X7_takeBeat_b144c (sb σ 5 5 (P_X2_note (fun j => σ (5 + j)) v1 (2 : Int32) (σ 10 4) ((100000 : Int32) + v2) ((1000 : Int32) + v6))) v1 v3 v4
def S_X7_takeBeat_b118c (σ : T2) (v1 : Int32) (v2 : Int32) (v3 : Int32) (v4 : Int32) (v6 : Int32) : Prop := (S_X2_note (fun j => σ (5 + j)) v1 (2 : Int32) (σ 10 4) ((100000 : Int32) + v2) ((1000 : Int32) + v6)) ∧ (S_X7_takeBeat_b144c (sb σ 5 5 (P_X2_note (fun j => σ (5 + j)) v1 (2 : Int32) (σ 10 4) ((100000 : Int32) + v2) ((1000 : Int32) + v6))) v1 v3 v4)
theorem P_X7_takeBeat_b118c_e (σ : T2) (v1 : Int32) (v2 : Int32) (v3 : Int32) (v4 : Int32) (v6 : Int32) : P_X7_takeBeat_b118c σ v1 v2 v3 v4 v6 = P_X7_takeBeat_b144c (sb σ 5 5 (P_X2_note (fun j => σ (5 + j)) v1 (2 : Int32) (σ 10 4) ((100000 : Int32) + v2) ((1000 : Int32) + v6))) v1 v3 v4 := rfl
theorem S_X7_takeBeat_b118c_e (σ : T2) (v1 : Int32) (v2 : Int32) (v3 : Int32) (v4 : Int32) (v6 : Int32) : S_X7_takeBeat_b118c σ v1 v2 v3 v4 v6 = ((S_X2_note (fun j => σ (5 + j)) v1 (2 : Int32) (σ 10 4) ((100000 : Int32) + v2) ((1000 : Int32) + v6)) ∧ (S_X7_takeBeat_b144c (sb σ 5 5 (P_X2_note (fun j => σ (5 + j)) v1 (2 : Int32) (σ 10 4) ((100000 : Int32) + v2) ((1000 : Int32) + v6))) v1 v3 v4)) := rfl
noncomputable def P_X7_takeBeat_b88n (σ : T2) (v1 : Int32) (v2 : Int32) (v3 : Int32) (v4 : Int32) (v5 : Int32) : T2 := P_X7_takeBeat_b118c (sb (u2 σ 15 (upd (σ 15) 6 v5)) 16 1 (P_X8_addSlip (fun j => (u2 σ 15 (upd (σ 15) 6 v5)) (16 + j)) (v5 - (σ 15 6)))) v1 v2 v3 v4 (v5 - (σ 15 6))
def S_X7_takeBeat_b88n (σ : T2) (v1 : Int32) (v2 : Int32) (v3 : Int32) (v4 : Int32) (v5 : Int32) : Prop := (S_X8_addSlip (fun j => (u2 σ 15 (upd (σ 15) 6 v5)) (16 + j)) (v5 - (σ 15 6))) ∧ (S_X7_takeBeat_b118c (sb (u2 σ 15 (upd (σ 15) 6 v5)) 16 1 (P_X8_addSlip (fun j => (u2 σ 15 (upd (σ 15) 6 v5)) (16 + j)) (v5 - (σ 15 6)))) v1 v2 v3 v4 (v5 - (σ 15 6)))
theorem P_X7_takeBeat_b88n_e (σ : T2) (v1 : Int32) (v2 : Int32) (v3 : Int32) (v4 : Int32) (v5 : Int32) : P_X7_takeBeat_b88n σ v1 v2 v3 v4 v5 = P_X7_takeBeat_b118c (sb (u2 σ 15 (upd (σ 15) 6 v5)) 16 1 (P_X8_addSlip (fun j => (u2 σ 15 (upd (σ 15) 6 v5)) (16 + j)) (v5 - (σ 15 6)))) v1 v2 v3 v4 (v5 - (σ 15 6)) := rfl
theorem S_X7_takeBeat_b88n_e (σ : T2) (v1 : Int32) (v2 : Int32) (v3 : Int32) (v4 : Int32) (v5 : Int32) : S_X7_takeBeat_b88n σ v1 v2 v3 v4 v5 = ((S_X8_addSlip (fun j => (u2 σ 15 (upd (σ 15) 6 v5)) (16 + j)) (v5 - (σ 15 6))) ∧ (S_X7_takeBeat_b118c (sb (u2 σ 15 (upd (σ 15) 6 v5)) 16 1 (P_X8_addSlip (fun j => (u2 σ 15 (upd (σ 15) 6 v5)) (16 + j)) (v5 - (σ 15 6)))) v1 v2 v3 v4 (v5 - (σ 15 6)))) := rfl
noncomputable def P_X7_takeBeat_b46c (σ : T2) (v1 : Int32) (v2 : Int32) (v3 : Int32) (v4 : Int32) : T2 := P_X7_takeBeat_b88n (u2 (u2 σ 15 (upd (σ 15) 5 (0 : Int32))) 16 (upd (σ 16) 8 ((σ 16 8) + (if 0 ≤ v2 then v2 else 0 - v2)))) v1 v2 v3 v4 ((P_X5_numberOf (fun j => (u2 (u2 σ 15 (upd (σ 15) 5 (0 : Int32))) 16 (upd (σ 16) 8 ((σ 16 8) + (if 0 ≤ v2 then v2 else 0 - v2)))) (2 + j)) v1) - (σ 10 4))
def S_X7_takeBeat_b46c (σ : T2) (v1 : Int32) (v2 : Int32) (v3 : Int32) (v4 : Int32) : Prop := (S_X5_numberOf (fun j => (u2 (u2 σ 15 (upd (σ 15) 5 (0 : Int32))) 16 (upd (σ 16) 8 ((σ 16 8) + (if 0 ≤ v2 then v2 else 0 - v2)))) (2 + j)) v1) ∧ (S_X7_takeBeat_b88n (u2 (u2 σ 15 (upd (σ 15) 5 (0 : Int32))) 16 (upd (σ 16) 8 ((σ 16 8) + (if 0 ≤ v2 then v2 else 0 - v2)))) v1 v2 v3 v4 ((P_X5_numberOf (fun j => (u2 (u2 σ 15 (upd (σ 15) 5 (0 : Int32))) 16 (upd (σ 16) 8 ((σ 16 8) + (if 0 ≤ v2 then v2 else 0 - v2)))) (2 + j)) v1) - (σ 10 4)))
theorem P_X7_takeBeat_b46c_e (σ : T2) (v1 : Int32) (v2 : Int32) (v3 : Int32) (v4 : Int32) : P_X7_takeBeat_b46c σ v1 v2 v3 v4 = P_X7_takeBeat_b88n (u2 (u2 σ 15 (upd (σ 15) 5 (0 : Int32))) 16 (upd (σ 16) 8 ((σ 16 8) + (if 0 ≤ v2 then v2 else 0 - v2)))) v1 v2 v3 v4 ((P_X5_numberOf (fun j => (u2 (u2 σ 15 (upd (σ 15) 5 (0 : Int32))) 16 (upd (σ 16) 8 ((σ 16 8) + (if 0 ≤ v2 then v2 else 0 - v2)))) (2 + j)) v1) - (σ 10 4)) := rfl
theorem S_X7_takeBeat_b46c_e (σ : T2) (v1 : Int32) (v2 : Int32) (v3 : Int32) (v4 : Int32) : S_X7_takeBeat_b46c σ v1 v2 v3 v4 = ((S_X5_numberOf (fun j => (u2 (u2 σ 15 (upd (σ 15) 5 (0 : Int32))) 16 (upd (σ 16) 8 ((σ 16 8) + (if 0 ≤ v2 then v2 else 0 - v2)))) (2 + j)) v1) ∧ (S_X7_takeBeat_b88n (u2 (u2 σ 15 (upd (σ 15) 5 (0 : Int32))) 16 (upd (σ 16) 8 ((σ 16 8) + (if 0 ≤ v2 then v2 else 0 - v2)))) v1 v2 v3 v4 ((P_X5_numberOf (fun j => (u2 (u2 σ 15 (upd (σ 15) 5 (0 : Int32))) 16 (upd (σ 16) 8 ((σ 16 8) + (if 0 ≤ v2 then v2 else 0 - v2)))) (2 + j)) v1) - (σ 10 4)))) := rfl
noncomputable def P_X7_takeBeat_b39 (σ : T2) (v1 : Int32) (v2 : Int32) (v3 : Int32) (t0 : Int32) : T2 := P_X7_takeBeat_b46c (P_X7_nudge σ v2) v1 v2 v3 t0
def S_X7_takeBeat_b39 (σ : T2) (v1 : Int32) (v2 : Int32) (v3 : Int32) (t0 : Int32) : Prop := (S_X7_nudge σ v2) ∧ (S_X7_takeBeat_b46c (P_X7_nudge σ v2) v1 v2 v3 t0)
theorem P_X7_takeBeat_b39_e (σ : T2) (v1 : Int32) (v2 : Int32) (v3 : Int32) (t0 : Int32) : P_X7_takeBeat_b39 σ v1 v2 v3 t0 = P_X7_takeBeat_b46c (P_X7_nudge σ v2) v1 v2 v3 t0 := rfl
theorem S_X7_takeBeat_b39_e (σ : T2) (v1 : Int32) (v2 : Int32) (v3 : Int32) (t0 : Int32) : S_X7_takeBeat_b39 σ v1 v2 v3 t0 = ((S_X7_nudge σ v2) ∧ (S_X7_takeBeat_b46c (P_X7_nudge σ v2) v1 v2 v3 t0)) := rfl
noncomputable def P_X7_takeBeat_b0 (σ : T2) (v1 : Int32) (v2 : Int32) : T2 := if (P_J9_floorDiv_7cf53 ((σ 15 1) * (σ 1 4)) (100 : Int32)) < (if 0 ≤ v2 then v2 else 0 - v2) then (P_X7_takeBeat_b39 σ v1 v2 (σ 15 2) (0 : Int32)) else (P_X7_takeBeat_b39 σ v1 v2 (σ 15 2) (1 : Int32))
def S_X7_takeBeat_b0 (σ : T2) (v1 : Int32) (v2 : Int32) : Prop := (S_J9_floorDiv_7cf53 ((σ 15 1) * (σ 1 4)) (100 : Int32)) ∧ (((P_J9_floorDiv_7cf53 ((σ 15 1) * (σ 1 4)) (100 : Int32)) < (if 0 ≤ v2 then v2 else 0 - v2) → (S_X7_takeBeat_b39 σ v1 v2 (σ 15 2) (0 : Int32))) ∧ (¬ ((P_J9_floorDiv_7cf53 ((σ 15 1) * (σ 1 4)) (100 : Int32)) < (if 0 ≤ v2 then v2 else 0 - v2)) → (S_X7_takeBeat_b39 σ v1 v2 (σ 15 2) (1 : Int32))))
theorem P_X7_takeBeat_b0_e (σ : T2) (v1 : Int32) (v2 : Int32) : P_X7_takeBeat_b0 σ v1 v2 = if (P_J9_floorDiv_7cf53 ((σ 15 1) * (σ 1 4)) (100 : Int32)) < (if 0 ≤ v2 then v2 else 0 - v2) then (P_X7_takeBeat_b39 σ v1 v2 (σ 15 2) (0 : Int32)) else (P_X7_takeBeat_b39 σ v1 v2 (σ 15 2) (1 : Int32)) := rfl
theorem S_X7_takeBeat_b0_e (σ : T2) (v1 : Int32) (v2 : Int32) : S_X7_takeBeat_b0 σ v1 v2 = ((S_J9_floorDiv_7cf53 ((σ 15 1) * (σ 1 4)) (100 : Int32)) ∧ (((P_J9_floorDiv_7cf53 ((σ 15 1) * (σ 1 4)) (100 : Int32)) < (if 0 ≤ v2 then v2 else 0 - v2) → (S_X7_takeBeat_b39 σ v1 v2 (σ 15 2) (0 : Int32))) ∧ (¬ ((P_J9_floorDiv_7cf53 ((σ 15 1) * (σ 1 4)) (100 : Int32)) < (if 0 ≤ v2 then v2 else 0 - v2)) → (S_X7_takeBeat_b39 σ v1 v2 (σ 15 2) (1 : Int32))))) := rfl
noncomputable def P_X7_takeBeat (σ : T2) (p0 : Int32) (p1 : Int32) : T2 := P_X7_takeBeat_b0 σ p0 p1
def S_X7_takeBeat (σ : T2) (p0 : Int32) (p1 : Int32) : Prop := S_X7_takeBeat_b0 σ p0 p1
set_option maxHeartbeats 400000 in
set_option maxRecDepth 100000 in
theorem b_X7_takeBeat_b150c {p : Program} {e : Env} {s : State} {m : MethodId} {args : Array Value} {below : List Frame} {meth : Method} {c : Code} (l : Launch) (D : va_G) (k : Nat → ClassId) (a : Nat → Nat) (A : Nat → Prop) (C0 : q_C p s m meth c args RX7 cX7_takeBeat 7 none wsX7_takeBeat D (tyL k) A) (R : T2) : ∀ (σ : T2) (v1 : Int32) (v3 : Int32), S_X7_takeBeat_b150c σ v1 v3 → P_X7_takeBeat_b150c σ v1 v3 = R → ∀ (H : Heap) (locs : List Loc) (ls : Array Slot), q_W D A s.heap (wX7 k a σ) H locs → lv_has ls 7 [(0, .ref (a 0)), (1, .int v1), (3, .int v3)] → W p l e { frames := 2, cells := 0, slots := 0, locals := 62 } s m args below meth c H locs 0 0 (MQ below (va_Qv (fun u => u = R) (fun u => q_E D (tyL k) A (wX7 k a u)) A) args s 0 0 A) (F0 m 150 ls []) := by
  intro σ v1 v3 hs hR H locs ls hW hl
  rw [P_X7_takeBeat_b150c_e] at hR
  rw [S_X7_takeBeat_b150c_e] at hs
  obtain ⟨hx, hb, hr, hml, hts, hown, hlocks, hK, hA⟩ := id C0
  have hf32 := hts (.fieldLink RX7 32 "BeatFollower$Scene" "blows" "LBeatFollower$Blows;") (by decide +kernel)
  have hf39 := hts (.fieldLink RX7 39 "BeatFollower$Scene" "drummer" "LBeatFollower$Drummer;") (by decide +kernel)
  have hf126 := hts (.fieldLink RX7 126 "BeatFollower$Drummer" "period" "I") (by decide +kernel)
  have hf132 := hts (.fieldLink RX7 132 "BeatFollower$Drummer" "state" "I") (by decide +kernel)
  have hinX1 : ∀ w ∈ u_ws RX1 TX1 7, w ∈ wsX7_takeBeat := hin_X7_takeBeat_X1
  have hinX7 : ∀ w ∈ u_ws RX7 TX7 7, w ∈ wsX7_takeBeat := hin_X7_takeBeat_X7
  refine lv_aload_n hx hb dX7_takeBeat_150 rfl (lv_at hl 0 rfl) ?_
  refine va_get (v := .ref (a 10)) (C := RX7) (T := TX7) (N := 7) hx hb hts hinX7 hown hK hW.1 0 rfl rfl 3 (by decide) hf32 (fun _ h9 => h9) rfl dX7_takeBeat_151 ?_
  refine lv_iload_n hx hb dX7_takeBeat_154 rfl (lv_at hl 2 rfl) ?_
  refine lv_iload_n hx hb dX7_takeBeat_155 rfl (lv_at hl 1 rfl) ?_
  refine lv_aload_n hx hb dX7_takeBeat_156 rfl (lv_at hl 0 rfl) ?_
  refine va_get (v := .ref (a 15)) (C := RX7) (T := TX7) (N := 7) hx hb hts hinX7 hown hK hW.1 0 rfl rfl 4 (by decide) hf39 (fun _ h9 => h9) rfl dX7_takeBeat_157 ?_
  refine va_get (v := .int (σ 15 1)) (C := RX1) (T := TX1) (N := 7) hx hb hts hinX1 hown hK hW.1 15 rfl rfl 1 (by decide) hf126 (fun _ h9 => h9) rfl dX7_takeBeat_160 ?_
  refine lv_aload_n hx hb dX7_takeBeat_163 rfl (lv_at hl 0 rfl) ?_
  refine va_get (v := .ref (a 15)) (C := RX7) (T := TX7) (N := 7) hx hb hts hinX7 hown hK hW.1 0 rfl rfl 4 (by decide) hf39 (fun _ h9 => h9) rfl dX7_takeBeat_164 ?_
  refine va_get (v := .int (σ 15 0)) (C := RX1) (T := TX1) (N := 7) hx hb hts hinX1 hown hK hW.1 15 rfl rfl 0 (by decide) hf132 (fun _ h9 => h9) rfl dX7_takeBeat_167 ?_
  have hs8 := hs.1
  have hs := hs.2
  refine q_Vv (As := [.int v3, .int v1, .int (σ 15 1), .int (σ 15 0)]) (rest := []) (wf := wX0 k (fun j => a (10 + j))) (R := P_X0_append (fun j => σ (10 + j)) v3 v1 (σ 15 1) (σ 15 0)) (wd' := wX7 k a (sb σ 10 5 (P_X0_append (fun j => σ (10 + j)) v3 v1 (σ 15 1) (σ 15 0)))) [10, 11, 12, 13, 14] [0, 1, 2, 3] 10 0 C0 hW (m_X0_append l D k (fun j => a (10 + j)) H.size (fun j => σ (10 + j)) v3 v1 (σ 15 1) (σ 15 0) hs8) (cwV 4 hts gX7_takeBeat_X0_append rfl rfl rfl hd_X0_append ⟨Nat.le_of_ble_eq_true rfl, Nat.le_of_ble_eq_true rfl⟩) (by decide) (wX7_X0_10_pl k a _) rfl rfl rfl (wX0_fst k _ _ _) (wX7_X0_10_pt k a _ _) hl rfl rfl (Nat.le_of_ble_eq_true rfl) dX7_takeBeat_170 ⟨Nat.le_refl 0, Nat.le_refl 0⟩ (fun H locs hW => ?_)
  exact q_vret C0 hW hR dX7_takeBeat_173
set_option maxHeartbeats 400000 in
set_option maxRecDepth 100000 in
theorem b_X7_takeBeat_b144c {p : Program} {e : Env} {s : State} {m : MethodId} {args : Array Value} {below : List Frame} {meth : Method} {c : Code} (l : Launch) (D : va_G) (k : Nat → ClassId) (a : Nat → Nat) (A : Nat → Prop) (C0 : q_C p s m meth c args RX7 cX7_takeBeat 7 none wsX7_takeBeat D (tyL k) A) (R : T2) : ∀ (σ : T2) (v1 : Int32) (v3 : Int32) (v4 : Int32), S_X7_takeBeat_b144c σ v1 v3 v4 → P_X7_takeBeat_b144c σ v1 v3 v4 = R → ∀ (H : Heap) (locs : List Loc) (ls : Array Slot), q_W D A s.heap (wX7 k a σ) H locs → lv_has ls 7 [(0, .ref (a 0)), (1, .int v1), (3, .int v3), (4, .int v4)] → W p l e { frames := 2, cells := 0, slots := 0, locals := 62 } s m args below meth c H locs 0 0 (MQ below (va_Qv (fun u => u = R) (fun u => q_E D (tyL k) A (wX7 k a u)) A) args s 0 0 A) (F0 m 144 ls []) := by
  intro σ v1 v3 v4 hs hR H locs ls hW hl
  rw [P_X7_takeBeat_b144c_e] at hR
  rw [S_X7_takeBeat_b144c_e] at hs
  obtain ⟨hx, hb, hr, hml, hts, hown, hlocks, hK, hA⟩ := id C0
  refine lv_aload_n hx hb dX7_takeBeat_144 rfl (lv_at hl 0 rfl) ?_
  refine lv_iload hx hb dX7_takeBeat_145 (lv_at hl 3 rfl) ?_
  have hs7 := hs.1
  have hs := hs.2
  refine q_Vv (As := [.int v4]) (rest := []) (wf := wX7 k a) (R := P_X7_judge σ v4) (wd' := wX7 k a (P_X7_judge σ v4)) [0, 1, 2, 3, 4, 5, 6, 7, 8, 9, 10, 11, 12, 13, 14, 15, 16] [0, 1, 2, 3] 0 7 C0 hW (m_X7_judge l D k a H.size σ v4 hs7) (cwV 1 hts gX7_takeBeat_X7_judge rfl rfl rfl hd_X7_judge ⟨Nat.le_of_ble_eq_true rfl, Nat.le_of_ble_eq_true rfl⟩) (by decide) (wX7_pl k a _) rfl (wX7_rec k a _) rfl (wX7_fst k a _ _) (wX7_put k a _ _) hl rfl rfl (Nat.le_of_ble_eq_true rfl) dX7_takeBeat_147 ⟨Nat.le_refl 0, Nat.le_refl 0⟩ (fun H locs hW => ?_)
  exact b_X7_takeBeat_b150c l D k a A C0 R (P_X7_judge σ v4) v1 v3 hs hR H locs ls hW (lv_sub hl [0, 1, 2] rfl)
set_option maxHeartbeats 400000 in
set_option maxRecDepth 100000 in
theorem b_X7_takeBeat_b118c {p : Program} {e : Env} {s : State} {m : MethodId} {args : Array Value} {below : List Frame} {meth : Method} {c : Code} (l : Launch) (D : va_G) (k : Nat → ClassId) (a : Nat → Nat) (A : Nat → Prop) (C0 : q_C p s m meth c args RX7 cX7_takeBeat 7 none wsX7_takeBeat D (tyL k) A) (R : T2) : ∀ (σ : T2) (v1 : Int32) (v2 : Int32) (v3 : Int32) (v4 : Int32) (v6 : Int32), S_X7_takeBeat_b118c σ v1 v2 v3 v4 v6 → P_X7_takeBeat_b118c σ v1 v2 v3 v4 v6 = R → ∀ (H : Heap) (locs : List Loc) (ls : Array Slot), q_W D A s.heap (wX7 k a σ) H locs → lv_has ls 7 [(0, .ref (a 0)), (1, .int v1), (2, .int v2), (3, .int v3), (4, .int v4), (6, .int v6)] → W p l e { frames := 2, cells := 0, slots := 0, locals := 62 } s m args below meth c H locs 0 0 (MQ below (va_Qv (fun u => u = R) (fun u => q_E D (tyL k) A (wX7 k a u)) A) args s 0 0 A) (F0 m 118 ls []) := by
  intro σ v1 v2 v3 v4 v6 hs hR H locs ls hW hl
  rw [P_X7_takeBeat_b118c_e] at hR
  rw [S_X7_takeBeat_b118c_e] at hs
  obtain ⟨hx, hb, hr, hml, hts, hown, hlocks, hK, hA⟩ := id C0
  have hf25 := hts (.fieldLink RX7 25 "BeatFollower$Scene" "fates" "LBeatFollower$Fates;") (by decide +kernel)
  have hf32 := hts (.fieldLink RX7 32 "BeatFollower$Scene" "blows" "LBeatFollower$Blows;") (by decide +kernel)
  have hf66 := hts (.fieldLink RX7 66 "BeatFollower$Blows" "many" "I") (by decide +kernel)
  have hinX0 : ∀ w ∈ u_ws RX0 TX0 5, w ∈ wsX7_takeBeat := hin_X7_takeBeat_X0
  have hinX7 : ∀ w ∈ u_ws RX7 TX7 7, w ∈ wsX7_takeBeat := hin_X7_takeBeat_X7
  refine lv_aload_n hx hb dX7_takeBeat_118 rfl (lv_at hl 0 rfl) ?_
  refine va_get (v := .ref (a 5)) (C := RX7) (T := TX7) (N := 7) hx hb hts hinX7 hown hK hW.1 0 rfl rfl 2 (by decide) hf25 (fun _ h9 => h9) rfl dX7_takeBeat_119 ?_
  refine lv_iload_n hx hb dX7_takeBeat_122 rfl (lv_at hl 1 rfl) ?_
  refine lv_iconst (v := (2 : Int32)) hx hb dX7_takeBeat_123 (by decide) ?_
  refine lv_aload_n hx hb dX7_takeBeat_124 rfl (lv_at hl 0 rfl) ?_
  refine va_get (v := .ref (a 10)) (C := RX7) (T := TX7) (N := 7) hx hb hts hinX7 hown hK hW.1 0 rfl rfl 3 (by decide) hf32 (fun _ h9 => h9) rfl dX7_takeBeat_125 ?_
  refine va_get (v := .int (σ 10 4)) (C := RX0) (T := TX0) (N := 5) hx hb hts hinX0 hown hK hW.1 10 rfl rfl 4 (by decide) hf66 (fun _ h9 => h9) rfl dX7_takeBeat_128 ?_
  refine lv_ldc (v := (100000 : Int32)) hx hb hown (hts (.constant RX7 168 (100000 : Int32)) (by decide +kernel)) dX7_takeBeat_131 ?_
  refine lv_iload_n hx hb dX7_takeBeat_133 rfl (lv_at hl 2 rfl) ?_
  refine lv_iadd hx hb dX7_takeBeat_134 ?_
  refine lv_sipush (v := (1000 : Int32)) hx hb dX7_takeBeat_135 (by decide) ?_
  refine lv_iload hx hb dX7_takeBeat_138 (lv_at hl 5 rfl) ?_
  refine lv_iadd hx hb dX7_takeBeat_140 ?_
  have hs6 := hs.1
  have hs := hs.2
  refine q_Vv (As := [.int v1, .int (2 : Int32), .int (σ 10 4), .int ((100000 : Int32) + v2), .int ((1000 : Int32) + v6)]) (rest := []) (wf := wX2 k (fun j => a (5 + j))) (R := P_X2_note (fun j => σ (5 + j)) v1 (2 : Int32) (σ 10 4) ((100000 : Int32) + v2) ((1000 : Int32) + v6)) (wd' := wX7 k a (sb σ 5 5 (P_X2_note (fun j => σ (5 + j)) v1 (2 : Int32) (σ 10 4) ((100000 : Int32) + v2) ((1000 : Int32) + v6)))) [5, 6, 7, 8, 9] [0, 1, 2, 3] 5 2 C0 hW (m_X2_note l D k (fun j => a (5 + j)) H.size (fun j => σ (5 + j)) v1 (2 : Int32) (σ 10 4) ((100000 : Int32) + v2) ((1000 : Int32) + v6) hs6) (cwV 5 hts gX7_takeBeat_X2_note rfl rfl rfl hd_X2_note ⟨Nat.le_of_ble_eq_true rfl, Nat.le_of_ble_eq_true rfl⟩) (by decide) (wX7_X2_5_pl k a _) rfl rfl rfl (wX2_fst k _ _ _) (wX7_X2_5_pt k a _ _) hl rfl rfl (Nat.le_of_ble_eq_true rfl) dX7_takeBeat_141 ⟨Nat.le_refl 0, Nat.le_refl 0⟩ (fun H locs hW => ?_)
  exact b_X7_takeBeat_b144c l D k a A C0 R (sb σ 5 5 (P_X2_note (fun j => σ (5 + j)) v1 (2 : Int32) (σ 10 4) ((100000 : Int32) + v2) ((1000 : Int32) + v6))) v1 v3 v4 hs hR H locs ls hW (lv_sub hl [0, 1, 3, 4] rfl)
set_option maxHeartbeats 400000 in
set_option maxRecDepth 100000 in
theorem b_X7_takeBeat_b88n {p : Program} {e : Env} {s : State} {m : MethodId} {args : Array Value} {below : List Frame} {meth : Method} {c : Code} (l : Launch) (D : va_G) (k : Nat → ClassId) (a : Nat → Nat) (A : Nat → Prop) (C0 : q_C p s m meth c args RX7 cX7_takeBeat 7 none wsX7_takeBeat D (tyL k) A) (R : T2) : ∀ (σ : T2) (v1 : Int32) (v2 : Int32) (v3 : Int32) (v4 : Int32) (v5 : Int32), S_X7_takeBeat_b88n σ v1 v2 v3 v4 v5 → P_X7_takeBeat_b88n σ v1 v2 v3 v4 v5 = R → ∀ (H : Heap) (locs : List Loc) (ls : Array Slot), q_W D A s.heap (wX7 k a σ) H locs → lv_has ls 7 [(0, .ref (a 0)), (1, .int v1), (2, .int v2), (3, .int v3), (4, .int v4), (5, .int v5)] → W p l e { frames := 2, cells := 0, slots := 0, locals := 62 } s m args below meth c H locs 0 0 (MQ below (va_Qv (fun u => u = R) (fun u => q_E D (tyL k) A (wX7 k a u)) A) args s 0 0 A) (F0 m 88 ls []) := by
  intro σ v1 v2 v3 v4 v5 hs hR H locs ls hW hl
  rw [P_X7_takeBeat_b88n_e] at hR
  rw [S_X7_takeBeat_b88n_e] at hs
  obtain ⟨hx, hb, hr, hml, hts, hown, hlocks, hK, hA⟩ := id C0
  have hf39 := hts (.fieldLink RX7 39 "BeatFollower$Scene" "drummer" "LBeatFollower$Drummer;") (by decide +kernel)
  have hf46 := hts (.fieldLink RX7 46 "BeatFollower$Scene" "tally" "LBeatFollower$Tally;") (by decide +kernel)
  have hf154 := hts (.fieldLink RX7 154 "BeatFollower$Drummer" "lead" "I") (by decide +kernel)
  have hinX1 : ∀ w ∈ u_ws RX1 TX1 7, w ∈ wsX7_takeBeat := hin_X7_takeBeat_X1
  have hinX7 : ∀ w ∈ u_ws RX7 TX7 7, w ∈ wsX7_takeBeat := hin_X7_takeBeat_X7
  refine lv_iload hx hb dX7_takeBeat_88 (lv_at hl 5 rfl) ?_
  refine lv_aload_n hx hb dX7_takeBeat_90 rfl (lv_at hl 0 rfl) ?_
  refine va_get (v := .ref (a 15)) (C := RX7) (T := TX7) (N := 7) hx hb hts hinX7 hown hK hW.1 0 rfl rfl 4 (by decide) hf39 (fun _ h9 => h9) rfl dX7_takeBeat_91 ?_
  refine va_get (v := .int (σ 15 6)) (C := RX1) (T := TX1) (N := 7) hx hb hts hinX1 hown hK hW.1 15 rfl rfl 6 (by decide) hf154 (fun _ h9 => h9) rfl dX7_takeBeat_94 ?_
  refine lv_isub hx hb dX7_takeBeat_97 ?_
  refine lv_istore (lv' := [(6, .int (v5 - (σ 15 6))), (0, .ref (a 0)), (1, .int v1), (2, .int v2), (3, .int v3), (4, .int v4), (5, .int v5)]) hx hb dX7_takeBeat_98 hl (by decide) rfl (fun ls hl => ?_)
  refine lv_aload_n hx hb dX7_takeBeat_100 rfl (lv_at hl 1 rfl) ?_
  refine va_get (v := .ref (a 15)) (C := RX7) (T := TX7) (N := 7) hx hb hts hinX7 hown hK hW.1 0 rfl rfl 4 (by decide) hf39 (fun _ h9 => h9) rfl dX7_takeBeat_101 ?_
  refine lv_iload hx hb dX7_takeBeat_104 (lv_at hl 6 rfl) ?_
  refine q_putf (ty := .int) (wd' := wX7 k a (u2 σ 15 (upd (σ 15) 6 v5))) C0 hW hinX1 tyX1 tyX1_ok nmX1 15 rfl rfl 6 (by decide) hf154 rfl (by decide +kernel) rfl rfl (Nat.le_of_ble_eq_true rfl) dX7_takeBeat_106 (fX1_s6 _ _ _) (wX7_s15 k a _ _) (fun H locs hW => ?_)
  refine lv_aload_n hx hb dX7_takeBeat_109 rfl (lv_at hl 1 rfl) ?_
  refine va_get (v := .ref (a 16)) (C := RX7) (T := TX7) (N := 7) hx hb hts hinX7 hown hK hW.1 0 rfl rfl 5 (by decide) hf46 (fun _ h9 => h9) rfl dX7_takeBeat_110 ?_
  refine lv_iload hx hb dX7_takeBeat_113 (lv_at hl 0 rfl) ?_
  have hs5 := hs.1
  have hs := hs.2
  refine q_Vv (As := [.int (v5 - (σ 15 6))]) (rest := []) (wf := wX8 k (fun j => a (16 + j))) (R := P_X8_addSlip (fun j => (u2 σ 15 (upd (σ 15) 6 v5)) (16 + j)) (v5 - (σ 15 6))) (wd' := wX7 k a (sb (u2 σ 15 (upd (σ 15) 6 v5)) 16 1 (P_X8_addSlip (fun j => (u2 σ 15 (upd (σ 15) 6 v5)) (16 + j)) (v5 - (σ 15 6))))) [16] [0, 1, 2, 3] 16 8 C0 hW (m_X8_addSlip l D k (fun j => a (16 + j)) H.size (fun j => (u2 σ 15 (upd (σ 15) 6 v5)) (16 + j)) (v5 - (σ 15 6)) hs5) (cwV 1 hts gX7_takeBeat_X8_addSlip rfl rfl rfl hd_X8_addSlip ⟨Nat.le_of_ble_eq_true rfl, Nat.le_of_ble_eq_true rfl⟩) (by decide) (wX7_X8_16_pl k a _) rfl rfl rfl (wX8_fst k _ _ _) (wX7_X8_16_pt k a _ _) hl rfl rfl (Nat.le_of_ble_eq_true rfl) dX7_takeBeat_115 ⟨Nat.le_refl 0, Nat.le_refl 0⟩ (fun H locs hW => ?_)
  exact b_X7_takeBeat_b118c l D k a A C0 R (sb (u2 σ 15 (upd (σ 15) 6 v5)) 16 1 (P_X8_addSlip (fun j => (u2 σ 15 (upd (σ 15) 6 v5)) (16 + j)) (v5 - (σ 15 6)))) v1 v2 v3 v4 (v5 - (σ 15 6)) hs hR H locs ls hW (lv_sub hl [1, 2, 3, 4, 5, 0] rfl)
set_option maxHeartbeats 400000 in
set_option maxRecDepth 100000 in
theorem b_X7_takeBeat_b46c {p : Program} {e : Env} {s : State} {m : MethodId} {args : Array Value} {below : List Frame} {meth : Method} {c : Code} (l : Launch) (D : va_G) (k : Nat → ClassId) (a : Nat → Nat) (A : Nat → Prop) (C0 : q_C p s m meth c args RX7 cX7_takeBeat 7 none wsX7_takeBeat D (tyL k) A) (R : T2) : ∀ (σ : T2) (v1 : Int32) (v2 : Int32) (v3 : Int32) (v4 : Int32), S_X7_takeBeat_b46c σ v1 v2 v3 v4 → P_X7_takeBeat_b46c σ v1 v2 v3 v4 = R → ∀ (H : Heap) (locs : List Loc) (ls : Array Slot), q_W D A s.heap (wX7 k a σ) H locs → lv_has ls 7 [(0, .ref (a 0)), (1, .int v1), (2, .int v2), (3, .int v3), (4, .int v4)] → W p l e { frames := 2, cells := 0, slots := 0, locals := 62 } s m args below meth c H locs 0 0 (MQ below (va_Qv (fun u => u = R) (fun u => q_E D (tyL k) A (wX7 k a u)) A) args s 0 0 A) (F0 m 46 ls []) := by
  intro σ v1 v2 v3 v4 hs hR H locs ls hW hl
  rw [P_X7_takeBeat_b46c_e] at hR
  rw [S_X7_takeBeat_b46c_e] at hs
  obtain ⟨hx, hb, hr, hml, hts, hown, hlocks, hK, hA⟩ := id C0
  have hf18 := hts (.fieldLink RX7 18 "BeatFollower$Scene" "plan" "LBeatFollower$Plan;") (by decide +kernel)
  have hf32 := hts (.fieldLink RX7 32 "BeatFollower$Scene" "blows" "LBeatFollower$Blows;") (by decide +kernel)
  have hf39 := hts (.fieldLink RX7 39 "BeatFollower$Scene" "drummer" "LBeatFollower$Drummer;") (by decide +kernel)
  have hf46 := hts (.fieldLink RX7 46 "BeatFollower$Scene" "tally" "LBeatFollower$Tally;") (by decide +kernel)
  have hf66 := hts (.fieldLink RX7 66 "BeatFollower$Blows" "many" "I") (by decide +kernel)
  have hf179 := hts (.fieldLink RX7 179 "BeatFollower$Drummer" "heldInRow" "I") (by decide +kernel)
  have hf182 := hts (.fieldLink RX7 182 "BeatFollower$Tally" "offSum" "I") (by decide +kernel)
  have hinX0 : ∀ w ∈ u_ws RX0 TX0 5, w ∈ wsX7_takeBeat := hin_X7_takeBeat_X0
  have hinX1 : ∀ w ∈ u_ws RX1 TX1 7, w ∈ wsX7_takeBeat := hin_X7_takeBeat_X1
  have hinX7 : ∀ w ∈ u_ws RX7 TX7 7, w ∈ wsX7_takeBeat := hin_X7_takeBeat_X7
  have hinX8 : ∀ w ∈ u_ws RX8 TX8 10, w ∈ wsX7_takeBeat := hin_X7_takeBeat_X8
  refine lv_aload_n hx hb dX7_takeBeat_46 rfl (lv_at hl 0 rfl) ?_
  refine va_get (v := .ref (a 15)) (C := RX7) (T := TX7) (N := 7) hx hb hts hinX7 hown hK hW.1 0 rfl rfl 4 (by decide) hf39 (fun _ h9 => h9) rfl dX7_takeBeat_47 ?_
  refine lv_iconst (v := (0 : Int32)) hx hb dX7_takeBeat_50 (by decide) ?_
  refine q_putf (ty := .int) (wd' := wX7 k a (u2 σ 15 (upd (σ 15) 5 (0 : Int32)))) C0 hW hinX1 tyX1 tyX1_ok nmX1 15 rfl rfl 5 (by decide) hf179 rfl (by decide +kernel) rfl rfl (Nat.le_of_ble_eq_true rfl) dX7_takeBeat_51 (fX1_s5 _ _ _) (wX7_s15 k a _ _) (fun H locs hW => ?_)
  refine lv_aload_n hx hb dX7_takeBeat_54 rfl (lv_at hl 0 rfl) ?_
  refine va_get (v := .ref (a 16)) (C := RX7) (T := TX7) (N := 7) hx hb hts hinX7 hown hK hW.1 0 rfl rfl 5 (by decide) hf46 (fun _ h9 => h9) rfl dX7_takeBeat_55 ?_
  refine lv_dup hx hb dX7_takeBeat_58 rfl ?_
  refine va_get (v := .int (σ 16 8)) (C := RX8) (T := TX8) (N := 10) hx hb hts hinX8 hown hK hW.1 16 rfl rfl 8 (by decide) hf182 (fun _ h9 => h9) rfl dX7_takeBeat_59 ?_
  refine lv_iload_n hx hb dX7_takeBeat_62 rfl (lv_at hl 2 rfl) ?_
  refine va_mabs hx hb (by rw [hml]; exact hl.1.symm) hown (hts (.methodLink RX7 173 Lib.Math.abs.name) (by decide +kernel)) (hts (.static Lib.Math.abs.name) (by decide +kernel)) (hts (.initialized "java/lang/Math") (by decide +kernel)) (hts (.code Lib.Math.abs.name Lib.Math.abs.code 1 (some .int)) (by decide +kernel)) (Nat.le_of_ble_eq_true rfl) (Nat.le_of_ble_eq_true rfl) (Nat.zero_le _) (Nat.zero_le _) dX7_takeBeat_63 ?_
  refine lv_iadd hx hb dX7_takeBeat_66 ?_
  refine q_putf (ty := .int) (wd' := wX7 k a (u2 (u2 σ 15 (upd (σ 15) 5 (0 : Int32))) 16 (upd (σ 16) 8 ((σ 16 8) + (if 0 ≤ v2 then v2 else 0 - v2))))) C0 hW hinX8 tyX8 tyX8_ok nmX8 16 rfl rfl 8 (by decide) hf182 rfl (by decide +kernel) rfl rfl (Nat.le_of_ble_eq_true rfl) dX7_takeBeat_67 (fX8_s8 _ _ _) (wX7_s16 k a _ _) (fun H locs hW => ?_)
  refine lv_aload_n hx hb dX7_takeBeat_70 rfl (lv_at hl 0 rfl) ?_
  refine va_get (v := .ref (a 2)) (C := RX7) (T := TX7) (N := 7) hx hb hts hinX7 hown hK hW.1 0 rfl rfl 1 (by decide) hf18 (fun _ h9 => h9) rfl dX7_takeBeat_71 ?_
  refine lv_iload_n hx hb dX7_takeBeat_74 rfl (lv_at hl 1 rfl) ?_
  have hs4 := hs.1
  have hs := hs.2
  refine q_Vi (As := [.int v1]) (rest := []) (R := P_X5_numberOf (fun j => (u2 (u2 σ 15 (upd (σ 15) 5 (0 : Int32))) 16 (upd (σ 16) 8 ((σ 16 8) + (if 0 ≤ v2 then v2 else 0 - v2)))) (2 + j)) v1) [2, 3, 4] [0, 1, 2, 3] 2 5 C0 hW (m_X5_numberOf l D k (fun j => a (2 + j)) _ (fun j => (u2 (u2 σ 15 (upd (σ 15) 5 (0 : Int32))) 16 (upd (σ 16) 8 ((σ 16 8) + (if 0 ≤ v2 then v2 else 0 - v2)))) (2 + j)) v1 hs4) (cwV 1 hts gX7_takeBeat_X5_numberOf rfl rfl rfl hd_X5_numberOf ⟨Nat.le_of_ble_eq_true rfl, Nat.le_of_ble_eq_true rfl⟩) (by decide) (wX7_X5_2_pl k a _) rfl rfl rfl hl rfl rfl (Nat.le_of_ble_eq_true rfl) dX7_takeBeat_75 ⟨Nat.le_refl 0, Nat.le_refl 0⟩ ?_
  refine lv_aload_n hx hb dX7_takeBeat_78 rfl (lv_at hl 0 rfl) ?_
  refine va_get (v := .ref (a 10)) (C := RX7) (T := TX7) (N := 7) hx hb hts hinX7 hown hK hW.1 0 rfl rfl 3 (by decide) hf32 (fun _ h9 => h9) rfl dX7_takeBeat_79 ?_
  refine va_get (v := .int (σ 10 4)) (C := RX0) (T := TX0) (N := 5) hx hb hts hinX0 hown hK hW.1 10 rfl rfl 4 (by decide) hf66 (fun _ h9 => h9) rfl dX7_takeBeat_82 ?_
  refine lv_isub hx hb dX7_takeBeat_85 ?_
  refine lv_istore (lv' := [(5, .int ((P_X5_numberOf (fun j => (u2 (u2 σ 15 (upd (σ 15) 5 (0 : Int32))) 16 (upd (σ 16) 8 ((σ 16 8) + (if 0 ≤ v2 then v2 else 0 - v2)))) (2 + j)) v1) - (σ 10 4))), (0, .ref (a 0)), (1, .int v1), (2, .int v2), (3, .int v3), (4, .int v4)]) hx hb dX7_takeBeat_86 hl (by decide) rfl (fun ls hl => ?_)
  exact b_X7_takeBeat_b88n l D k a A C0 R (u2 (u2 σ 15 (upd (σ 15) 5 (0 : Int32))) 16 (upd (σ 16) 8 ((σ 16 8) + (if 0 ≤ v2 then v2 else 0 - v2)))) v1 v2 v3 v4 ((P_X5_numberOf (fun j => (u2 (u2 σ 15 (upd (σ 15) 5 (0 : Int32))) 16 (upd (σ 16) 8 ((σ 16 8) + (if 0 ≤ v2 then v2 else 0 - v2)))) (2 + j)) v1) - (σ 10 4)) hs hR H locs ls hW (lv_sub hl [1, 2, 3, 4, 5, 0] rfl)
set_option maxHeartbeats 400000 in
set_option maxRecDepth 100000 in
theorem b_X7_takeBeat_b39 {p : Program} {e : Env} {s : State} {m : MethodId} {args : Array Value} {below : List Frame} {meth : Method} {c : Code} (l : Launch) (D : va_G) (k : Nat → ClassId) (a : Nat → Nat) (A : Nat → Prop) (C0 : q_C p s m meth c args RX7 cX7_takeBeat 7 none wsX7_takeBeat D (tyL k) A) (R : T2) : ∀ (σ : T2) (v1 : Int32) (v2 : Int32) (v3 : Int32) (t0 : Int32), S_X7_takeBeat_b39 σ v1 v2 v3 t0 → P_X7_takeBeat_b39 σ v1 v2 v3 t0 = R → ∀ (H : Heap) (locs : List Loc) (ls : Array Slot), q_W D A s.heap (wX7 k a σ) H locs → lv_has ls 7 [(0, .ref (a 0)), (1, .int v1), (2, .int v2), (3, .int v3)] → W p l e { frames := 2, cells := 0, slots := 0, locals := 62 } s m args below meth c H locs 0 0 (MQ below (va_Qv (fun u => u = R) (fun u => q_E D (tyL k) A (wX7 k a u)) A) args s 0 0 A) (F0 m 39 ls [.int t0]) := by
  intro σ v1 v2 v3 t0 hs hR H locs ls hW hl
  rw [P_X7_takeBeat_b39_e] at hR
  rw [S_X7_takeBeat_b39_e] at hs
  obtain ⟨hx, hb, hr, hml, hts, hown, hlocks, hK, hA⟩ := id C0
  refine lv_istore (lv' := [(4, .int t0), (0, .ref (a 0)), (1, .int v1), (2, .int v2), (3, .int v3)]) hx hb dX7_takeBeat_39 hl (by decide) rfl (fun ls hl => ?_)
  refine lv_aload_n hx hb dX7_takeBeat_41 rfl (lv_at hl 1 rfl) ?_
  refine lv_iload_n hx hb dX7_takeBeat_42 rfl (lv_at hl 3 rfl) ?_
  have hs3 := hs.1
  have hs := hs.2
  refine q_Vv (As := [.int v2]) (rest := []) (wf := wX7 k a) (R := P_X7_nudge σ v2) (wd' := wX7 k a (P_X7_nudge σ v2)) [0, 1, 2, 3, 4, 5, 6, 7, 8, 9, 10, 11, 12, 13, 14, 15, 16] [0, 1, 2, 3] 0 7 C0 hW (m_X7_nudge l D k a H.size σ v2 hs3) (cwV 1 hts gX7_takeBeat_X7_nudge rfl rfl rfl hd_X7_nudge ⟨Nat.le_of_ble_eq_true rfl, Nat.le_of_ble_eq_true rfl⟩) (by decide) (wX7_pl k a _) rfl (wX7_rec k a _) rfl (wX7_fst k a _ _) (wX7_put k a _ _) hl rfl rfl (Nat.le_of_ble_eq_true rfl) dX7_takeBeat_43 ⟨Nat.le_refl 0, Nat.le_refl 0⟩ (fun H locs hW => ?_)
  exact b_X7_takeBeat_b46c l D k a A C0 R (P_X7_nudge σ v2) v1 v2 v3 t0 hs hR H locs ls hW (lv_sub hl [1, 2, 3, 4, 0] rfl)
set_option maxHeartbeats 400000 in
set_option maxRecDepth 100000 in
theorem b_X7_takeBeat_b0 {p : Program} {e : Env} {s : State} {m : MethodId} {args : Array Value} {below : List Frame} {meth : Method} {c : Code} (l : Launch) (D : va_G) (k : Nat → ClassId) (a : Nat → Nat) (A : Nat → Prop) (C0 : q_C p s m meth c args RX7 cX7_takeBeat 7 none wsX7_takeBeat D (tyL k) A) (R : T2) : ∀ (σ : T2) (v1 : Int32) (v2 : Int32), S_X7_takeBeat_b0 σ v1 v2 → P_X7_takeBeat_b0 σ v1 v2 = R → ∀ (H : Heap) (locs : List Loc) (ls : Array Slot), q_W D A s.heap (wX7 k a σ) H locs → lv_has ls 7 [(0, .ref (a 0)), (1, .int v1), (2, .int v2)] → W p l e { frames := 2, cells := 0, slots := 0, locals := 62 } s m args below meth c H locs 0 0 (MQ below (va_Qv (fun u => u = R) (fun u => q_E D (tyL k) A (wX7 k a u)) A) args s 0 0 A) (F0 m 0 ls []) := by
  intro σ v1 v2 hs hR H locs ls hW hl
  rw [P_X7_takeBeat_b0_e] at hR
  rw [S_X7_takeBeat_b0_e] at hs
  obtain ⟨hx, hb, hr, hml, hts, hown, hlocks, hK, hA⟩ := id C0
  have hf9 := hts (.fieldLink RX7 9 "BeatFollower$Scene" "settings" "[I") (by decide +kernel)
  have hf39 := hts (.fieldLink RX7 39 "BeatFollower$Scene" "drummer" "LBeatFollower$Drummer;") (by decide +kernel)
  have hf120 := hts (.fieldLink RX7 120 "BeatFollower$Drummer" "nextBlow" "I") (by decide +kernel)
  have hf126 := hts (.fieldLink RX7 126 "BeatFollower$Drummer" "period" "I") (by decide +kernel)
  have hinX1 : ∀ w ∈ u_ws RX1 TX1 7, w ∈ wsX7_takeBeat := hin_X7_takeBeat_X1
  have hinX7 : ∀ w ∈ u_ws RX7 TX7 7, w ∈ wsX7_takeBeat := hin_X7_takeBeat_X7
  refine lv_aload_n hx hb dX7_takeBeat_0 rfl (lv_at hl 0 rfl) ?_
  refine va_get (v := .ref (a 15)) (C := RX7) (T := TX7) (N := 7) hx hb hts hinX7 hown hK hW.1 0 rfl rfl 4 (by decide) hf39 (fun _ h9 => h9) rfl dX7_takeBeat_1 ?_
  refine va_get (v := .int (σ 15 2)) (C := RX1) (T := TX1) (N := 7) hx hb hts hinX1 hown hK hW.1 15 rfl rfl 2 (by decide) hf120 (fun _ h9 => h9) rfl dX7_takeBeat_4 ?_
  refine lv_istore_n (lv' := [(3, .int (σ 15 2)), (0, .ref (a 0)), (1, .int v1), (2, .int v2)]) hx hb dX7_takeBeat_7 rfl hl (by decide) rfl (fun ls hl => ?_)
  refine lv_iload_n hx hb dX7_takeBeat_8 rfl (lv_at hl 3 rfl) ?_
  refine va_mabs hx hb (by rw [hml]; exact hl.1.symm) hown (hts (.methodLink RX7 173 Lib.Math.abs.name) (by decide +kernel)) (hts (.static Lib.Math.abs.name) (by decide +kernel)) (hts (.initialized "java/lang/Math") (by decide +kernel)) (hts (.code Lib.Math.abs.name Lib.Math.abs.code 1 (some .int)) (by decide +kernel)) (Nat.le_of_ble_eq_true rfl) (Nat.le_of_ble_eq_true rfl) (Nat.zero_le _) (Nat.zero_le _) dX7_takeBeat_9 ?_
  refine lv_aload_n hx hb dX7_takeBeat_12 rfl (lv_at hl 1 rfl) ?_
  refine va_get (v := .ref (a 15)) (C := RX7) (T := TX7) (N := 7) hx hb hts hinX7 hown hK hW.1 0 rfl rfl 4 (by decide) hf39 (fun _ h9 => h9) rfl dX7_takeBeat_13 ?_
  refine va_get (v := .int (σ 15 1)) (C := RX1) (T := TX1) (N := 7) hx hb hts hinX1 hown hK hW.1 15 rfl rfl 1 (by decide) hf126 (fun _ h9 => h9) rfl dX7_takeBeat_16 ?_
  refine lv_aload_n hx hb dX7_takeBeat_19 rfl (lv_at hl 1 rfl) ?_
  refine va_get (v := .ref (a 1)) (C := RX7) (T := TX7) (N := 7) hx hb hts hinX7 hown hK hW.1 0 rfl rfl 0 (by decide) hf9 (fun _ h9 => h9) rfl dX7_takeBeat_20 ?_
  refine lv_iconst (v := (4 : Int32)) hx hb dX7_takeBeat_23 (by decide) ?_
  refine q_iald (v := σ 1 4) C0 hW 1 rfl rfl vi_4_8 cl_4 rfl dX7_takeBeat_24 ?_
  refine lv_imul hx hb dX7_takeBeat_25 ?_
  refine lv_bipush (v := (100 : Int32)) hx hb dX7_takeBeat_26 (by decide) ?_
  have hs1 := hs.1
  have hs := hs.2
  refine q_Si (As := [.int ((σ 15 1) * (σ 1 4)), .int (100 : Int32)]) (rest := [.int (if 0 ≤ v2 then v2 else 0 - v2)]) (R := P_J9_floorDiv_7cf53 ((σ 15 1) * (σ 1 4)) (100 : Int32)) ⟨hx, hb, hml, hown, hts⟩ (m_J9_floorDiv_7cf53 l ((σ 15 1) * (σ 1 4)) (100 : Int32) hs1) (va_cwS 2 hts gX7_takeBeat_J9_floorDiv_7cf53 rfl rfl rfl hd_J9_floorDiv_7cf53 ⟨Nat.le_of_ble_eq_true rfl, Nat.le_of_ble_eq_true rfl⟩) hl rfl rfl (Nat.le_of_ble_eq_true rfl) dX7_takeBeat_28 ⟨Nat.le_refl 0, Nat.le_refl 0⟩ ?_
  refine lv_icmp_gt (tgt := 38) hx hb dX7_takeBeat_31 (by decide) (fun c_2 => ?_) (fun c_2 => ?_)
  · have hs := hs.1 c_2
    rw [if_pos c_2] at hR
    refine lv_iconst (v := (0 : Int32)) hx hb dX7_takeBeat_38 (by decide) ?_
    exact b_X7_takeBeat_b39 l D k a A C0 R σ v1 v2 (σ 15 2) (0 : Int32) hs hR H locs ls hW (lv_sub hl [1, 2, 3, 0] rfl)
  · have hs := hs.2 c_2
    rw [if_neg c_2] at hR
    refine lv_iconst (v := (1 : Int32)) hx hb dX7_takeBeat_34 (by decide) ?_
    refine lv_goto (tgt := 39) hx hb dX7_takeBeat_35 (by decide) ?_
    exact b_X7_takeBeat_b39 l D k a A C0 R σ v1 v2 (σ 15 2) (1 : Int32) hs hR H locs ls hW (lv_sub hl [1, 2, 3, 0] rfl)
set_option maxHeartbeats 400000 in
set_option maxRecDepth 100000 in
theorem m_X7_takeBeat (l : Launch) (D : va_G) (k : Nat → ClassId) (a : Nat → Nat) (sz : Nat) (σ : T2) (p0 : Int32) (p1 : Int32) (hs : S_X7_takeBeat σ p0 p1) : Met l yX7_takeBeat wsX7_takeBeat { frames := 2, cells := 0, slots := 0, locals := 62 } (va_Pc [.ref (a 0), .int p0, .int p1] (q_B D (tyL k) (wX7 k a σ) sz)) (va_Qv (fun u => u = P_X7_takeBeat σ p0 p1) (fun u => q_E D (tyL k) (va_A (wX7 k a σ) sz) (wX7 k a u)) (va_A (wX7 k a σ) sz)) 0 0 (va_A (wX7 k a σ) sz) := by
  refine q_met [.ref (a 0), .int p0, .int p1] (wX7 k a σ) sz (cc := cX7_takeBeat) (maxL := 7) (ret := none) (by decide) rfl (Nat.le_of_ble_eq_true rfl) ?_
  intro p e s m args below meth c ls hsz C0 hW hl hin
  subst hsz
  exact b_X7_takeBeat_b0 l D k a _ C0 _ σ p0 p1 hs rfl s.heap [] ls hW (lv_sub hl [0, 1, 2] rfl)
theorem hin_X7_hearBeat_X1 : ∀ w ∈ u_ws RX1 TX1 7, w ∈ wsX7_hearBeat := by decide +kernel
theorem hin_X7_hearBeat_X7 : ∀ w ∈ u_ws RX7 TX7 7, w ∈ wsX7_hearBeat := by decide +kernel
theorem hin_X7_hearBeat_X8 : ∀ w ∈ u_ws RX8 TX8 10, w ∈ wsX7_hearBeat := by decide +kernel
theorem hd_X7_hearBeat : yX7_hearBeat.cls = RX7 ∧ yX7_hearBeat.cls ≠ "java/lang/invoke/MethodHandle" ∧ yX7_hearBeat.cls ≠ "java/lang/invoke/VarHandle" ∧ (parseMethodDescriptor yX7_hearBeat.desc).map (fun d => d.parameters.length) = some 1 := by decide +kernel
noncomputable def P_X7_hearBeat_b103c (σ : T2) : T2 := σ
def S_X7_hearBeat_b103c (σ : T2) : Prop := True
theorem P_X7_hearBeat_b103c_e (σ : T2) : P_X7_hearBeat_b103c σ = σ := rfl
theorem S_X7_hearBeat_b103c_e (σ : T2) : S_X7_hearBeat_b103c σ = (True) := rfl
noncomputable def P_X7_hearBeat_b86c (σ : T2) : T2 := σ
def S_X7_hearBeat_b86c (σ : T2) : Prop := True
theorem P_X7_hearBeat_b86c_e (σ : T2) : P_X7_hearBeat_b86c σ = σ := rfl
theorem S_X7_hearBeat_b86c_e (σ : T2) : S_X7_hearBeat_b86c σ = (True) := rfl
noncomputable def P_X7_hearBeat_b35 (σ : T2) (v1 : Int32) (v2 : Int32) : T2 := if (P_X7_fateAt (u2 σ 16 (upd (σ 16) 0 ((σ 16 0) + (1 : Int32)))) v2) = (1 : Int32) then (P_X7_hearBeat_b103c (P_X7_passOver (u2 σ 16 (upd (σ 16) 0 ((σ 16 0) + (1 : Int32)))) v1 (v2 - (σ 15 2)))) else (if (P_X7_fateAt (u2 σ 16 (upd (σ 16) 0 ((σ 16 0) + (1 : Int32)))) v2) = (3 : Int32) then (P_X7_hearBeat_b86c (P_X7_strikeWithBeat (u2 σ 16 (upd (σ 16) 0 ((σ 16 0) + (1 : Int32)))) v1 v2)) else (P_X7_takeBeat (u2 σ 16 (upd (σ 16) 0 ((σ 16 0) + (1 : Int32)))) v1 (v2 - (σ 15 2))))
def S_X7_hearBeat_b35 (σ : T2) (v1 : Int32) (v2 : Int32) : Prop := (S_X7_fateAt (u2 σ 16 (upd (σ 16) 0 ((σ 16 0) + (1 : Int32)))) v2) ∧ (((P_X7_fateAt (u2 σ 16 (upd (σ 16) 0 ((σ 16 0) + (1 : Int32)))) v2) = (1 : Int32) → ((S_X7_passOver (u2 σ 16 (upd (σ 16) 0 ((σ 16 0) + (1 : Int32)))) v1 (v2 - (σ 15 2))) ∧ (S_X7_hearBeat_b103c (P_X7_passOver (u2 σ 16 (upd (σ 16) 0 ((σ 16 0) + (1 : Int32)))) v1 (v2 - (σ 15 2)))))) ∧ (¬ ((P_X7_fateAt (u2 σ 16 (upd (σ 16) 0 ((σ 16 0) + (1 : Int32)))) v2) = (1 : Int32)) → (((P_X7_fateAt (u2 σ 16 (upd (σ 16) 0 ((σ 16 0) + (1 : Int32)))) v2) = (3 : Int32) → ((S_X7_strikeWithBeat (u2 σ 16 (upd (σ 16) 0 ((σ 16 0) + (1 : Int32)))) v1 v2) ∧ (S_X7_hearBeat_b86c (P_X7_strikeWithBeat (u2 σ 16 (upd (σ 16) 0 ((σ 16 0) + (1 : Int32)))) v1 v2)))) ∧ (¬ ((P_X7_fateAt (u2 σ 16 (upd (σ 16) 0 ((σ 16 0) + (1 : Int32)))) v2) = (3 : Int32)) → ((S_X7_takeBeat (u2 σ 16 (upd (σ 16) 0 ((σ 16 0) + (1 : Int32)))) v1 (v2 - (σ 15 2))) ∧ (True))))))
theorem P_X7_hearBeat_b35_e (σ : T2) (v1 : Int32) (v2 : Int32) : P_X7_hearBeat_b35 σ v1 v2 = if (P_X7_fateAt (u2 σ 16 (upd (σ 16) 0 ((σ 16 0) + (1 : Int32)))) v2) = (1 : Int32) then (P_X7_hearBeat_b103c (P_X7_passOver (u2 σ 16 (upd (σ 16) 0 ((σ 16 0) + (1 : Int32)))) v1 (v2 - (σ 15 2)))) else (if (P_X7_fateAt (u2 σ 16 (upd (σ 16) 0 ((σ 16 0) + (1 : Int32)))) v2) = (3 : Int32) then (P_X7_hearBeat_b86c (P_X7_strikeWithBeat (u2 σ 16 (upd (σ 16) 0 ((σ 16 0) + (1 : Int32)))) v1 v2)) else (P_X7_takeBeat (u2 σ 16 (upd (σ 16) 0 ((σ 16 0) + (1 : Int32)))) v1 (v2 - (σ 15 2)))) := rfl
theorem S_X7_hearBeat_b35_e (σ : T2) (v1 : Int32) (v2 : Int32) : S_X7_hearBeat_b35 σ v1 v2 = ((S_X7_fateAt (u2 σ 16 (upd (σ 16) 0 ((σ 16 0) + (1 : Int32)))) v2) ∧ (((P_X7_fateAt (u2 σ 16 (upd (σ 16) 0 ((σ 16 0) + (1 : Int32)))) v2) = (1 : Int32) → ((S_X7_passOver (u2 σ 16 (upd (σ 16) 0 ((σ 16 0) + (1 : Int32)))) v1 (v2 - (σ 15 2))) ∧ (S_X7_hearBeat_b103c (P_X7_passOver (u2 σ 16 (upd (σ 16) 0 ((σ 16 0) + (1 : Int32)))) v1 (v2 - (σ 15 2)))))) ∧ (¬ ((P_X7_fateAt (u2 σ 16 (upd (σ 16) 0 ((σ 16 0) + (1 : Int32)))) v2) = (1 : Int32)) → (((P_X7_fateAt (u2 σ 16 (upd (σ 16) 0 ((σ 16 0) + (1 : Int32)))) v2) = (3 : Int32) → ((S_X7_strikeWithBeat (u2 σ 16 (upd (σ 16) 0 ((σ 16 0) + (1 : Int32)))) v1 v2) ∧ (S_X7_hearBeat_b86c (P_X7_strikeWithBeat (u2 σ 16 (upd (σ 16) 0 ((σ 16 0) + (1 : Int32)))) v1 v2)))) ∧ (¬ ((P_X7_fateAt (u2 σ 16 (upd (σ 16) 0 ((σ 16 0) + (1 : Int32)))) v2) = (3 : Int32)) → ((S_X7_takeBeat (u2 σ 16 (upd (σ 16) 0 ((σ 16 0) + (1 : Int32)))) v1 (v2 - (σ 15 2))) ∧ (True))))))) := rfl
noncomputable def P_X7_hearBeat_b11n (σ : T2) (v1 : Int32) (v2 : Int32) : T2 := if (σ 15 0) = (1 : Int32) then (P_X7_hearBeat_b35 (u2 σ 16 (upd (σ 16) 9 ((σ 16 9) + (1 : Int32)))) v1 v2) else (P_X7_hearBeat_b35 σ v1 v2)
def S_X7_hearBeat_b11n (σ : T2) (v1 : Int32) (v2 : Int32) : Prop := ((σ 15 0) = (1 : Int32) → (S_X7_hearBeat_b35 (u2 σ 16 (upd (σ 16) 9 ((σ 16 9) + (1 : Int32)))) v1 v2)) ∧ (¬ ((σ 15 0) = (1 : Int32)) → (S_X7_hearBeat_b35 σ v1 v2))
theorem P_X7_hearBeat_b11n_e (σ : T2) (v1 : Int32) (v2 : Int32) : P_X7_hearBeat_b11n σ v1 v2 = if (σ 15 0) = (1 : Int32) then (P_X7_hearBeat_b35 (u2 σ 16 (upd (σ 16) 9 ((σ 16 9) + (1 : Int32)))) v1 v2) else (P_X7_hearBeat_b35 σ v1 v2) := rfl
theorem S_X7_hearBeat_b11n_e (σ : T2) (v1 : Int32) (v2 : Int32) : S_X7_hearBeat_b11n σ v1 v2 = (((σ 15 0) = (1 : Int32) → (S_X7_hearBeat_b35 (u2 σ 16 (upd (σ 16) 9 ((σ 16 9) + (1 : Int32)))) v1 v2)) ∧ (¬ ((σ 15 0) = (1 : Int32)) → (S_X7_hearBeat_b35 σ v1 v2))) := rfl
noncomputable def P_X7_hearBeat_b0 (σ : T2) (v1 : Int32) : T2 := P_X7_hearBeat_b11n σ v1 ((4 : Int32) * (P_X5_timeOf (fun j => σ (2 + j)) v1))
def S_X7_hearBeat_b0 (σ : T2) (v1 : Int32) : Prop := (S_X5_timeOf (fun j => σ (2 + j)) v1) ∧ (S_X7_hearBeat_b11n σ v1 ((4 : Int32) * (P_X5_timeOf (fun j => σ (2 + j)) v1)))
theorem P_X7_hearBeat_b0_e (σ : T2) (v1 : Int32) : P_X7_hearBeat_b0 σ v1 = P_X7_hearBeat_b11n σ v1 ((4 : Int32) * (P_X5_timeOf (fun j => σ (2 + j)) v1)) := rfl
theorem S_X7_hearBeat_b0_e (σ : T2) (v1 : Int32) : S_X7_hearBeat_b0 σ v1 = ((S_X5_timeOf (fun j => σ (2 + j)) v1) ∧ (S_X7_hearBeat_b11n σ v1 ((4 : Int32) * (P_X5_timeOf (fun j => σ (2 + j)) v1)))) := rfl
noncomputable def P_X7_hearBeat (σ : T2) (p0 : Int32) : T2 := P_X7_hearBeat_b0 σ p0
def S_X7_hearBeat (σ : T2) (p0 : Int32) : Prop := S_X7_hearBeat_b0 σ p0
set_option maxHeartbeats 400000 in
set_option maxRecDepth 100000 in
theorem b_X7_hearBeat_b103c {p : Program} {e : Env} {s : State} {m : MethodId} {args : Array Value} {below : List Frame} {meth : Method} {c : Code} (l : Launch) (D : va_G) (k : Nat → ClassId) (a : Nat → Nat) (A : Nat → Prop) (C0 : q_C p s m meth c args RX7 cX7_hearBeat 3 none wsX7_hearBeat D (tyL k) A) (R : T2) : ∀ (σ : T2), S_X7_hearBeat_b103c σ → P_X7_hearBeat_b103c σ = R → ∀ (H : Heap) (locs : List Loc) (ls : Array Slot), q_W D A s.heap (wX7 k a σ) H locs → lv_has ls 3 [] → W p l e { frames := 3, cells := 0, slots := 0, locals := 88 } s m args below meth c H locs 0 0 (MQ below (va_Qv (fun u => u = R) (fun u => q_E D (tyL k) A (wX7 k a u)) A) args s 0 0 A) (F0 m 103 ls []) := by
  intro σ hs hR H locs ls hW hl
  rw [P_X7_hearBeat_b103c_e] at hR
  rw [S_X7_hearBeat_b103c_e] at hs
  obtain ⟨hx, hb, hr, hml, hts, hown, hlocks, hK, hA⟩ := id C0
  refine lv_goto (tgt := 120) hx hb dX7_hearBeat_103 (by decide) ?_
  exact q_vret C0 hW hR dX7_hearBeat_120
set_option maxHeartbeats 400000 in
set_option maxRecDepth 100000 in
theorem b_X7_hearBeat_b86c {p : Program} {e : Env} {s : State} {m : MethodId} {args : Array Value} {below : List Frame} {meth : Method} {c : Code} (l : Launch) (D : va_G) (k : Nat → ClassId) (a : Nat → Nat) (A : Nat → Prop) (C0 : q_C p s m meth c args RX7 cX7_hearBeat 3 none wsX7_hearBeat D (tyL k) A) (R : T2) : ∀ (σ : T2), S_X7_hearBeat_b86c σ → P_X7_hearBeat_b86c σ = R → ∀ (H : Heap) (locs : List Loc) (ls : Array Slot), q_W D A s.heap (wX7 k a σ) H locs → lv_has ls 3 [] → W p l e { frames := 3, cells := 0, slots := 0, locals := 88 } s m args below meth c H locs 0 0 (MQ below (va_Qv (fun u => u = R) (fun u => q_E D (tyL k) A (wX7 k a u)) A) args s 0 0 A) (F0 m 86 ls []) := by
  intro σ hs hR H locs ls hW hl
  rw [P_X7_hearBeat_b86c_e] at hR
  rw [S_X7_hearBeat_b86c_e] at hs
  obtain ⟨hx, hb, hr, hml, hts, hown, hlocks, hK, hA⟩ := id C0
  refine lv_goto (tgt := 120) hx hb dX7_hearBeat_86 (by decide) ?_
  exact q_vret C0 hW hR dX7_hearBeat_120
set_option maxHeartbeats 400000 in
set_option maxRecDepth 100000 in
theorem b_X7_hearBeat_b35 {p : Program} {e : Env} {s : State} {m : MethodId} {args : Array Value} {below : List Frame} {meth : Method} {c : Code} (l : Launch) (D : va_G) (k : Nat → ClassId) (a : Nat → Nat) (A : Nat → Prop) (C0 : q_C p s m meth c args RX7 cX7_hearBeat 3 none wsX7_hearBeat D (tyL k) A) (R : T2) : ∀ (σ : T2) (v1 : Int32) (v2 : Int32), S_X7_hearBeat_b35 σ v1 v2 → P_X7_hearBeat_b35 σ v1 v2 = R → ∀ (H : Heap) (locs : List Loc) (ls : Array Slot), q_W D A s.heap (wX7 k a σ) H locs → lv_has ls 3 [(0, .ref (a 0)), (1, .int v1), (2, .int v2)] → W p l e { frames := 3, cells := 0, slots := 0, locals := 88 } s m args below meth c H locs 0 0 (MQ below (va_Qv (fun u => u = R) (fun u => q_E D (tyL k) A (wX7 k a u)) A) args s 0 0 A) (F0 m 35 ls []) := by
  intro σ v1 v2 hs hR H locs ls hW hl
  rw [P_X7_hearBeat_b35_e] at hR
  rw [S_X7_hearBeat_b35_e] at hs
  obtain ⟨hx, hb, hr, hml, hts, hown, hlocks, hK, hA⟩ := id C0
  have hf39 := hts (.fieldLink RX7 39 "BeatFollower$Scene" "drummer" "LBeatFollower$Drummer;") (by decide +kernel)
  have hf46 := hts (.fieldLink RX7 46 "BeatFollower$Scene" "tally" "LBeatFollower$Tally;") (by decide +kernel)
  have hf95 := hts (.fieldLink RX7 95 "BeatFollower$Tally" "heard" "I") (by decide +kernel)
  have hf120 := hts (.fieldLink RX7 120 "BeatFollower$Drummer" "nextBlow" "I") (by decide +kernel)
  have hinX1 : ∀ w ∈ u_ws RX1 TX1 7, w ∈ wsX7_hearBeat := hin_X7_hearBeat_X1
  have hinX7 : ∀ w ∈ u_ws RX7 TX7 7, w ∈ wsX7_hearBeat := hin_X7_hearBeat_X7
  have hinX8 : ∀ w ∈ u_ws RX8 TX8 10, w ∈ wsX7_hearBeat := hin_X7_hearBeat_X8
  refine lv_aload_n hx hb dX7_hearBeat_35 rfl (lv_at hl 0 rfl) ?_
  refine va_get (v := .ref (a 16)) (C := RX7) (T := TX7) (N := 7) hx hb hts hinX7 hown hK hW.1 0 rfl rfl 5 (by decide) hf46 (fun _ h9 => h9) rfl dX7_hearBeat_36 ?_
  refine lv_dup hx hb dX7_hearBeat_39 rfl ?_
  refine va_get (v := .int (σ 16 0)) (C := RX8) (T := TX8) (N := 10) hx hb hts hinX8 hown hK hW.1 16 rfl rfl 0 (by decide) hf95 (fun _ h9 => h9) rfl dX7_hearBeat_40 ?_
  refine lv_iconst (v := (1 : Int32)) hx hb dX7_hearBeat_43 (by decide) ?_
  refine lv_iadd hx hb dX7_hearBeat_44 ?_
  refine q_putf (ty := .int) (wd' := wX7 k a (u2 σ 16 (upd (σ 16) 0 ((σ 16 0) + (1 : Int32))))) C0 hW hinX8 tyX8 tyX8_ok nmX8 16 rfl rfl 0 (by decide) hf95 rfl (by decide +kernel) rfl rfl (Nat.le_of_ble_eq_true rfl) dX7_hearBeat_45 (fX8_s0 _ _ _) (wX7_s16 k a _ _) (fun H locs hW => ?_)
  refine lv_aload_n hx hb dX7_hearBeat_48 rfl (lv_at hl 0 rfl) ?_
  refine lv_iload_n hx hb dX7_hearBeat_49 rfl (lv_at hl 2 rfl) ?_
  have hs3 := hs.1
  have hs := hs.2
  refine q_Vi (As := [.int v2]) (rest := []) (R := P_X7_fateAt (u2 σ 16 (upd (σ 16) 0 ((σ 16 0) + (1 : Int32)))) v2) [0, 1, 2, 3, 4, 5, 6, 7, 8, 9, 10, 11, 12, 13, 14, 15, 16] [0, 1, 2, 3] 0 7 C0 hW (m_X7_fateAt l D k a _ (u2 σ 16 (upd (σ 16) 0 ((σ 16 0) + (1 : Int32)))) v2 hs3) (cwV 1 hts gX7_hearBeat_X7_fateAt rfl rfl rfl hd_X7_fateAt ⟨Nat.le_of_ble_eq_true rfl, Nat.le_of_ble_eq_true rfl⟩) (by decide) (wX7_pl k a _) rfl (wX7_rec k a _) rfl hl rfl rfl (Nat.le_of_ble_eq_true rfl) dX7_hearBeat_50 ⟨Nat.le_refl 0, Nat.le_refl 0⟩ ?_
  by_cases c_4 : (P_X7_fateAt (u2 σ 16 (upd (σ 16) 0 ((σ 16 0) + (1 : Int32)))) v2) = (1 : Int32)
  · have hs := hs.1 c_4
    rw [if_pos c_4] at hR
    refine lv_lookup (off := 36) (tgt := 89) hx hb dX7_hearBeat_53 (by decide) (by rw [c_4]; decide) (by decide) ?_
    refine lv_aload_n hx hb dX7_hearBeat_89 rfl (lv_at hl 0 rfl) ?_
    refine lv_iload_n hx hb dX7_hearBeat_90 rfl (lv_at hl 1 rfl) ?_
    refine lv_iload_n hx hb dX7_hearBeat_91 rfl (lv_at hl 2 rfl) ?_
    refine lv_aload_n hx hb dX7_hearBeat_92 rfl (lv_at hl 0 rfl) ?_
    refine va_get (v := .ref (a 15)) (C := RX7) (T := TX7) (N := 7) hx hb hts hinX7 hown hK hW.1 0 rfl rfl 4 (by decide) hf39 (fun _ h9 => h9) rfl dX7_hearBeat_93 ?_
    refine va_get (v := .int (σ 15 2)) (C := RX1) (T := TX1) (N := 7) hx hb hts hinX1 hown hK hW.1 15 rfl rfl 2 (by decide) hf120 (fun _ h9 => h9) rfl dX7_hearBeat_96 ?_
    refine lv_isub hx hb dX7_hearBeat_99 ?_
    have hs5 := hs.1
    have hs := hs.2
    refine q_Vv (As := [.int v1, .int (v2 - (σ 15 2))]) (rest := []) (wf := wX7 k a) (R := P_X7_passOver (u2 σ 16 (upd (σ 16) 0 ((σ 16 0) + (1 : Int32)))) v1 (v2 - (σ 15 2))) (wd' := wX7 k a (P_X7_passOver (u2 σ 16 (upd (σ 16) 0 ((σ 16 0) + (1 : Int32)))) v1 (v2 - (σ 15 2)))) [0, 1, 2, 3, 4, 5, 6, 7, 8, 9, 10, 11, 12, 13, 14, 15, 16] [0, 1, 2, 3] 0 7 C0 hW (m_X7_passOver l D k a H.size (u2 σ 16 (upd (σ 16) 0 ((σ 16 0) + (1 : Int32)))) v1 (v2 - (σ 15 2)) hs5) (cwV 2 hts gX7_hearBeat_X7_passOver rfl rfl rfl hd_X7_passOver ⟨Nat.le_of_ble_eq_true rfl, Nat.le_of_ble_eq_true rfl⟩) (by decide) (wX7_pl k a _) rfl (wX7_rec k a _) rfl (wX7_fst k a _ _) (wX7_put k a _ _) hl rfl rfl (Nat.le_of_ble_eq_true rfl) dX7_hearBeat_100 ⟨Nat.le_refl 0, Nat.le_refl 0⟩ (fun H locs hW => ?_)
    exact b_X7_hearBeat_b103c l D k a A C0 R (P_X7_passOver (u2 σ 16 (upd (σ 16) 0 ((σ 16 0) + (1 : Int32)))) v1 (v2 - (σ 15 2))) hs hR H locs ls hW (lv_sub hl [] rfl)
  · have hs := hs.2 c_4
    rw [if_neg c_4] at hR
    by_cases c_6 : (P_X7_fateAt (u2 σ 16 (upd (σ 16) 0 ((σ 16 0) + (1 : Int32)))) v2) = (3 : Int32)
    · have hs := hs.1 c_6
      rw [if_pos c_6] at hR
      refine lv_lookup (off := 27) (tgt := 80) hx hb dX7_hearBeat_53 (by decide) (by rw [c_6]; decide) (by decide) ?_
      refine lv_aload_n hx hb dX7_hearBeat_80 rfl (lv_at hl 0 rfl) ?_
      refine lv_iload_n hx hb dX7_hearBeat_81 rfl (lv_at hl 1 rfl) ?_
      refine lv_iload_n hx hb dX7_hearBeat_82 rfl (lv_at hl 2 rfl) ?_
      have hs7 := hs.1
      have hs := hs.2
      refine q_Vv (As := [.int v1, .int v2]) (rest := []) (wf := wX7 k a) (R := P_X7_strikeWithBeat (u2 σ 16 (upd (σ 16) 0 ((σ 16 0) + (1 : Int32)))) v1 v2) (wd' := wX7 k a (P_X7_strikeWithBeat (u2 σ 16 (upd (σ 16) 0 ((σ 16 0) + (1 : Int32)))) v1 v2)) [0, 1, 2, 3, 4, 5, 6, 7, 8, 9, 10, 11, 12, 13, 14, 15, 16] [0, 1, 2, 3] 0 7 C0 hW (m_X7_strikeWithBeat l D k a H.size (u2 σ 16 (upd (σ 16) 0 ((σ 16 0) + (1 : Int32)))) v1 v2 hs7) (cwV 2 hts gX7_hearBeat_X7_strikeWithBeat rfl rfl rfl hd_X7_strikeWithBeat ⟨Nat.le_of_ble_eq_true rfl, Nat.le_of_ble_eq_true rfl⟩) (by decide) (wX7_pl k a _) rfl (wX7_rec k a _) rfl (wX7_fst k a _ _) (wX7_put k a _ _) hl rfl rfl (Nat.le_of_ble_eq_true rfl) dX7_hearBeat_83 ⟨Nat.le_refl 0, Nat.le_refl 0⟩ (fun H locs hW => ?_)
      exact b_X7_hearBeat_b86c l D k a A C0 R (P_X7_strikeWithBeat (u2 σ 16 (upd (σ 16) 0 ((σ 16 0) + (1 : Int32)))) v1 v2) hs hR H locs ls hW (lv_sub hl [] rfl)
    · have hs := hs.2 c_6
      rw [if_neg c_6] at hR
      refine lv_lookup (off := 53) (tgt := 106) hx hb dX7_hearBeat_53 (by decide) ((lv_osw c_4 (by decide)).trans ((lv_osw c_6 (by decide)).trans (rfl))) (by decide) ?_
      refine lv_aload_n hx hb dX7_hearBeat_106 rfl (lv_at hl 0 rfl) ?_
      refine lv_iload_n hx hb dX7_hearBeat_107 rfl (lv_at hl 1 rfl) ?_
      refine lv_iload_n hx hb dX7_hearBeat_108 rfl (lv_at hl 2 rfl) ?_
      refine lv_aload_n hx hb dX7_hearBeat_109 rfl (lv_at hl 0 rfl) ?_
      refine va_get (v := .ref (a 15)) (C := RX7) (T := TX7) (N := 7) hx hb hts hinX7 hown hK hW.1 0 rfl rfl 4 (by decide) hf39 (fun _ h9 => h9) rfl dX7_hearBeat_110 ?_
      refine va_get (v := .int (σ 15 2)) (C := RX1) (T := TX1) (N := 7) hx hb hts hinX1 hown hK hW.1 15 rfl rfl 2 (by decide) hf120 (fun _ h9 => h9) rfl dX7_hearBeat_113 ?_
      refine lv_isub hx hb dX7_hearBeat_116 ?_
      have hs8 := hs.1
      have hs := hs.2
      refine q_Vv (As := [.int v1, .int (v2 - (σ 15 2))]) (rest := []) (wf := wX7 k a) (R := P_X7_takeBeat (u2 σ 16 (upd (σ 16) 0 ((σ 16 0) + (1 : Int32)))) v1 (v2 - (σ 15 2))) (wd' := wX7 k a (P_X7_takeBeat (u2 σ 16 (upd (σ 16) 0 ((σ 16 0) + (1 : Int32)))) v1 (v2 - (σ 15 2)))) [0, 1, 2, 3, 4, 5, 6, 7, 8, 9, 10, 11, 12, 13, 14, 15, 16] [0, 1, 2, 3] 0 7 C0 hW (m_X7_takeBeat l D k a H.size (u2 σ 16 (upd (σ 16) 0 ((σ 16 0) + (1 : Int32)))) v1 (v2 - (σ 15 2)) hs8) (cwV 2 hts gX7_hearBeat_X7_takeBeat rfl rfl rfl hd_X7_takeBeat ⟨Nat.le_of_ble_eq_true rfl, Nat.le_of_ble_eq_true rfl⟩) (by decide) (wX7_pl k a _) rfl (wX7_rec k a _) rfl (wX7_fst k a _ _) (wX7_put k a _ _) hl rfl rfl (Nat.le_of_ble_eq_true rfl) dX7_hearBeat_117 ⟨Nat.le_refl 0, Nat.le_refl 0⟩ (fun H locs hW => ?_)
      exact q_vret C0 hW hR dX7_hearBeat_120
set_option maxHeartbeats 400000 in
set_option maxRecDepth 100000 in
theorem b_X7_hearBeat_b11n {p : Program} {e : Env} {s : State} {m : MethodId} {args : Array Value} {below : List Frame} {meth : Method} {c : Code} (l : Launch) (D : va_G) (k : Nat → ClassId) (a : Nat → Nat) (A : Nat → Prop) (C0 : q_C p s m meth c args RX7 cX7_hearBeat 3 none wsX7_hearBeat D (tyL k) A) (R : T2) : ∀ (σ : T2) (v1 : Int32) (v2 : Int32), S_X7_hearBeat_b11n σ v1 v2 → P_X7_hearBeat_b11n σ v1 v2 = R → ∀ (H : Heap) (locs : List Loc) (ls : Array Slot), q_W D A s.heap (wX7 k a σ) H locs → lv_has ls 3 [(0, .ref (a 0)), (1, .int v1), (2, .int v2)] → W p l e { frames := 3, cells := 0, slots := 0, locals := 88 } s m args below meth c H locs 0 0 (MQ below (va_Qv (fun u => u = R) (fun u => q_E D (tyL k) A (wX7 k a u)) A) args s 0 0 A) (F0 m 11 ls []) := by
  intro σ v1 v2 hs hR H locs ls hW hl
  rw [P_X7_hearBeat_b11n_e] at hR
  rw [S_X7_hearBeat_b11n_e] at hs
  obtain ⟨hx, hb, hr, hml, hts, hown, hlocks, hK, hA⟩ := id C0
  have hf39 := hts (.fieldLink RX7 39 "BeatFollower$Scene" "drummer" "LBeatFollower$Drummer;") (by decide +kernel)
  have hf46 := hts (.fieldLink RX7 46 "BeatFollower$Scene" "tally" "LBeatFollower$Tally;") (by decide +kernel)
  have hf132 := hts (.fieldLink RX7 132 "BeatFollower$Drummer" "state" "I") (by decide +kernel)
  have hf135 := hts (.fieldLink RX7 135 "BeatFollower$Tally" "heardLocked" "I") (by decide +kernel)
  have hinX1 : ∀ w ∈ u_ws RX1 TX1 7, w ∈ wsX7_hearBeat := hin_X7_hearBeat_X1
  have hinX7 : ∀ w ∈ u_ws RX7 TX7 7, w ∈ wsX7_hearBeat := hin_X7_hearBeat_X7
  have hinX8 : ∀ w ∈ u_ws RX8 TX8 10, w ∈ wsX7_hearBeat := hin_X7_hearBeat_X8
  refine lv_aload_n hx hb dX7_hearBeat_11 rfl (lv_at hl 0 rfl) ?_
  refine va_get (v := .ref (a 15)) (C := RX7) (T := TX7) (N := 7) hx hb hts hinX7 hown hK hW.1 0 rfl rfl 4 (by decide) hf39 (fun _ h9 => h9) rfl dX7_hearBeat_12 ?_
  refine va_get (v := .int (σ 15 0)) (C := RX1) (T := TX1) (N := 7) hx hb hts hinX1 hown hK hW.1 15 rfl rfl 0 (by decide) hf132 (fun _ h9 => h9) rfl dX7_hearBeat_15 ?_
  refine lv_iconst (v := (1 : Int32)) hx hb dX7_hearBeat_18 (by decide) ?_
  refine lv_icmp_ne (tgt := 35) hx hb dX7_hearBeat_19 (by decide) (fun c_2 => ?_) (fun c_2 => ?_)
  · have hs := hs.2 c_2
    rw [if_neg c_2] at hR
    exact b_X7_hearBeat_b35 l D k a A C0 R σ v1 v2 hs hR H locs ls hW (lv_sub hl [0, 1, 2] rfl)
  · have hs := hs.1 c_2
    rw [if_pos c_2] at hR
    refine lv_aload_n hx hb dX7_hearBeat_22 rfl (lv_at hl 0 rfl) ?_
    refine va_get (v := .ref (a 16)) (C := RX7) (T := TX7) (N := 7) hx hb hts hinX7 hown hK hW.1 0 rfl rfl 5 (by decide) hf46 (fun _ h9 => h9) rfl dX7_hearBeat_23 ?_
    refine lv_dup hx hb dX7_hearBeat_26 rfl ?_
    refine va_get (v := .int (σ 16 9)) (C := RX8) (T := TX8) (N := 10) hx hb hts hinX8 hown hK hW.1 16 rfl rfl 9 (by decide) hf135 (fun _ h9 => h9) rfl dX7_hearBeat_27 ?_
    refine lv_iconst (v := (1 : Int32)) hx hb dX7_hearBeat_30 (by decide) ?_
    refine lv_iadd hx hb dX7_hearBeat_31 ?_
    refine q_putf (ty := .int) (wd' := wX7 k a (u2 σ 16 (upd (σ 16) 9 ((σ 16 9) + (1 : Int32))))) C0 hW hinX8 tyX8 tyX8_ok nmX8 16 rfl rfl 9 (by decide) hf135 rfl (by decide +kernel) rfl rfl (Nat.le_of_ble_eq_true rfl) dX7_hearBeat_32 (fX8_s9 _ _ _) (wX7_s16 k a _ _) (fun H locs hW => ?_)
    exact b_X7_hearBeat_b35 l D k a A C0 R (u2 σ 16 (upd (σ 16) 9 ((σ 16 9) + (1 : Int32)))) v1 v2 hs hR H locs ls hW (lv_sub hl [0, 1, 2] rfl)
set_option maxHeartbeats 400000 in
set_option maxRecDepth 100000 in
theorem b_X7_hearBeat_b0 {p : Program} {e : Env} {s : State} {m : MethodId} {args : Array Value} {below : List Frame} {meth : Method} {c : Code} (l : Launch) (D : va_G) (k : Nat → ClassId) (a : Nat → Nat) (A : Nat → Prop) (C0 : q_C p s m meth c args RX7 cX7_hearBeat 3 none wsX7_hearBeat D (tyL k) A) (R : T2) : ∀ (σ : T2) (v1 : Int32), S_X7_hearBeat_b0 σ v1 → P_X7_hearBeat_b0 σ v1 = R → ∀ (H : Heap) (locs : List Loc) (ls : Array Slot), q_W D A s.heap (wX7 k a σ) H locs → lv_has ls 3 [(0, .ref (a 0)), (1, .int v1)] → W p l e { frames := 3, cells := 0, slots := 0, locals := 88 } s m args below meth c H locs 0 0 (MQ below (va_Qv (fun u => u = R) (fun u => q_E D (tyL k) A (wX7 k a u)) A) args s 0 0 A) (F0 m 0 ls []) := by
  intro σ v1 hs hR H locs ls hW hl
  rw [P_X7_hearBeat_b0_e] at hR
  rw [S_X7_hearBeat_b0_e] at hs
  obtain ⟨hx, hb, hr, hml, hts, hown, hlocks, hK, hA⟩ := id C0
  have hf18 := hts (.fieldLink RX7 18 "BeatFollower$Scene" "plan" "LBeatFollower$Plan;") (by decide +kernel)
  have hinX7 : ∀ w ∈ u_ws RX7 TX7 7, w ∈ wsX7_hearBeat := hin_X7_hearBeat_X7
  refine lv_iconst (v := (4 : Int32)) hx hb dX7_hearBeat_0 (by decide) ?_
  refine lv_aload_n hx hb dX7_hearBeat_1 rfl (lv_at hl 0 rfl) ?_
  refine va_get (v := .ref (a 2)) (C := RX7) (T := TX7) (N := 7) hx hb hts hinX7 hown hK hW.1 0 rfl rfl 1 (by decide) hf18 (fun _ h9 => h9) rfl dX7_hearBeat_2 ?_
  refine lv_iload_n hx hb dX7_hearBeat_5 rfl (lv_at hl 1 rfl) ?_
  have hs1 := hs.1
  have hs := hs.2
  refine q_Vi (As := [.int v1]) (rest := [.int (4 : Int32)]) (R := P_X5_timeOf (fun j => σ (2 + j)) v1) [2, 3, 4] [0, 1, 2, 3] 2 5 C0 hW (m_X5_timeOf l D k (fun j => a (2 + j)) _ (fun j => σ (2 + j)) v1 hs1) (cwV 1 hts gX7_hearBeat_X5_timeOf rfl rfl rfl hd_X5_timeOf ⟨Nat.le_of_ble_eq_true rfl, Nat.le_of_ble_eq_true rfl⟩) (by decide) (wX7_X5_2_pl k a _) rfl rfl rfl hl rfl rfl (Nat.le_of_ble_eq_true rfl) dX7_hearBeat_6 ⟨Nat.le_refl 0, Nat.le_refl 0⟩ ?_
  refine lv_imul hx hb dX7_hearBeat_9 ?_
  refine lv_istore_n (lv' := [(2, .int ((4 : Int32) * (P_X5_timeOf (fun j => σ (2 + j)) v1))), (0, .ref (a 0)), (1, .int v1)]) hx hb dX7_hearBeat_10 rfl hl (by decide) rfl (fun ls hl => ?_)
  exact b_X7_hearBeat_b11n l D k a A C0 R σ v1 ((4 : Int32) * (P_X5_timeOf (fun j => σ (2 + j)) v1)) hs hR H locs ls hW (lv_sub hl [1, 2, 0] rfl)
set_option maxHeartbeats 400000 in
set_option maxRecDepth 100000 in
theorem m_X7_hearBeat (l : Launch) (D : va_G) (k : Nat → ClassId) (a : Nat → Nat) (sz : Nat) (σ : T2) (p0 : Int32) (hs : S_X7_hearBeat σ p0) : Met l yX7_hearBeat wsX7_hearBeat { frames := 3, cells := 0, slots := 0, locals := 88 } (va_Pc [.ref (a 0), .int p0] (q_B D (tyL k) (wX7 k a σ) sz)) (va_Qv (fun u => u = P_X7_hearBeat σ p0) (fun u => q_E D (tyL k) (va_A (wX7 k a σ) sz) (wX7 k a u)) (va_A (wX7 k a σ) sz)) 0 0 (va_A (wX7 k a σ) sz) := by
  refine q_met [.ref (a 0), .int p0] (wX7 k a σ) sz (cc := cX7_hearBeat) (maxL := 3) (ret := none) (by decide) rfl (Nat.le_of_ble_eq_true rfl) ?_
  intro p e s m args below meth c ls hsz C0 hW hl hin
  subst hsz
  exact b_X7_hearBeat_b0 l D k a _ C0 _ σ p0 hs rfl s.heap [] ls hW (lv_sub hl [0, 1] rfl)
theorem hin_X7_runTo_X5 : ∀ w ∈ u_ws RX5 TX5 3, w ∈ wsX7_runTo := by decide +kernel
theorem hin_X7_runTo_X7 : ∀ w ∈ u_ws RX7 TX7 7, w ∈ wsX7_runTo := by decide +kernel
theorem hin_X7_runTo_X8 : ∀ w ∈ u_ws RX8 TX8 10, w ∈ wsX7_runTo := by decide +kernel
theorem hd_X7_runTo : yX7_runTo.cls = RX7 ∧ yX7_runTo.cls ≠ "java/lang/invoke/MethodHandle" ∧ yX7_runTo.cls ≠ "java/lang/invoke/VarHandle" ∧ (parseMethodDescriptor yX7_runTo.desc).map (fun d => d.parameters.length) = some 1 := by decide +kernel
noncomputable def P_X7_runTo_b89 (σ : T2) (v1 : Int32) : T2 := u2 σ 0 (upd (σ 0) 6 v1)
def S_X7_runTo_b89 (σ : T2) (v1 : Int32) : Prop := True
theorem P_X7_runTo_b89_e (σ : T2) (v1 : Int32) : P_X7_runTo_b89 σ v1 = u2 σ 0 (upd (σ 0) 6 v1) := rfl
theorem S_X7_runTo_b89_e (σ : T2) (v1 : Int32) : S_X7_runTo_b89 σ v1 = (True) := rfl
noncomputable def P_X7_runTo_b83 (pk2 : T2 → Int32 → Int32 → T2) (σ : T2) (v1 : Int32) (v2 : Int32) : T2 := pk2 σ v1 (v2 + (1 : Int32))
def S_X7_runTo_b83 (sk2 : T2 → Int32 → Int32 → Prop) (σ : T2) (v1 : Int32) (v2 : Int32) : Prop := sk2 σ v1 (v2 + (1 : Int32))
theorem P_X7_runTo_b83_e (pk2 : T2 → Int32 → Int32 → T2) (σ : T2) (v1 : Int32) (v2 : Int32) : P_X7_runTo_b83 pk2 σ v1 v2 = pk2 σ v1 (v2 + (1 : Int32)) := rfl
theorem S_X7_runTo_b83_e (sk2 : T2 → Int32 → Int32 → Prop) (σ : T2) (v1 : Int32) (v2 : Int32) : S_X7_runTo_b83 sk2 σ v1 v2 = (sk2 σ v1 (v2 + (1 : Int32))) := rfl
noncomputable def P_X7_runTo_b64c (pk2 : T2 → Int32 → Int32 → T2) (σ : T2) (v1 : Int32) (v2 : Int32) : T2 := P_X7_runTo_b83 pk2 σ v1 v2
def S_X7_runTo_b64c (sk2 : T2 → Int32 → Int32 → Prop) (σ : T2) (v1 : Int32) (v2 : Int32) : Prop := S_X7_runTo_b83 sk2 σ v1 v2
theorem P_X7_runTo_b64c_e (pk2 : T2 → Int32 → Int32 → T2) (σ : T2) (v1 : Int32) (v2 : Int32) : P_X7_runTo_b64c pk2 σ v1 v2 = P_X7_runTo_b83 pk2 σ v1 v2 := rfl
theorem S_X7_runTo_b64c_e (sk2 : T2 → Int32 → Int32 → Prop) (σ : T2) (v1 : Int32) (v2 : Int32) : S_X7_runTo_b64c sk2 σ v1 v2 = (S_X7_runTo_b83 sk2 σ v1 v2) := rfl
noncomputable def P_X7_runTo_b45 (pk2 : T2 → Int32 → Int32 → T2) (σ : T2) (v1 : Int32) (v2 : Int32) (t0 : Int32) : T2 := if (P_X7_isWindowOver σ ((4 : Int32) * (if v1 < t0 then v1 else t0))) = 0 then (if v1 < t0 then (P_X7_runTo_b89 σ v1) else (P_X7_runTo_b83 pk2 (P_X7_hearBeat σ (σ 16 0)) v1 v2)) else (P_X7_runTo_b64c pk2 (P_X7_holdBlow σ) v1 v2)
def S_X7_runTo_b45 (sk2 : T2 → Int32 → Int32 → Prop) (σ : T2) (v1 : Int32) (v2 : Int32) (t0 : Int32) : Prop := (S_X7_isWindowOver σ ((4 : Int32) * (if v1 < t0 then v1 else t0))) ∧ (((P_X7_isWindowOver σ ((4 : Int32) * (if v1 < t0 then v1 else t0))) = 0 → ((v1 < t0 → (S_X7_runTo_b89 σ v1)) ∧ (¬ (v1 < t0) → ((S_X7_hearBeat σ (σ 16 0)) ∧ (S_X7_runTo_b83 sk2 (P_X7_hearBeat σ (σ 16 0)) v1 v2))))) ∧ (¬ ((P_X7_isWindowOver σ ((4 : Int32) * (if v1 < t0 then v1 else t0))) = 0) → ((S_X7_holdBlow σ ) ∧ (S_X7_runTo_b64c sk2 (P_X7_holdBlow σ) v1 v2))))
theorem P_X7_runTo_b45_e (pk2 : T2 → Int32 → Int32 → T2) (σ : T2) (v1 : Int32) (v2 : Int32) (t0 : Int32) : P_X7_runTo_b45 pk2 σ v1 v2 t0 = if (P_X7_isWindowOver σ ((4 : Int32) * (if v1 < t0 then v1 else t0))) = 0 then (if v1 < t0 then (P_X7_runTo_b89 σ v1) else (P_X7_runTo_b83 pk2 (P_X7_hearBeat σ (σ 16 0)) v1 v2)) else (P_X7_runTo_b64c pk2 (P_X7_holdBlow σ) v1 v2) := rfl
theorem S_X7_runTo_b45_e (sk2 : T2 → Int32 → Int32 → Prop) (σ : T2) (v1 : Int32) (v2 : Int32) (t0 : Int32) : S_X7_runTo_b45 sk2 σ v1 v2 t0 = ((S_X7_isWindowOver σ ((4 : Int32) * (if v1 < t0 then v1 else t0))) ∧ (((P_X7_isWindowOver σ ((4 : Int32) * (if v1 < t0 then v1 else t0))) = 0 → ((v1 < t0 → (S_X7_runTo_b89 σ v1)) ∧ (¬ (v1 < t0) → ((S_X7_hearBeat σ (σ 16 0)) ∧ (S_X7_runTo_b83 sk2 (P_X7_hearBeat σ (σ 16 0)) v1 v2))))) ∧ (¬ ((P_X7_isWindowOver σ ((4 : Int32) * (if v1 < t0 then v1 else t0))) = 0) → ((S_X7_holdBlow σ ) ∧ (S_X7_runTo_b64c sk2 (P_X7_holdBlow σ) v1 v2))))) := rfl
noncomputable def P_X7_runTo_b2 (n : Nat) : T2 → Int32 → Int32 → T2 := Nat.rec (motive := fun _ => T2 → Int32 → Int32 → T2) (fun _ _ _ => (fun _ _ => 0)) (fun _ pk2 => fun σ v1 v2 => if (2000 : Int32) ≤ v2 then (P_X7_runTo_b89 σ v1) else (if (σ 2 2) ≤ (σ 16 0) then (P_X7_runTo_b45 pk2 σ v1 v2 (1000000 : Int32)) else (P_X7_runTo_b45 pk2 σ v1 v2 (P_X5_timeOf (fun j => σ (2 + j)) (σ 16 0))))) n
def S_X7_runTo_b2 (n : Nat) : T2 → Int32 → Int32 → Prop := Nat.rec (motive := fun _ => T2 → Int32 → Int32 → Prop) (fun _ _ _ => False) (fun _ sk2 => fun σ v1 v2 => ((2000 : Int32) ≤ v2 → (S_X7_runTo_b89 σ v1)) ∧ (¬ ((2000 : Int32) ≤ v2) → (((σ 2 2) ≤ (σ 16 0) → (S_X7_runTo_b45 sk2 σ v1 v2 (1000000 : Int32))) ∧ (¬ ((σ 2 2) ≤ (σ 16 0)) → ((S_X5_timeOf (fun j => σ (2 + j)) (σ 16 0)) ∧ (S_X7_runTo_b45 sk2 σ v1 v2 (P_X5_timeOf (fun j => σ (2 + j)) (σ 16 0)))))))) n
theorem P_X7_runTo_b2_e (n : Nat) (σ : T2) (v1 : Int32) (v2 : Int32) : P_X7_runTo_b2 (n + 1) σ v1 v2 = if (2000 : Int32) ≤ v2 then (P_X7_runTo_b89 σ v1) else (if (σ 2 2) ≤ (σ 16 0) then (P_X7_runTo_b45 (P_X7_runTo_b2 n) σ v1 v2 (1000000 : Int32)) else (P_X7_runTo_b45 (P_X7_runTo_b2 n) σ v1 v2 (P_X5_timeOf (fun j => σ (2 + j)) (σ 16 0)))) := rfl
theorem S_X7_runTo_b2_e (n : Nat) (σ : T2) (v1 : Int32) (v2 : Int32) : S_X7_runTo_b2 (n + 1) σ v1 v2 = (((2000 : Int32) ≤ v2 → (S_X7_runTo_b89 σ v1)) ∧ (¬ ((2000 : Int32) ≤ v2) → (((σ 2 2) ≤ (σ 16 0) → (S_X7_runTo_b45 (S_X7_runTo_b2 n) σ v1 v2 (1000000 : Int32))) ∧ (¬ ((σ 2 2) ≤ (σ 16 0)) → ((S_X5_timeOf (fun j => σ (2 + j)) (σ 16 0)) ∧ (S_X7_runTo_b45 (S_X7_runTo_b2 n) σ v1 v2 (P_X5_timeOf (fun j => σ (2 + j)) (σ 16 0)))))))) := rfl
noncomputable def P_X7_runTo_b0 (σ : T2) (v1 : Int32) : T2 := P_X7_runTo_b2 FU σ v1 (0 : Int32)
def S_X7_runTo_b0 (σ : T2) (v1 : Int32) : Prop := S_X7_runTo_b2 FU σ v1 (0 : Int32)
theorem P_X7_runTo_b0_e (σ : T2) (v1 : Int32) : P_X7_runTo_b0 σ v1 = P_X7_runTo_b2 FU σ v1 (0 : Int32) := rfl
theorem S_X7_runTo_b0_e (σ : T2) (v1 : Int32) : S_X7_runTo_b0 σ v1 = (S_X7_runTo_b2 FU σ v1 (0 : Int32)) := rfl
noncomputable def P_X7_runTo (σ : T2) (p0 : Int32) : T2 := P_X7_runTo_b0 σ p0
def S_X7_runTo (σ : T2) (p0 : Int32) : Prop := S_X7_runTo_b0 σ p0
set_option maxHeartbeats 400000 in
set_option maxRecDepth 100000 in
theorem b_X7_runTo_b89 {p : Program} {e : Env} {s : State} {m : MethodId} {args : Array Value} {below : List Frame} {meth : Method} {c : Code} (l : Launch) (D : va_G) (k : Nat → ClassId) (a : Nat → Nat) (A : Nat → Prop) (C0 : q_C p s m meth c args RX7 cX7_runTo 4 none wsX7_runTo D (tyL k) A) (R : T2) : ∀ (σ : T2) (v1 : Int32), S_X7_runTo_b89 σ v1 → P_X7_runTo_b89 σ v1 = R → ∀ (H : Heap) (locs : List Loc) (ls : Array Slot), q_W D A s.heap (wX7 k a σ) H locs → lv_has ls 4 [(0, .ref (a 0)), (1, .int v1)] → W p l e { frames := 4, cells := 0, slots := 0, locals := 110 } s m args below meth c H locs 0 0 (MQ below (va_Qv (fun u => u = R) (fun u => q_E D (tyL k) A (wX7 k a u)) A) args s 0 0 A) (F0 m 89 ls []) := by
  intro σ v1 hs hR H locs ls hW hl
  rw [P_X7_runTo_b89_e] at hR
  rw [S_X7_runTo_b89_e] at hs
  obtain ⟨hx, hb, hr, hml, hts, hown, hlocks, hK, hA⟩ := id C0
  have hf62 := hts (.fieldLink RX7 62 "BeatFollower$Scene" "time" "I") (by decide +kernel)
  have hinX7 : ∀ w ∈ u_ws RX7 TX7 7, w ∈ wsX7_runTo := hin_X7_runTo_X7
  refine lv_aload_n hx hb dX7_runTo_89 rfl (lv_at hl 0 rfl) ?_
  refine lv_iload_n hx hb dX7_runTo_90 rfl (lv_at hl 1 rfl) ?_
  refine q_putf (ty := .int) (wd' := wX7 k a (u2 σ 0 (upd (σ 0) 6 v1))) C0 hW hinX7 tyX7 tyX7_ok nmX7 0 rfl rfl 6 (by decide) hf62 rfl (by decide +kernel) rfl rfl (Nat.le_of_ble_eq_true rfl) dX7_runTo_91 (fX7_s6 _ _ _) (wX7_s0 k a _ _) (fun H locs hW => ?_)
  exact q_vret C0 hW hR dX7_runTo_94
set_option maxHeartbeats 400000 in
set_option maxRecDepth 100000 in
theorem b_X7_runTo_b83 {p : Program} {e : Env} {s : State} {m : MethodId} {args : Array Value} {below : List Frame} {meth : Method} {c : Code} (l : Launch) (D : va_G) (k : Nat → ClassId) (a : Nat → Nat) (A : Nat → Prop) (C0 : q_C p s m meth c args RX7 cX7_runTo 4 none wsX7_runTo D (tyL k) A) (R : T2) (pk2 : T2 → Int32 → Int32 → T2) (sk2 : T2 → Int32 → Int32 → Prop) (hk2 : ∀ (σ : T2) (v1 : Int32) (v2 : Int32), sk2 σ v1 v2 → pk2 σ v1 v2 = R → ∀ (H : Heap) (locs : List Loc) (ls : Array Slot), q_W D A s.heap (wX7 k a σ) H locs → lv_has ls 4 [(0, .ref (a 0)), (1, .int v1), (2, .int v2)] → W p l e { frames := 4, cells := 0, slots := 0, locals := 110 } s m args below meth c H locs 0 0 (MQ below (va_Qv (fun u => u = R) (fun u => q_E D (tyL k) A (wX7 k a u)) A) args s 0 0 A) (F0 m 2 ls [])) : ∀ (σ : T2) (v1 : Int32) (v2 : Int32), S_X7_runTo_b83 sk2 σ v1 v2 → P_X7_runTo_b83 pk2 σ v1 v2 = R → ∀ (H : Heap) (locs : List Loc) (ls : Array Slot), q_W D A s.heap (wX7 k a σ) H locs → lv_has ls 4 [(0, .ref (a 0)), (1, .int v1), (2, .int v2)] → W p l e { frames := 4, cells := 0, slots := 0, locals := 110 } s m args below meth c H locs 0 0 (MQ below (va_Qv (fun u => u = R) (fun u => q_E D (tyL k) A (wX7 k a u)) A) args s 0 0 A) (F0 m 83 ls []) := by
  intro σ v1 v2 hs hR H locs ls hW hl
  rw [P_X7_runTo_b83_e] at hR
  rw [S_X7_runTo_b83_e] at hs
  obtain ⟨hx, hb, hr, hml, hts, hown, hlocks, hK, hA⟩ := id C0
  refine lv_iinc (v := v2 + (1 : Int32)) (lv' := [(2, .int (v2 + (1 : Int32))), (0, .ref (a 0)), (1, .int v1)]) hx hb dX7_runTo_83 hl (k := 2) rfl rfl (by decide) rfl (fun ls hl => ?_)
  refine lv_goto (tgt := 2) hx hb dX7_runTo_86 (by decide) ?_
  exact hk2 σ v1 (v2 + (1 : Int32)) hs hR H locs ls hW (lv_sub hl [1, 2, 0] rfl)
set_option maxHeartbeats 400000 in
set_option maxRecDepth 100000 in
theorem b_X7_runTo_b64c {p : Program} {e : Env} {s : State} {m : MethodId} {args : Array Value} {below : List Frame} {meth : Method} {c : Code} (l : Launch) (D : va_G) (k : Nat → ClassId) (a : Nat → Nat) (A : Nat → Prop) (C0 : q_C p s m meth c args RX7 cX7_runTo 4 none wsX7_runTo D (tyL k) A) (R : T2) (pk2 : T2 → Int32 → Int32 → T2) (sk2 : T2 → Int32 → Int32 → Prop) (hk2 : ∀ (σ : T2) (v1 : Int32) (v2 : Int32), sk2 σ v1 v2 → pk2 σ v1 v2 = R → ∀ (H : Heap) (locs : List Loc) (ls : Array Slot), q_W D A s.heap (wX7 k a σ) H locs → lv_has ls 4 [(0, .ref (a 0)), (1, .int v1), (2, .int v2)] → W p l e { frames := 4, cells := 0, slots := 0, locals := 110 } s m args below meth c H locs 0 0 (MQ below (va_Qv (fun u => u = R) (fun u => q_E D (tyL k) A (wX7 k a u)) A) args s 0 0 A) (F0 m 2 ls [])) : ∀ (σ : T2) (v1 : Int32) (v2 : Int32), S_X7_runTo_b64c sk2 σ v1 v2 → P_X7_runTo_b64c pk2 σ v1 v2 = R → ∀ (H : Heap) (locs : List Loc) (ls : Array Slot), q_W D A s.heap (wX7 k a σ) H locs → lv_has ls 4 [(0, .ref (a 0)), (1, .int v1), (2, .int v2)] → W p l e { frames := 4, cells := 0, slots := 0, locals := 110 } s m args below meth c H locs 0 0 (MQ below (va_Qv (fun u => u = R) (fun u => q_E D (tyL k) A (wX7 k a u)) A) args s 0 0 A) (F0 m 64 ls []) := by
  intro σ v1 v2 hs hR H locs ls hW hl
  rw [P_X7_runTo_b64c_e] at hR
  rw [S_X7_runTo_b64c_e] at hs
  obtain ⟨hx, hb, hr, hml, hts, hown, hlocks, hK, hA⟩ := id C0
  refine lv_goto (tgt := 83) hx hb dX7_runTo_64 (by decide) ?_
  exact b_X7_runTo_b83 l D k a A C0 R pk2 sk2 hk2 σ v1 v2 hs hR H locs ls hW (lv_sub hl [0, 1, 2] rfl)
set_option maxHeartbeats 400000 in
set_option maxRecDepth 100000 in
theorem b_X7_runTo_b45 {p : Program} {e : Env} {s : State} {m : MethodId} {args : Array Value} {below : List Frame} {meth : Method} {c : Code} (l : Launch) (D : va_G) (k : Nat → ClassId) (a : Nat → Nat) (A : Nat → Prop) (C0 : q_C p s m meth c args RX7 cX7_runTo 4 none wsX7_runTo D (tyL k) A) (R : T2) (pk2 : T2 → Int32 → Int32 → T2) (sk2 : T2 → Int32 → Int32 → Prop) (hk2 : ∀ (σ : T2) (v1 : Int32) (v2 : Int32), sk2 σ v1 v2 → pk2 σ v1 v2 = R → ∀ (H : Heap) (locs : List Loc) (ls : Array Slot), q_W D A s.heap (wX7 k a σ) H locs → lv_has ls 4 [(0, .ref (a 0)), (1, .int v1), (2, .int v2)] → W p l e { frames := 4, cells := 0, slots := 0, locals := 110 } s m args below meth c H locs 0 0 (MQ below (va_Qv (fun u => u = R) (fun u => q_E D (tyL k) A (wX7 k a u)) A) args s 0 0 A) (F0 m 2 ls [])) : ∀ (σ : T2) (v1 : Int32) (v2 : Int32) (t0 : Int32), S_X7_runTo_b45 sk2 σ v1 v2 t0 → P_X7_runTo_b45 pk2 σ v1 v2 t0 = R → ∀ (H : Heap) (locs : List Loc) (ls : Array Slot), q_W D A s.heap (wX7 k a σ) H locs → lv_has ls 4 [(0, .ref (a 0)), (1, .int v1), (2, .int v2)] → W p l e { frames := 4, cells := 0, slots := 0, locals := 110 } s m args below meth c H locs 0 0 (MQ below (va_Qv (fun u => u = R) (fun u => q_E D (tyL k) A (wX7 k a u)) A) args s 0 0 A) (F0 m 45 ls [.int t0]) := by
  intro σ v1 v2 t0 hs hR H locs ls hW hl
  rw [P_X7_runTo_b45_e] at hR
  rw [S_X7_runTo_b45_e] at hs
  obtain ⟨hx, hb, hr, hml, hts, hown, hlocks, hK, hA⟩ := id C0
  have hf46 := hts (.fieldLink RX7 46 "BeatFollower$Scene" "tally" "LBeatFollower$Tally;") (by decide +kernel)
  have hf95 := hts (.fieldLink RX7 95 "BeatFollower$Tally" "heard" "I") (by decide +kernel)
  have hinX7 : ∀ w ∈ u_ws RX7 TX7 7, w ∈ wsX7_runTo := hin_X7_runTo_X7
  have hinX8 : ∀ w ∈ u_ws RX8 TX8 10, w ∈ wsX7_runTo := hin_X7_runTo_X8
  refine lv_istore_n (lv' := [(3, .int t0), (0, .ref (a 0)), (1, .int v1), (2, .int v2)]) hx hb dX7_runTo_45 rfl hl (by decide) rfl (fun ls hl => ?_)
  refine lv_aload_n hx hb dX7_runTo_46 rfl (lv_at hl 1 rfl) ?_
  refine lv_iconst (v := (4 : Int32)) hx hb dX7_runTo_47 (by decide) ?_
  refine lv_iload_n hx hb dX7_runTo_48 rfl (lv_at hl 0 rfl) ?_
  refine lv_iload_n hx hb dX7_runTo_49 rfl (lv_at hl 2 rfl) ?_
  refine va_mmin hx hb (by rw [hml]; exact hl.1.symm) hown (hts (.methodLink RX7 104 Lib.Math.min.name) (by decide +kernel)) (hts (.static Lib.Math.min.name) (by decide +kernel)) (hts (.initialized "java/lang/Math") (by decide +kernel)) (hts (.code Lib.Math.min.name Lib.Math.min.code 2 (some .int)) (by decide +kernel)) (Nat.le_of_ble_eq_true rfl) (Nat.le_of_ble_eq_true rfl) (Nat.zero_le _) (Nat.zero_le _) dX7_runTo_50 ?_
  refine lv_imul hx hb dX7_runTo_53 ?_
  have hs3 := hs.1
  have hs := hs.2
  refine q_Vi (As := [.int ((4 : Int32) * (if v1 < t0 then v1 else t0))]) (rest := []) (R := P_X7_isWindowOver σ ((4 : Int32) * (if v1 < t0 then v1 else t0))) [0, 1, 2, 3, 4, 5, 6, 7, 8, 9, 10, 11, 12, 13, 14, 15, 16] [0, 1, 2, 3] 0 7 C0 hW (m_X7_isWindowOver l D k a _ σ ((4 : Int32) * (if v1 < t0 then v1 else t0)) hs3) (cwV 1 hts gX7_runTo_X7_isWindowOver rfl rfl rfl hd_X7_isWindowOver ⟨Nat.le_of_ble_eq_true rfl, Nat.le_of_ble_eq_true rfl⟩) (by decide) (wX7_pl k a _) rfl (wX7_rec k a _) rfl hl rfl rfl (Nat.le_of_ble_eq_true rfl) dX7_runTo_54 ⟨Nat.le_refl 0, Nat.le_refl 0⟩ ?_
  refine lv_if_eq (tgt := 67) hx hb dX7_runTo_57 (by decide) (fun c_4 => ?_) (fun c_4 => ?_)
  · have hs := hs.1 c_4
    rw [if_pos c_4] at hR
    refine lv_iload_n hx hb dX7_runTo_67 rfl (lv_at hl 0 rfl) ?_
    refine lv_iload_n hx hb dX7_runTo_68 rfl (lv_at hl 2 rfl) ?_
    refine lv_icmp_gt (tgt := 89) hx hb dX7_runTo_69 (by decide) (fun c_5 => ?_) (fun c_5 => ?_)
    · have hs := hs.1 c_5
      rw [if_pos c_5] at hR
      exact b_X7_runTo_b89 l D k a A C0 R σ v1 hs hR H locs ls hW (lv_sub hl [1, 2] rfl)
    · have hs := hs.2 c_5
      rw [if_neg c_5] at hR
      refine lv_aload_n hx hb dX7_runTo_72 rfl (lv_at hl 1 rfl) ?_
      refine lv_aload_n hx hb dX7_runTo_73 rfl (lv_at hl 1 rfl) ?_
      refine va_get (v := .ref (a 16)) (C := RX7) (T := TX7) (N := 7) hx hb hts hinX7 hown hK hW.1 0 rfl rfl 5 (by decide) hf46 (fun _ h9 => h9) rfl dX7_runTo_74 ?_
      refine va_get (v := .int (σ 16 0)) (C := RX8) (T := TX8) (N := 10) hx hb hts hinX8 hown hK hW.1 16 rfl rfl 0 (by decide) hf95 (fun _ h9 => h9) rfl dX7_runTo_77 ?_
      have hs6 := hs.1
      have hs := hs.2
      refine q_Vv (As := [.int (σ 16 0)]) (rest := []) (wf := wX7 k a) (R := P_X7_hearBeat σ (σ 16 0)) (wd' := wX7 k a (P_X7_hearBeat σ (σ 16 0))) [0, 1, 2, 3, 4, 5, 6, 7, 8, 9, 10, 11, 12, 13, 14, 15, 16] [0, 1, 2, 3] 0 7 C0 hW (m_X7_hearBeat l D k a H.size σ (σ 16 0) hs6) (cwV 1 hts gX7_runTo_X7_hearBeat rfl rfl rfl hd_X7_hearBeat ⟨Nat.le_of_ble_eq_true rfl, Nat.le_of_ble_eq_true rfl⟩) (by decide) (wX7_pl k a _) rfl (wX7_rec k a _) rfl (wX7_fst k a _ _) (wX7_put k a _ _) hl rfl rfl (Nat.le_of_ble_eq_true rfl) dX7_runTo_80 ⟨Nat.le_refl 0, Nat.le_refl 0⟩ (fun H locs hW => ?_)
      exact b_X7_runTo_b83 l D k a A C0 R pk2 sk2 hk2 (P_X7_hearBeat σ (σ 16 0)) v1 v2 hs hR H locs ls hW (lv_sub hl [1, 2, 3] rfl)
  · have hs := hs.2 c_4
    rw [if_neg c_4] at hR
    refine lv_aload_n hx hb dX7_runTo_60 rfl (lv_at hl 1 rfl) ?_
    have hs7 := hs.1
    have hs := hs.2
    refine q_Vv (As := []) (rest := []) (wf := wX7 k a) (R := P_X7_holdBlow σ) (wd' := wX7 k a (P_X7_holdBlow σ)) [0, 1, 2, 3, 4, 5, 6, 7, 8, 9, 10, 11, 12, 13, 14, 15, 16] [0, 1, 2, 3] 0 7 C0 hW (m_X7_holdBlow l D k a H.size σ  hs7) (cwV 0 hts gX7_runTo_X7_holdBlow rfl rfl rfl hd_X7_holdBlow ⟨Nat.le_of_ble_eq_true rfl, Nat.le_of_ble_eq_true rfl⟩) (by decide) (wX7_pl k a _) rfl (wX7_rec k a _) rfl (wX7_fst k a _ _) (wX7_put k a _ _) hl rfl rfl (Nat.le_of_ble_eq_true rfl) dX7_runTo_61 ⟨Nat.le_refl 0, Nat.le_refl 0⟩ (fun H locs hW => ?_)
    exact b_X7_runTo_b64c l D k a A C0 R pk2 sk2 hk2 (P_X7_holdBlow σ) v1 v2 hs hR H locs ls hW (lv_sub hl [1, 2, 3] rfl)
set_option maxHeartbeats 400000 in
set_option maxRecDepth 100000 in
theorem b_X7_runTo_b2 {p : Program} {e : Env} {s : State} {m : MethodId} {args : Array Value} {below : List Frame} {meth : Method} {c : Code} (l : Launch) (D : va_G) (k : Nat → ClassId) (a : Nat → Nat) (A : Nat → Prop) (C0 : q_C p s m meth c args RX7 cX7_runTo 4 none wsX7_runTo D (tyL k) A) (R : T2) : ∀ n : Nat, ∀ (σ : T2) (v1 : Int32) (v2 : Int32), S_X7_runTo_b2 n σ v1 v2 → P_X7_runTo_b2 n σ v1 v2 = R → ∀ (H : Heap) (locs : List Loc) (ls : Array Slot), q_W D A s.heap (wX7 k a σ) H locs → lv_has ls 4 [(0, .ref (a 0)), (1, .int v1), (2, .int v2)] → W p l e { frames := 4, cells := 0, slots := 0, locals := 110 } s m args below meth c H locs 0 0 (MQ below (va_Qv (fun u => u = R) (fun u => q_E D (tyL k) A (wX7 k a u)) A) args s 0 0 A) (F0 m 2 ls []) := by
  intro n
  induction n with
  | zero => intro σ v1 v2 hs; exact False.elim hs
  | succ n ih =>
    intro σ v1 v2 hs hR H locs ls hW hl
    rw [P_X7_runTo_b2_e] at hR
    rw [S_X7_runTo_b2_e] at hs
    obtain ⟨hx, hb, hr, hml, hts, hown, hlocks, hK, hA⟩ := id C0
    have hf18 := hts (.fieldLink RX7 18 "BeatFollower$Scene" "plan" "LBeatFollower$Plan;") (by decide +kernel)
    have hf46 := hts (.fieldLink RX7 46 "BeatFollower$Scene" "tally" "LBeatFollower$Tally;") (by decide +kernel)
    have hf95 := hts (.fieldLink RX7 95 "BeatFollower$Tally" "heard" "I") (by decide +kernel)
    have hf98 := hts (.fieldLink RX7 98 "BeatFollower$Plan" "many" "I") (by decide +kernel)
    have hinX5 : ∀ w ∈ u_ws RX5 TX5 3, w ∈ wsX7_runTo := hin_X7_runTo_X5
    have hinX7 : ∀ w ∈ u_ws RX7 TX7 7, w ∈ wsX7_runTo := hin_X7_runTo_X7
    have hinX8 : ∀ w ∈ u_ws RX8 TX8 10, w ∈ wsX7_runTo := hin_X7_runTo_X8
    refine lv_iload_n hx hb dX7_runTo_2 rfl (lv_at hl 2 rfl) ?_
    refine lv_sipush (v := (2000 : Int32)) hx hb dX7_runTo_3 (by decide) ?_
    refine lv_icmp_ge (tgt := 89) hx hb dX7_runTo_6 (by decide) (fun c_1 => ?_) (fun c_1 => ?_)
    · have hs := hs.1 c_1
      rw [if_pos c_1] at hR
      exact b_X7_runTo_b89 l D k a A C0 R σ v1 hs hR H locs ls hW (lv_sub hl [0, 1] rfl)
    · have hs := hs.2 c_1
      rw [if_neg c_1] at hR
      refine lv_aload_n hx hb dX7_runTo_9 rfl (lv_at hl 0 rfl) ?_
      refine va_get (v := .ref (a 16)) (C := RX7) (T := TX7) (N := 7) hx hb hts hinX7 hown hK hW.1 0 rfl rfl 5 (by decide) hf46 (fun _ h9 => h9) rfl dX7_runTo_10 ?_
      refine va_get (v := .int (σ 16 0)) (C := RX8) (T := TX8) (N := 10) hx hb hts hinX8 hown hK hW.1 16 rfl rfl 0 (by decide) hf95 (fun _ h9 => h9) rfl dX7_runTo_13 ?_
      refine lv_aload_n hx hb dX7_runTo_16 rfl (lv_at hl 0 rfl) ?_
      refine va_get (v := .ref (a 2)) (C := RX7) (T := TX7) (N := 7) hx hb hts hinX7 hown hK hW.1 0 rfl rfl 1 (by decide) hf18 (fun _ h9 => h9) rfl dX7_runTo_17 ?_
      refine va_get (v := .int (σ 2 2)) (C := RX5) (T := TX5) (N := 3) hx hb hts hinX5 hown hK hW.1 2 rfl rfl 2 (by decide) hf98 (fun _ h9 => h9) rfl dX7_runTo_20 ?_
      refine lv_icmp_ge (tgt := 43) hx hb dX7_runTo_23 (by decide) (fun c_2 => ?_) (fun c_2 => ?_)
      · have hs := hs.1 c_2
        rw [if_pos c_2] at hR
        refine lv_ldc (v := (1000000 : Int32)) hx hb hown (hts (.constant RX7 103 (1000000 : Int32)) (by decide +kernel)) dX7_runTo_43 ?_
        exact b_X7_runTo_b45 l D k a A C0 R _ _ ih σ v1 v2 (1000000 : Int32) hs hR H locs ls hW (lv_sub hl [0, 1, 2] rfl)
      · have hs := hs.2 c_2
        rw [if_neg c_2] at hR
        refine lv_aload_n hx hb dX7_runTo_26 rfl (lv_at hl 0 rfl) ?_
        refine va_get (v := .ref (a 2)) (C := RX7) (T := TX7) (N := 7) hx hb hts hinX7 hown hK hW.1 0 rfl rfl 1 (by decide) hf18 (fun _ h9 => h9) rfl dX7_runTo_27 ?_
        refine lv_aload_n hx hb dX7_runTo_30 rfl (lv_at hl 0 rfl) ?_
        refine va_get (v := .ref (a 16)) (C := RX7) (T := TX7) (N := 7) hx hb hts hinX7 hown hK hW.1 0 rfl rfl 5 (by decide) hf46 (fun _ h9 => h9) rfl dX7_runTo_31 ?_
        refine va_get (v := .int (σ 16 0)) (C := RX8) (T := TX8) (N := 10) hx hb hts hinX8 hown hK hW.1 16 rfl rfl 0 (by decide) hf95 (fun _ h9 => h9) rfl dX7_runTo_34 ?_
        have hs8 := hs.1
        have hs := hs.2
        refine q_Vi (As := [.int (σ 16 0)]) (rest := []) (R := P_X5_timeOf (fun j => σ (2 + j)) (σ 16 0)) [2, 3, 4] [0, 1, 2, 3] 2 5 C0 hW (m_X5_timeOf l D k (fun j => a (2 + j)) _ (fun j => σ (2 + j)) (σ 16 0) hs8) (cwV 1 hts gX7_runTo_X5_timeOf rfl rfl rfl hd_X5_timeOf ⟨Nat.le_of_ble_eq_true rfl, Nat.le_of_ble_eq_true rfl⟩) (by decide) (wX7_X5_2_pl k a _) rfl rfl rfl hl rfl rfl (Nat.le_of_ble_eq_true rfl) dX7_runTo_37 ⟨Nat.le_refl 0, Nat.le_refl 0⟩ ?_
        refine lv_goto (tgt := 45) hx hb dX7_runTo_40 (by decide) ?_
        exact b_X7_runTo_b45 l D k a A C0 R _ _ ih σ v1 v2 (P_X5_timeOf (fun j => σ (2 + j)) (σ 16 0)) hs hR H locs ls hW (lv_sub hl [0, 1, 2] rfl)
set_option maxHeartbeats 400000 in
set_option maxRecDepth 100000 in
theorem b_X7_runTo_b0 {p : Program} {e : Env} {s : State} {m : MethodId} {args : Array Value} {below : List Frame} {meth : Method} {c : Code} (l : Launch) (D : va_G) (k : Nat → ClassId) (a : Nat → Nat) (A : Nat → Prop) (C0 : q_C p s m meth c args RX7 cX7_runTo 4 none wsX7_runTo D (tyL k) A) (R : T2) : ∀ (σ : T2) (v1 : Int32), S_X7_runTo_b0 σ v1 → P_X7_runTo_b0 σ v1 = R → ∀ (H : Heap) (locs : List Loc) (ls : Array Slot), q_W D A s.heap (wX7 k a σ) H locs → lv_has ls 4 [(0, .ref (a 0)), (1, .int v1)] → W p l e { frames := 4, cells := 0, slots := 0, locals := 110 } s m args below meth c H locs 0 0 (MQ below (va_Qv (fun u => u = R) (fun u => q_E D (tyL k) A (wX7 k a u)) A) args s 0 0 A) (F0 m 0 ls []) := by
  intro σ v1 hs hR H locs ls hW hl
  rw [P_X7_runTo_b0_e] at hR
  rw [S_X7_runTo_b0_e] at hs
  obtain ⟨hx, hb, hr, hml, hts, hown, hlocks, hK, hA⟩ := id C0
  refine lv_iconst (v := (0 : Int32)) hx hb dX7_runTo_0 (by decide) ?_
  refine lv_istore_n (lv' := [(2, .int (0 : Int32)), (0, .ref (a 0)), (1, .int v1)]) hx hb dX7_runTo_1 rfl hl (by decide) rfl (fun ls hl => ?_)
  exact b_X7_runTo_b2 l D k a A C0 R FU σ v1 (0 : Int32) hs hR H locs ls hW (lv_sub hl [1, 2, 0] rfl)
set_option maxHeartbeats 400000 in
set_option maxRecDepth 100000 in
theorem m_X7_runTo (l : Launch) (D : va_G) (k : Nat → ClassId) (a : Nat → Nat) (sz : Nat) (σ : T2) (p0 : Int32) (hs : S_X7_runTo σ p0) : Met l yX7_runTo wsX7_runTo { frames := 4, cells := 0, slots := 0, locals := 110 } (va_Pc [.ref (a 0), .int p0] (q_B D (tyL k) (wX7 k a σ) sz)) (va_Qv (fun u => u = P_X7_runTo σ p0) (fun u => q_E D (tyL k) (va_A (wX7 k a σ) sz) (wX7 k a u)) (va_A (wX7 k a σ) sz)) 0 0 (va_A (wX7 k a σ) sz) := by
  refine q_met [.ref (a 0), .int p0] (wX7 k a σ) sz (cc := cX7_runTo) (maxL := 4) (ret := none) (by decide) rfl (Nat.le_of_ble_eq_true rfl) ?_
  intro p e s m args below meth c ls hsz C0 hW hl hin
  subst hsz
  exact b_X7_runTo_b0 l D k a _ C0 _ σ p0 hs rfl s.heap [] ls hW (lv_sub hl [0, 1] rfl)
