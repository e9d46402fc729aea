def fX0 (a : Nat → Nat) (f : T1) : List Value := [.ref (a 1), .ref (a 2), .ref (a 3), .ref (a 4), .int (f 4)]
theorem fX0_s4 (a : Nat → Nat) (f : T1) (v : Int32) : (fX0 a f).set 4 (.int v) = fX0 a (upd f 4 v) := rfl
def wX0 (k : Nat → ClassId) (a : Nat → Nat) (σ : T2) : va_W := [(a 0, .inr (0, fX0 a (σ 0))), (a 1, .inl (k 0, 64, .inl (σ 1))), (a 2, .inl (k 0, 64, .inl (σ 2))), (a 3, .inl (k 0, 64, .inl (σ 3))), (a 4, .inl (k 0, 64, .inl (σ 4)))]
theorem wX0_s0 (k : Nat → ClassId) (a : Nat → Nat) (σ : T2) (g : T1) : (wX0 k a σ).set 0 (a 0, .inr (0, fX0 a g)) = wX0 k a (u2 σ 0 g) := rfl
theorem wX0_s1 (k : Nat → ClassId) (a : Nat → Nat) (σ : T2) (g : T1) : (wX0 k a σ).set 1 (a 1, .inl (k 0, 64, .inl g)) = wX0 k a (u2 σ 1 g) := rfl
theorem wX0_s2 (k : Nat → ClassId) (a : Nat → Nat) (σ : T2) (g : T1) : (wX0 k a σ).set 2 (a 2, .inl (k 0, 64, .inl g)) = wX0 k a (u2 σ 2 g) := rfl
theorem wX0_s3 (k : Nat → ClassId) (a : Nat → Nat) (σ : T2) (g : T1) : (wX0 k a σ).set 3 (a 3, .inl (k 0, 64, .inl g)) = wX0 k a (u2 σ 3 g) := rfl
theorem wX0_s4 (k : Nat → ClassId) (a : Nat → Nat) (σ : T2) (g : T1) : (wX0 k a σ).set 4 (a 4, .inl (k 0, 64, .inl g)) = wX0 k a (u2 σ 4 g) := rfl
theorem wX0_pl (k : Nat → ClassId) (a : Nat → Nat) (σ : T2) : ([0, 1, 2, 3, 4] : List Nat).map (fun i => (wX0 k a σ)[i]?) = (wX0 k a σ).map some := rfl
theorem wX0_fst (k : Nat → ClassId) (a : Nat → Nat) (σ τ : T2) : (wX0 k a τ).map Prod.fst = (wX0 k a σ).map Prod.fst := rfl
theorem wX0_put (k : Nat → ClassId) (a : Nat → Nat) (σ τ : T2) : q_put (wX0 k a σ) [0, 1, 2, 3, 4] (wX0 k a τ) = wX0 k a τ := rfl
theorem wX0_rec (k : Nat → ClassId) (a : Nat → Nat) (σ : T2) : (wX0 k a σ)[0]? = some (a 0, .inr (0, fX0 a (σ 0))) := rfl
def fX1 (a : Nat → Nat) (f : T1) : List Value := [.int (f 0), .int (f 1), .int (f 2), .int (f 3), .int (f 4), .int (f 5), .int (f 6)]
theorem fX1_s0 (a : Nat → Nat) (f : T1) (v : Int32) : (fX1 a f).set 0 (.int v) = fX1 a (upd f 0 v) := rfl
theorem fX1_s1 (a : Nat → Nat) (f : T1) (v : Int32) : (fX1 a f).set 1 (.int v) = fX1 a (upd f 1 v) := rfl
theorem fX1_s2 (a : Nat → Nat) (f : T1) (v : Int32) : (fX1 a f).set 2 (.int v) = fX1 a (upd f 2 v) := rfl
theorem fX1_s3 (a : Nat → Nat) (f : T1) (v : Int32) : (fX1 a f).set 3 (.int v) = fX1 a (upd f 3 v) := rfl
theorem fX1_s4 (a : Nat → Nat) (f : T1) (v : Int32) : (fX1 a f).set 4 (.int v) = fX1 a (upd f 4 v) := rfl
theorem fX1_s5 (a : Nat → Nat) (f : T1) (v : Int32) : (fX1 a f).set 5 (.int v) = fX1 a (upd f 5 v) := rfl
theorem fX1_s6 (a : Nat → Nat) (f : T1) (v : Int32) : (fX1 a f).set 6 (.int v) = fX1 a (upd f 6 v) := rfl
def wX1 (k : Nat → ClassId) (a : Nat → Nat) (σ : T2) : va_W := [(a 0, .inr (1, fX1 a (σ 0)))]
theorem wX1_s0 (k : Nat → ClassId) (a : Nat → Nat) (σ : T2) (g : T1) : (wX1 k a σ).set 0 (a 0, .inr (1, fX1 a g)) = wX1 k a (u2 σ 0 g) := rfl
theorem wX1_pl (k : Nat → ClassId) (a : Nat → Nat) (σ : T2) : ([0] : List Nat).map (fun i => (wX1 k a σ)[i]?) = (wX1 k a σ).map some := rfl
theorem wX1_fst (k : Nat → ClassId) (a : Nat → Nat) (σ τ : T2) : (wX1 k a τ).map Prod.fst = (wX1 k a σ).map Prod.fst := rfl
theorem wX1_put (k : Nat → ClassId) (a : Nat → Nat) (σ τ : T2) : q_put (wX1 k a σ) [0] (wX1 k a τ) = wX1 k a τ := rfl
theorem wX1_rec (k : Nat → ClassId) (a : Nat → Nat) (σ : T2) : (wX1 k a σ)[0]? = some (a 0, .inr (1, fX1 a (σ 0))) := rfl
def fX2 (a : Nat → Nat) (f : T1) : List Value := [.ref (a 1), .ref (a 2), .ref (a 3), .ref (a 4)]
def wX2 (k : Nat → ClassId) (a : Nat → Nat) (σ : T2) : va_W := [(a 0, .inr (2, fX2 a (σ 0))), (a 1, .inl (k 0, 64, .inl (σ 1))), (a 2, .inl (k 0, 64, .inl (σ 2))), (a 3, .inl (k 0, 64, .inl (σ 3))), (a 4, .inl (k 0, 64, .inl (σ 4)))]
theorem wX2_s0 (k : Nat → ClassId) (a : Nat → Nat) (σ : T2) (g : T1) : (wX2 k a σ).set 0 (a 0, .inr (2, fX2 a g)) = wX2 k a (u2 σ 0 g) := rfl
theorem wX2_s1 (k : Nat → ClassId) (a : Nat → Nat) (σ : T2) (g : T1) : (wX2 k a σ).set 1 (a 1, .inl (k 0, 64, .inl g)) = wX2 k a (u2 σ 1 g) := rfl
theorem wX2_s2 (k : Nat → ClassId) (a : Nat → Nat) (σ : T2) (g : T1) : (wX2 k a σ).set 2 (a 2, .inl (k 0, 64, .inl g)) = wX2 k a (u2 σ 2 g) := rfl
theorem wX2_s3 (k : Nat → ClassId) (a : Nat → Nat) (σ : T2) (g : T1) : (wX2 k a σ).set 3 (a 3, .inl (k 0, 64, .inl g)) = wX2 k a (u2 σ 3 g) := rfl
theorem wX2_s4 (k : Nat → ClassId) (a : Nat → Nat) (σ : T2) (g : T1) : (wX2 k a σ).set 4 (a 4, .inl (k 0, 64, .inl g)) = wX2 k a (u2 σ 4 g) := rfl
theorem wX2_pl (k : Nat → ClassId) (a : Nat → Nat) (σ : T2) : ([0, 1, 2, 3, 4] : List Nat).map (fun i => (wX2 k a σ)[i]?) = (wX2 k a σ).map some := rfl
theorem wX2_fst (k : Nat → ClassId) (a : Nat → Nat) (σ τ : T2) : (wX2 k a τ).map Prod.fst = (wX2 k a σ).map Prod.fst := rfl
theorem wX2_put (k : Nat → ClassId) (a : Nat → Nat) (σ τ : T2) : q_put (wX2 k a σ) [0, 1, 2, 3, 4] (wX2 k a τ) = wX2 k a τ := rfl
theorem wX2_rec (k : Nat → ClassId) (a : Nat → Nat) (σ : T2) : (wX2 k a σ)[0]? = some (a 0, .inr (2, fX2 a (σ 0))) := rfl
def fX4 (a : Nat → Nat) (f : T1) : List Value := [.ref (a 1), .int (f 1)]
theorem fX4_s1 (a : Nat → Nat) (f : T1) (v : Int32) : (fX4 a f).set 1 (.int v) = fX4 a (upd f 1 v) := rfl
def wX4 (k : Nat → ClassId) (a : Nat → Nat) (σ : T2) : va_W := [(a 0, .inr (4, fX4 a (σ 0))), (a 1, .inl (k 2, 80, .inl (σ 1)))]
theorem wX4_s0 (k : Nat → ClassId) (a : Nat → Nat) (σ : T2) (g : T1) : (wX4 k a σ).set 0 (a 0, .inr (4, fX4 a g)) = wX4 k a (u2 σ 0 g) := rfl
theorem wX4_s1 (k : Nat → ClassId) (a : Nat → Nat) (σ : T2) (g : T1) : (wX4 k a σ).set 1 (a 1, .inl (k 2, 80, .inl g)) = wX4 k a (u2 σ 1 g) := rfl
theorem wX4_pl (k : Nat → ClassId) (a : Nat → Nat) (σ : T2) : ([0, 1] : List Nat).map (fun i => (wX4 k a σ)[i]?) = (wX4 k a σ).map some := rfl
theorem wX4_fst (k : Nat → ClassId) (a : Nat → Nat) (σ τ : T2) : (wX4 k a τ).map Prod.fst = (wX4 k a σ).map Prod.fst := rfl
theorem wX4_put (k : Nat → ClassId) (a : Nat → Nat) (σ τ : T2) : q_put (wX4 k a σ) [0, 1] (wX4 k a τ) = wX4 k a τ := rfl
theorem wX4_rec (k : Nat → ClassId) (a : Nat → Nat) (σ : T2) : (wX4 k a σ)[0]? = some (a 0, .inr (4, fX4 a (σ 0))) := rfl
def fX5 (a : Nat → Nat) (f : T1) : List Value := [.ref (a 1), .ref (a 2), .int (f 2)]
theorem fX5_s2 (a : Nat → Nat) (f : T1) (v : Int32) : (fX5 a f).set 2 (.int v) = fX5 a (upd f 2 v) := rfl
def wX5 (k : Nat → ClassId) (a : Nat → Nat) (σ : T2) : va_W := [(a 0, .inr (5, fX5 a (σ 0))), (a 1, .inl (k 0, 64, .inl (σ 1))), (a 2, .inl (k 0, 64, .inl (σ 2)))]
theorem wX5_s0 (k : Nat → ClassId) (a : Nat → Nat) (σ : T2) (g : T1) : (wX5 k a σ).set 0 (a 0, .inr (5, fX5 a g)) = wX5 k a (u2 σ 0 g) := rfl
theorem wX5_s1 (k : Nat → ClassId) (a : Nat → Nat) (σ : T2) (g : T1) : (wX5 k a σ).set 1 (a 1, .inl (k 0, 64, .inl g)) = wX5 k a (u2 σ 1 g) := rfl
theorem wX5_s2 (k : Nat → ClassId) (a : Nat → Nat) (σ : T2) (g : T1) : (wX5 k a σ).set 2 (a 2, .inl (k 0, 64, .inl g)) = wX5 k a (u2 σ 2 g) := rfl
theorem wX5_pl (k : Nat → ClassId) (a : Nat → Nat) (σ : T2) : ([0, 1, 2] : List Nat).map (fun i => (wX5 k a σ)[i]?) = (wX5 k a σ).map some := rfl
theorem wX5_fst (k : Nat → ClassId) (a : Nat → Nat) (σ τ : T2) : (wX5 k a τ).map Prod.fst = (wX5 k a σ).map Prod.fst := rfl
theorem wX5_put (k : Nat → ClassId) (a : Nat → Nat) (σ τ : T2) : q_put (wX5 k a σ) [0, 1, 2] (wX5 k a τ) = wX5 k a τ := rfl
theorem wX5_rec (k : Nat → ClassId) (a : Nat → Nat) (σ : T2) : (wX5 k a σ)[0]? = some (a 0, .inr (5, fX5 a (σ 0))) := rfl
def fX6 (a : Nat → Nat) (f : T1) : List Value := [.ref (a 1), .ref (a 2), .int (f 2), .int (f 3), .int (f 4), .int (f 5), .int (f 6)]
theorem fX6_s2 (a : Nat → Nat) (f : T1) (v : Int32) : (fX6 a f).set 2 (.int v) = fX6 a (upd f 2 v) := rfl
theorem fX6_s3 (a : Nat → Nat) (f : T1) (v : Int32) : (fX6 a f).set 3 (.int v) = fX6 a (upd f 3 v) := rfl
theorem fX6_s4 (a : Nat → Nat) (f : T1) (v : Int32) : (fX6 a f).set 4 (.int v) = fX6 a (upd f 4 v) := rfl
theorem fX6_s5 (a : Nat → Nat) (f : T1) (v : Int32) : (fX6 a f).set 5 (.int v) = fX6 a (upd f 5 v) := rfl
theorem fX6_s6 (a : Nat → Nat) (f : T1) (v : Int32) : (fX6 a f).set 6 (.int v) = fX6 a (upd f 6 v) := rfl
def wX6 (k : Nat → ClassId) (a : Nat → Nat) (σ : T2) : va_W := [(a 0, .inr (6, fX6 a (σ 0))), (a 1, .inl (k 0, 64, .inl (σ 1))), (a 2, .inl (k 0, 64, .inl (σ 2)))]
theorem wX6_s0 (k : Nat → ClassId) (a : Nat → Nat) (σ : T2) (g : T1) : (wX6 k a σ).set 0 (a 0, .inr (6, fX6 a g)) = wX6 k a (u2 σ 0 g) := rfl
theorem wX6_s1 (k : Nat → ClassId) (a : Nat → Nat) (σ : T2) (g : T1) : (wX6 k a σ).set 1 (a 1, .inl (k 0, 64, .inl g)) = wX6 k a (u2 σ 1 g) := rfl
theorem wX6_s2 (k : Nat → ClassId) (a : Nat → Nat) (σ : T2) (g : T1) : (wX6 k a σ).set 2 (a 2, .inl (k 0, 64, .inl g)) = wX6 k a (u2 σ 2 g) := rfl
theorem wX6_pl (k : Nat → ClassId) (a : Nat → Nat) (σ : T2) : ([0, 1, 2] : List Nat).map (fun i => (wX6 k a σ)[i]?) = (wX6 k a σ).map some := rfl
theorem wX6_fst (k : Nat → ClassId) (a : Nat → Nat) (σ τ : T2) : (wX6 k a τ).map Prod.fst = (wX6 k a σ).map Prod.fst := rfl
theorem wX6_put (k : Nat → ClassId) (a : Nat → Nat) (σ τ : T2) : q_put (wX6 k a σ) [0, 1, 2] (wX6 k a τ) = wX6 k a τ := rfl
theorem wX6_rec (k : Nat → ClassId) (a : Nat → Nat) (σ : T2) : (wX6 k a σ)[0]? = some (a 0, .inr (6, fX6 a (σ 0))) := rfl
def fX8 (a : Nat → Nat) (f : T1) : List Value := [.int (f 0), .int (f 1), .int (f 2), .int (f 3), .int (f 4), .int (f 5), .int (f 6), .int (f 7), .int (f 8), .int (f 9)]
theorem fX8_s0 (a : Nat → Nat) (f : T1) (v : Int32) : (fX8 a f).set 0 (.int v) = fX8 a (upd f 0 v) := rfl
theorem fX8_s1 (a : Nat → Nat) (f : T1) (v : Int32) : (fX8 a f).set 1 (.int v) = fX8 a (upd f 1 v) := rfl
theorem fX8_s2 (a : Nat → Nat) (f : T1) (v : Int32) : (fX8 a f).set 2 (.int v) = fX8 a (upd f 2 v) := rfl
theorem fX8_s3 (a : Nat → Nat) (f : T1) (v : Int32) : (fX8 a f).set 3 (.int v) = fX8 a (upd f 3 v) := rfl
theorem fX8_s4 (a : Nat → Nat) (f : T1) (v : Int32) : (fX8 a f).set 4 (.int v) = fX8 a (upd f 4 v) := rfl
theorem fX8_s5 (a : Nat → Nat) (f : T1) (v : Int32) : (fX8 a f).set 5 (.int v) = fX8 a (upd f 5 v) := rfl
theorem fX8_s6 (a : Nat → Nat) (f : T1) (v : Int32) : (fX8 a f).set 6 (.int v) = fX8 a (upd f 6 v) := rfl
theorem fX8_s7 (a : Nat → Nat) (f : T1) (v : Int32) : (fX8 a f).set 7 (.int v) = fX8 a (upd f 7 v) := rfl
theorem fX8_s8 (a : Nat → Nat) (f : T1) (v : Int32) : (fX8 a f).set 8 (.int v) = fX8 a (upd f 8 v) := rfl
theorem fX8_s9 (a : Nat → Nat) (f : T1) (v : Int32) : (fX8 a f).set 9 (.int v) = fX8 a (upd f 9 v) := rfl
def wX8 (k : Nat → ClassId) (a : Nat → Nat) (σ : T2) : va_W := [(a 0, .inr (8, fX8 a (σ 0)))]
theorem wX8_s0 (k : Nat → ClassId) (a : Nat → Nat) (σ : T2) (g : T1) : (wX8 k a σ).set 0 (a 0, .inr (8, fX8 a g)) = wX8 k a (u2 σ 0 g) := rfl
theorem wX8_pl (k : Nat → ClassId) (a : Nat → Nat) (σ : T2) : ([0] : List Nat).map (fun i => (wX8 k a σ)[i]?) = (wX8 k a σ).map some := rfl
theorem wX8_fst (k : Nat → ClassId) (a : Nat → Nat) (σ τ : T2) : (wX8 k a τ).map Prod.fst = (wX8 k a σ).map Prod.fst := rfl
theorem wX8_put (k : Nat → ClassId) (a : Nat → Nat) (σ τ : T2) : q_put (wX8 k a σ) [0] (wX8 k a τ) = wX8 k a τ := rfl
theorem wX8_rec (k : Nat → ClassId) (a : Nat → Nat) (σ : T2) : (wX8 k a σ)[0]? = some (a 0, .inr (8, fX8 a (σ 0))) := rfl
def fX7 (a : Nat → Nat) (f : T1) : List Value := [.ref (a 1), .ref (a 2), .ref (a 5), .ref (a 10), .ref (a 15), .ref (a 16), .int (f 6)]
theorem fX7_s6 (a : Nat → Nat) (f : T1) (v : Int32) : (fX7 a f).set 6 (.int v) = fX7 a (upd f 6 v) := rfl
def wX7 (k : Nat → ClassId) (a : Nat → Nat) (σ : T2) : va_W := [(a 0, .inr (7, fX7 a (σ 0))), (a 1, .inl (k 0, 8, .inl (σ 1))), (a 2, .inr (5, fX5 (fun j => a (2 + j)) (σ 2))), (a 3, .inl (k 0, 64, .inl (σ 3))), (a 4, .inl (k 0, 64, .inl (σ 4))), (a 5, .inr (2, fX2 (fun j => a (5 + j)) (σ 5))), (a 6, .inl (k 0, 64, .inl (σ 6))), (a 7, .inl (k 0, 64, .inl (σ 7))), (a 8, .inl (k 0, 64, .inl (σ 8))), (a 9, .inl (k 0, 64, .inl (σ 9))), (a 10, .inr (0, fX0 (fun j => a (10 + j)) (σ 10))), (a 11, .inl (k 0, 64, .inl (σ 11))), (a 12, .inl (k 0, 64, .inl (σ 12))), (a 13, .inl (k 0, 64, .inl (σ 13))), (a 14, .inl (k 0, 64, .inl (σ 14))), (a 15, .inr (1, fX1 (fun j => a (15 + j)) (σ 15))), (a 16, .inr (8, fX8 (fun j => a (16 + j)) (σ 16)))]
theorem wX7_s0 (k : Nat → ClassId) (a : Nat → Nat) (σ : T2) (g : T1) : (wX7 k a σ).set 0 (a 0, .inr (7, fX7 a g)) = wX7 k a (u2 σ 0 g) := rfl
theorem wX7_s1 (k : Nat → ClassId) (a : Nat → Nat) (σ : T2) (g : T1) : (wX7 k a σ).set 1 (a 1, .inl (k 0, 8, .inl g)) = wX7 k a (u2 σ 1 g) := rfl
theorem wX7_s2 (k : Nat → ClassId) (a : Nat → Nat) (σ : T2) (g : T1) : (wX7 k a σ).set 2 (a 2, .inr (5, fX5 (fun j => a (2 + j)) g)) = wX7 k a (u2 σ 2 g) := rfl
theorem wX7_s3 (k : Nat → ClassId) (a : Nat → Nat) (σ : T2) (g : T1) : (wX7 k a σ).set 3 (a 3, .inl (k 0, 64, .inl g)) = wX7 k a (u2 σ 3 g) := rfl
theorem wX7_s4 (k : Nat → ClassId) (a : Nat → Nat) (σ : T2) (g : T1) : (wX7 k a σ).set 4 (a 4, .inl (k 0, 64, .inl g)) = wX7 k a (u2 σ 4 g) := rfl
theorem wX7_s5 (k : Nat → ClassId) (a : Nat → Nat) (σ : T2) (g : T1) : (wX7 k a σ).set 5 (a 5, .inr (2, fX2 (fun j => a (5 + j)) g)) = wX7 k a (u2 σ 5 g) := rfl
theorem wX7_s6 (k : Nat → ClassId) (a : Nat → Nat) (σ : T2) (g : T1) : (wX7 k a σ).set 6 (a 6, .inl (k 0, 64, .inl g)) = wX7 k a (u2 σ 6 g) := rfl
theorem wX7_s7 (k : Nat → ClassId) (a : Nat → Nat) (σ : T2) (g : T1) : (wX7 k a σ).set 7 (a 7, .inl (k 0, 64, .inl g)) = wX7 k a (u2 σ 7 g) := rfl
theorem wX7_s8 (k : Nat → ClassId) (a : Nat → Nat) (σ : T2) (g : T1) : (wX7 k a σ).set 8 (a 8, .inl (k 0, 64, .inl g)) = wX7 k a (u2 σ 8 g) := rfl
theorem wX7_s9 (k : Nat → ClassId) (a : Nat → Nat) (σ : T2) (g : T1) : (wX7 k a σ).set 9 (a 9, .inl (k 0, 64, .inl g)) = wX7 k a (u2 σ 9 g) := rfl
theorem wX7_s10 (k : Nat → ClassId) (a : Nat → Nat) (σ : T2) (g : T1) : (wX7 k a σ).set 10 (a 10, .inr (0, fX0 (fun j => a (10 + j)) g)) = wX7 k a (u2 σ 10 g) := rfl
theorem wX7_s11 (k : Nat → ClassId) (a : Nat → Nat) (σ : T2) (g : T1) : (wX7 k a σ).set 11 (a 11, .inl (k 0, 64, .inl g)) = wX7 k a (u2 σ 11 g) := rfl
theorem wX7_s12 (k : Nat → ClassId) (a : Nat → Nat) (σ : T2) (g : T1) : (wX7 k a σ).set 12 (a 12, .inl (k 0, 64, .inl g)) = wX7 k a (u2 σ 12 g) := rfl
theorem wX7_s13 (k : Nat → ClassId) (a : Nat → Nat) (σ : T2) (g : T1) : (wX7 k a σ).set 13 (a 13, .inl (k 0, 64, .inl g)) = wX7 k a (u2 σ 13 g) := rfl
theorem wX7_s14 (k : Nat → ClassId) (a : Nat → Nat) (σ : T2) (g : T1) : (wX7 k a σ).set 14 (a 14, .inl (k 0, 64, .inl g)) = wX7 k a (u2 σ 14 g) := rfl
theorem wX7_s15 (k : Nat → ClassId) (a : Nat → Nat) (σ : T2) (g : T1) : (wX7 k a σ).set 15 (a 15, .inr (1, fX1 (fun j => a (15 + j)) g)) = wX7 k a (u2 σ 15 g) := rfl
theorem wX7_s16 (k : Nat → ClassId) (a : Nat → Nat) (σ : T2) (g : T1) : (wX7 k a σ).set 16 (a 16, .inr (8, fX8 (fun j => a (16 + j)) g)) = wX7 k a (u2 σ 16 g) := rfl
theorem wX7_pl (k : Nat → ClassId) (a : Nat → Nat) (σ : T2) : ([0, 1, 2, 3, 4, 5, 6, 7, 8, 9, 10, 11, 12, 13, 14, 15, 16] : List Nat).map (fun i => (wX7 k a σ)[i]?) = (wX7 k a σ).map some := rfl
theorem wX7_fst (k : Nat → ClassId) (a : Nat → Nat) (σ τ : T2) : (wX7 k a τ).map Prod.fst = (wX7 k a σ).map Prod.fst := rfl
theorem wX7_put (k : Nat → ClassId) (a : Nat → Nat) (σ τ : T2) : q_put (wX7 k a σ) [0, 1, 2, 3, 4, 5, 6, 7, 8, 9, 10, 11, 12, 13, 14, 15, 16] (wX7 k a τ) = wX7 k a τ := rfl
theorem wX7_rec (k : Nat → ClassId) (a : Nat → Nat) (σ : T2) : (wX7 k a σ)[0]? = some (a 0, .inr (7, fX7 a (σ 0))) := rfl
def fX10 (a : Nat → Nat) (f : T1) : List Value := [.ref (a 1), .ref (a 2), .int (f 2), .int (f 3), .ref (a 3), .ref (a 4), .ref (a 5), .int (f 7), .ref (a 6), .int (f 9), .int (f 10), .int (f 11), .int (f 12), .int (f 13), .int (f 14), .int (f 15), .ref (a 7), .ref (a 8)]
theorem fX10_s2 (a : Nat → Nat) (f : T1) (v : Int32) : (fX10 a f).set 2 (.int v) = fX10 a (upd f 2 v) := rfl
theorem fX10_s3 (a : Nat → Nat) (f : T1) (v : Int32) : (fX10 a f).set 3 (.int v) = fX10 a (upd f 3 v) := rfl
theorem fX10_s7 (a : Nat → Nat) (f : T1) (v : Int32) : (fX10 a f).set 7 (.int v) = fX10 a (upd f 7 v) := rfl
theorem fX10_s9 (a : Nat → Nat) (f : T1) (v : Int32) : (fX10 a f).set 9 (.int v) = fX10 a (upd f 9 v) := rfl
theorem fX10_s10 (a : Nat → Nat) (f : T1) (v : Int32) : (fX10 a f).set 10 (.int v) = fX10 a (upd f 10 v) := rfl
theorem fX10_s11 (a : Nat → Nat) (f : T1) (v : Int32) : (fX10 a f).set 11 (.int v) = fX10 a (upd f 11 v) := rfl
theorem fX10_s12 (a : Nat → Nat) (f : T1) (v : Int32) : (fX10 a f).set 12 (.int v) = fX10 a (upd f 12 v) := rfl
theorem fX10_s13 (a : Nat → Nat) (f : T1) (v : Int32) : (fX10 a f).set 13 (.int v) = fX10 a (upd f 13 v) := rfl
theorem fX10_s14 (a : Nat → Nat) (f : T1) (v : Int32) : (fX10 a f).set 14 (.int v) = fX10 a (upd f 14 v) := rfl
theorem fX10_s15 (a : Nat → Nat) (f : T1) (v : Int32) : (fX10 a f).set 15 (.int v) = fX10 a (upd f 15 v) := rfl
def wX10 (k : Nat → ClassId) (a : Nat → Nat) (σ : T2) : va_W := [(a 0, .inr (10, fX10 a (σ 0))), (a 1, .inl (k 0, 672, .inl (σ 1))), (a 2, .inl (k 0, 4032, .inl (σ 2))), (a 3, .inl (k 0, 1344, .inl (σ 3))), (a 4, .inl (k 1, 2, .inl (σ 4))), (a 5, .inl (k 0, 672, .inl (σ 5))), (a 6, .inl (k 0, 80, .inl (σ 6))), (a 7, .inl (k 0, 65, .inl (σ 7))), (a 8, .inl (k 0, 65, .inl (σ 8)))]
theorem wX10_s0 (k : Nat → ClassId) (a : Nat → Nat) (σ : T2) (g : T1) : (wX10 k a σ).set 0 (a 0, .inr (10, fX10 a g)) = wX10 k a (u2 σ 0 g) := rfl
theorem wX10_s1 (k : Nat → ClassId) (a : Nat → Nat) (σ : T2) (g : T1) : (wX10 k a σ).set 1 (a 1, .inl (k 0, 672, .inl g)) = wX10 k a (u2 σ 1 g) := rfl
theorem wX10_s2 (k : Nat → ClassId) (a : Nat → Nat) (σ : T2) (g : T1) : (wX10 k a σ).set 2 (a 2, .inl (k 0, 4032, .inl g)) = wX10 k a (u2 σ 2 g) := rfl
theorem wX10_s3 (k : Nat → ClassId) (a : Nat → Nat) (σ : T2) (g : T1) : (wX10 k a σ).set 3 (a 3, .inl (k 0, 1344, .inl g)) = wX10 k a (u2 σ 3 g) := rfl
theorem wX10_s4 (k : Nat → ClassId) (a : Nat → Nat) (σ : T2) (g : T1) : (wX10 k a σ).set 4 (a 4, .inl (k 1, 2, .inl g)) = wX10 k a (u2 σ 4 g) := rfl
theorem wX10_s5 (k : Nat → ClassId) (a : Nat → Nat) (σ : T2) (g : T1) : (wX10 k a σ).set 5 (a 5, .inl (k 0, 672, .inl g)) = wX10 k a (u2 σ 5 g) := rfl
theorem wX10_s6 (k : Nat → ClassId) (a : Nat → Nat) (σ : T2) (g : T1) : (wX10 k a σ).set 6 (a 6, .inl (k 0, 80, .inl g)) = wX10 k a (u2 σ 6 g) := rfl
theorem wX10_s7 (k : Nat → ClassId) (a : Nat → Nat) (σ : T2) (g : T1) : (wX10 k a σ).set 7 (a 7, .inl (k 0, 65, .inl g)) = wX10 k a (u2 σ 7 g) := rfl
theorem wX10_s8 (k : Nat → ClassId) (a : Nat → Nat) (σ : T2) (g : T1) : (wX10 k a σ).set 8 (a 8, .inl (k 0, 65, .inl g)) = wX10 k a (u2 σ 8 g) := rfl
theorem wX10_pl (k : Nat → ClassId) (a : Nat → Nat) (σ : T2) : ([0, 1, 2, 3, 4, 5, 6, 7, 8] : List Nat).map (fun i => (wX10 k a σ)[i]?) = (wX10 k a σ).map some := rfl
theorem wX10_fst (k : Nat → ClassId) (a : Nat → Nat) (σ τ : T2) : (wX10 k a τ).map Prod.fst = (wX10 k a σ).map Prod.fst := rfl
theorem wX10_put (k : Nat → ClassId) (a : Nat → Nat) (σ τ : T2) : q_put (wX10 k a σ) [0, 1, 2, 3, 4, 5, 6, 7, 8] (wX10 k a τ) = wX10 k a τ := rfl
theorem wX10_rec (k : Nat → ClassId) (a : Nat → Nat) (σ : T2) : (wX10 k a σ)[0]? = some (a 0, .inr (10, fX10 a (σ 0))) := rfl
