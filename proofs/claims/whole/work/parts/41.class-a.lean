def fX0 (a : Nat → Nat) (f : T1) : List Value := [.ref (a 1), .ref (a 2), .ref (a 3), .ref (a 4), .int (f 4)]
theorem fX0_s4 (a : Nat → Nat) (f : T1) (v : Int32) : (fX0 a f).set 4 (.int v) = fX0 a (upd f 4 v) := rfl
def fX1 (a : Nat → Nat) (f : T1) : List Value := [.int (f 0), .int (f 1), .int (f 2), .int (f 3), .int (f 4), .int (f 5), .int (f 6)]
theorem fX1_s0 (a : Nat → Nat) (f : T1) (v : Int32) : (fX1 a f).set 0 (.int v) = fX1 a (upd f 0 v) := rfl
theorem fX1_s1 (a : Nat → Nat) (f : T1) (v : Int32) : (fX1 a f).set 1 (.int v) = fX1 a (upd f 1 v) := rfl
theorem fX1_s2 (a : Nat → Nat) (f : T1) (v : Int32) : (fX1 a f).set 2 (.int v) = fX1 a (upd f 2 v) := rfl
theorem fX1_s3 (a : Nat → Nat) (f : T1) (v : Int32) : (fX1 a f).set 3 (.int v) = fX1 a (upd f 3 v) := rfl
theorem fX1_s4 (a : Nat → Nat) (f : T1) (v : Int32) : (fX1 a f).set 4 (.int v) = fX1 a (upd f 4 v) := rfl
theorem fX1_s5 (a : Nat → Nat) (f : T1) (v : Int32) : (fX1 a f).set 5 (.int v) = fX1 a (upd f 5 v) := rfl
theorem fX1_s6 (a : Nat → Nat) (f : T1) (v : Int32) : (fX1 a f).set 6 (.int v) = fX1 a (upd f 6 v) := rfl
def fX2 (a : Nat → Nat) (f : T1) : List Value := [.ref (a 1), .ref (a 2), .ref (a 3), .ref (a 4)]
def fX4 (a : Nat → Nat) (f : T1) : List Value := [.ref (a 1), .int (f 1)]
theorem fX4_s1 (a : Nat → Nat) (f : T1) (v : Int32) : (fX4 a f).set 1 (.int v) = fX4 a (upd f 1 v) := rfl
def fX8 (a : Nat → Nat) (f : T1) : List Value := [.int (f 0), .int (f 1), .int (f 2), .int (f 3), .int (f 4), .int (f 5), .int (f 6), .int (f 7), .int (f 8), .int (f 9)]
theorem fX8_s0 (a : Nat → Nat) (f : T1) (v : Int32) : (fX8 a f).set 0 (.int v) = fX8 a (upd f 0 v) := rfl
theorem fX8_s1 (a : Nat → Nat) (f : T1) (v : Int32) : (fX8 a f).set 1 (.int v) = fX8 a (upd f 1 v) := rfl
theorem fX8_s2 (a : Nat → Nat) (f : T1) (v : Int32) : (fX8 a f).set 2 (.int v) = fX8 a (upd f 2 v) := rfl
theorem fX8_s3 (a : Nat → Nat) (f : T1) (v : Int32) : (fX8 a f).set 3 (.int v) = fX8 a (upd f 3 v) := rfl
theorem fX8_s4 (a : Nat → Nat) (f : T1) (v : Int32) : (fX8 a f).set 4 (.int v) = fX8 a (upd f 4 v) := rfl
theorem fX8_s5 (a : Nat → Nat) (f : T1) (v : Int32) : (fX8 a f).set 5 (.int v) = fX8 a (upd f 5 v) := rfl
theorem fX8_s6 (a : Nat → Nat) (f : T1) (v : Int32) : (fX8 a f).set 6 (.int v) = fX8 a (upd f 6 v) := rfl
theorem fX8_s7 (a : Nat → Nat) (f : T1) (v : Int32) : (fX8 a f).set 7 (.int v) = fX8 a (upd f 7 v) := rfl
theorem fX8_s8 (a : Nat → Nat) (f : T1) (v : Int32) : (fX8 a f).set 8 (.int v) = fX8 a (upd f 8 v) := rfl
theorem fX8_s9 (a : Nat → Nat) (f : T1) (v : Int32) : (fX8 a f).set 9 (.int v) = fX8 a (upd f 9 v) := rfl
def fX5 (a : Nat → Nat) (f : T1) : List Value := [.ref (a 1), .ref (a 2), .int (f 2)]
theorem fX5_s2 (a : Nat → Nat) (f : T1) (v : Int32) : (fX5 a f).set 2 (.int v) = fX5 a (upd f 2 v) := rfl
def fX6 (a : Nat → Nat) (f : T1) : List Value := [.ref (a 1), .ref (a 2), .int (f 2), .int (f 3), .int (f 4), .int (f 5), .int (f 6)]
theorem fX6_s2 (a : Nat → Nat) (f : T1) (v : Int32) : (fX6 a f).set 2 (.int v) = fX6 a (upd f 2 v) := rfl
theorem fX6_s3 (a : Nat → Nat) (f : T1) (v : Int32) : (fX6 a f).set 3 (.int v) = fX6 a (upd f 3 v) := rfl
theorem fX6_s4 (a : Nat → Nat) (f : T1) (v : Int32) : (fX6 a f).set 4 (.int v) = fX6 a (upd f 4 v) := rfl
theorem fX6_s5 (a : Nat → Nat) (f : T1) (v : Int32) : (fX6 a f).set 5 (.int v) = fX6 a (upd f 5 v) := rfl
theorem fX6_s6 (a : Nat → Nat) (f : T1) (v : Int32) : (fX6 a f).set 6 (.int v) = fX6 a (upd f 6 v) := rfl
def wX0 (k : Nat → ClassId) (a : Nat → Nat) (σ : T2) : va_W := [(a 0, .inr (0, fX0 a (σ 0))), (a 1, .inl (k 0, 64, .inl (σ 1))), (a 2, .inl (k 0, 64, .inl (σ 2))), (a 3, .inl (k 0, 64, .inl (σ 3))), (a 4, .inl (k 0, 64, .inl (σ 4)))]
theorem wX0_s0 (k : Nat → ClassId) (a : Nat → Nat) (σ : T2) (g : T1) : (wX0 k a σ).set 0 (a 0, .inr (0, fX0 a g)) = wX0 k a (u2 σ 0 g) := rfl
theorem wX0_s1 (k : Nat → ClassId) (a : Nat → Nat) (σ : T2) (g : T1) : (wX0 k a σ).set 1 (a 1, .inl (k 0, 64, .inl g)) = wX0 k a (u2 σ 1 g) := rfl
theorem wX0_s2 (k : Nat → ClassId) (a : Nat → Nat) (σ : T2) (g : T1) : (wX0 k a σ).set 2 (a 2, .inl (k 0, 64, .inl g)) = wX0 k a (u2 σ 2 g) := rfl
theorem wX0_s3 (k : Nat → ClassId) (a : Nat → Nat) (σ : T2) (g : T1) : (wX0 k a σ).set 3 (a 3, .inl (k 0, 64, .inl g)) = wX0 k a (u2 σ 3 g) := rfl
theorem wX0_s4 (k : Nat → ClassId) (a : Nat → Nat) (σ : T2) (g : T1) : (wX0 k a σ).set 4 (a 4, .inl (k 0, 64, .inl g)) = wX0 k a (u2 σ 4 g) := rfl
theorem wX0_pl (k : Nat → ClassId) (a : Nat → Nat) (σ : T2) : ([0, 1, 2, 3, 4] : List Nat).map (fun i => (wX0 k a σ)[i]?) = (wX0 k a σ).map some := rfl
theorem wX0_put (k : Nat → ClassId) (a : Nat → Nat) (σ τ : T2) : q_put (wX0 k a σ) [0, 1, 2, 3, 4] (wX0 k a τ) = wX0 k a τ := rfl
theorem wX0_fst (k : Nat → ClassId) (a : Nat → Nat) (σ τ : T2) : (wX0 k a τ).map Prod.fst = (wX0 k a σ).map Prod.fst := rfl
theorem wX0_rec (k : Nat → ClassId) (a : Nat → Nat) (σ : T2) : (wX0 k a σ)[0]? = some (a 0, .inr (0, fX0 a (σ 0))) := rfl
def wX0_X0 (k : Nat → ClassId) (a : Nat → Nat) (σ : T2) : va_W := [(a 0, .inr (0, fX0 a (σ 0))), (a 1, .inl (k 0, 64, .inl (σ 1))), (a 2, .inl (k 0, 64, .inl (σ 2))), (a 3, .inl (k 0, 64, .inl (σ 3))), (a 4, .inl (k 0, 64, .inl (σ 4))), (a 5, .inr (0, fX0 (fun j => a (5 + j)) (σ 5))), (a 6, .inl (k 0, 64, .inl (σ 6))), (a 7, .inl (k 0, 64, .inl (σ 7))), (a 8, .inl (k 0, 64, .inl (σ 8))), (a 9, .inl (k 0, 64, .inl (σ 9)))]
theorem wX0_X0_s0 (k : Nat → ClassId) (a : Nat → Nat) (σ : T2) (g : T1) : (wX0_X0 k a σ).set 0 (a 0, .inr (0, fX0 a g)) = wX0_X0 k a (u2 σ 0 g) := rfl
theorem wX0_X0_s1 (k : Nat → ClassId) (a : Nat → Nat) (σ : T2) (g : T1) : (wX0_X0 k a σ).set 1 (a 1, .inl (k 0, 64, .inl g)) = wX0_X0 k a (u2 σ 1 g) := rfl
theorem wX0_X0_s2 (k : Nat → ClassId) (a : Nat → Nat) (σ : T2) (g : T1) : (wX0_X0 k a σ).set 2 (a 2, .inl (k 0, 64, .inl g)) = wX0_X0 k a (u2 σ 2 g) := rfl
theorem wX0_X0_s3 (k : Nat → ClassId) (a : Nat → Nat) (σ : T2) (g : T1) : (wX0_X0 k a σ).set 3 (a 3, .inl (k 0, 64, .inl g)) = wX0_X0 k a (u2 σ 3 g) := rfl
theorem wX0_X0_s4 (k : Nat → ClassId) (a : Nat → Nat) (σ : T2) (g : T1) : (wX0_X0 k a σ).set 4 (a 4, .inl (k 0, 64, .inl g)) = wX0_X0 k a (u2 σ 4 g) := rfl
theorem wX0_X0_s5 (k : Nat → ClassId) (a : Nat → Nat) (σ : T2) (g : T1) : (wX0_X0 k a σ).set 5 (a 5, .inr (0, fX0 (fun j => a (5 + j)) g)) = wX0_X0 k a (u2 σ 5 g) := rfl
theorem wX0_X0_s6 (k : Nat → ClassId) (a : Nat → Nat) (σ : T2) (g : T1) : (wX0_X0 k a σ).set 6 (a 6, .inl (k 0, 64, .inl g)) = wX0_X0 k a (u2 σ 6 g) := rfl
theorem wX0_X0_s7 (k : Nat → ClassId) (a : Nat → Nat) (σ : T2) (g : T1) : (wX0_X0 k a σ).set 7 (a 7, .inl (k 0, 64, .inl g)) = wX0_X0 k a (u2 σ 7 g) := rfl
theorem wX0_X0_s8 (k : Nat → ClassId) (a : Nat → Nat) (σ : T2) (g : T1) : (wX0_X0 k a σ).set 8 (a 8, .inl (k 0, 64, .inl g)) = wX0_X0 k a (u2 σ 8 g) := rfl
theorem wX0_X0_s9 (k : Nat → ClassId) (a : Nat → Nat) (σ : T2) (g : T1) : (wX0_X0 k a σ).set 9 (a 9, .inl (k 0, 64, .inl g)) = wX0_X0 k a (u2 σ 9 g) := rfl
theorem wX0_X0_pl (k : Nat → ClassId) (a : Nat → Nat) (σ : T2) : ([0, 1, 2, 3, 4, 5, 6, 7, 8, 9] : List Nat).map (fun i => (wX0_X0 k a σ)[i]?) = (wX0_X0 k a σ).map some := rfl
theorem wX0_X0_put (k : Nat → ClassId) (a : Nat → Nat) (σ τ : T2) : q_put (wX0_X0 k a σ) [0, 1, 2, 3, 4, 5, 6, 7, 8, 9] (wX0_X0 k a τ) = wX0_X0 k a τ := rfl
theorem wX0_X0_fst (k : Nat → ClassId) (a : Nat → Nat) (σ τ : T2) : (wX0_X0 k a τ).map Prod.fst = (wX0_X0 k a σ).map Prod.fst := rfl
theorem wX0_X0_rec (k : Nat → ClassId) (a : Nat → Nat) (σ : T2) : (wX0_X0 k a σ)[0]? = some (a 0, .inr (0, fX0 a (σ 0))) := rfl
def wX1 (k : Nat → ClassId) (a : Nat → Nat) (σ : T2) : va_W := [(a 0, .inr (1, fX1 a (σ 0)))]
theorem wX1_s0 (k : Nat → ClassId) (a : Nat → Nat) (σ : T2) (g : T1) : (wX1 k a σ).set 0 (a 0, .inr (1, fX1 a g)) = wX1 k a (u2 σ 0 g) := rfl
theorem wX1_pl (k : Nat → ClassId) (a : Nat → Nat) (σ : T2) : ([0] : List Nat).map (fun i => (wX1 k a σ)[i]?) = (wX1 k a σ).map some := rfl
theorem wX1_put (k : Nat → ClassId) (a : Nat → Nat) (σ τ : T2) : q_put (wX1 k a σ) [0] (wX1 k a τ) = wX1 k a τ := rfl
theorem wX1_fst (k : Nat → ClassId) (a : Nat → Nat) (σ τ : T2) : (wX1 k a τ).map Prod.fst = (wX1 k a σ).map Prod.fst := rfl
theorem wX1_rec (k : Nat → ClassId) (a : Nat → Nat) (σ : T2) : (wX1 k a σ)[0]? = some (a 0, .inr (1, fX1 a (σ 0))) := rfl
def wX1_X1 (k : Nat → ClassId) (a : Nat → Nat) (σ : T2) : va_W := [(a 0, .inr (1, fX1 a (σ 0))), (a 1, .inr (1, fX1 (fun j => a (1 + j)) (σ 1)))]
theorem wX1_X1_s0 (k : Nat → ClassId) (a : Nat → Nat) (σ : T2) (g : T1) : (wX1_X1 k a σ).set 0 (a 0, .inr (1, fX1 a g)) = wX1_X1 k a (u2 σ 0 g) := rfl
theorem wX1_X1_s1 (k : Nat → ClassId) (a : Nat → Nat) (σ : T2) (g : T1) : (wX1_X1 k a σ).set 1 (a 1, .inr (1, fX1 (fun j => a (1 + j)) g)) = wX1_X1 k a (u2 σ 1 g) := rfl
theorem wX1_X1_pl (k : Nat → ClassId) (a : Nat → Nat) (σ : T2) : ([0, 1] : List Nat).map (fun i => (wX1_X1 k a σ)[i]?) = (wX1_X1 k a σ).map some := rfl
theorem wX1_X1_put (k : Nat → ClassId) (a : Nat → Nat) (σ τ : T2) : q_put (wX1_X1 k a σ) [0, 1] (wX1_X1 k a τ) = wX1_X1 k a τ := rfl
theorem wX1_X1_fst (k : Nat → ClassId) (a : Nat → Nat) (σ τ : T2) : (wX1_X1 k a τ).map Prod.fst = (wX1_X1 k a σ).map Prod.fst := rfl
theorem wX1_X1_rec (k : Nat → ClassId) (a : Nat → Nat) (σ : T2) : (wX1_X1 k a σ)[0]? = some (a 0, .inr (1, fX1 a (σ 0))) := rfl
def wX2 (k : Nat → ClassId) (a : Nat → Nat) (σ : T2) : va_W := [(a 0, .inr (2, fX2 a (σ 0))), (a 1, .inl (k 0, 64, .inl (σ 1))), (a 2, .inl (k 0, 64, .inl (σ 2))), (a 3, .inl (k 0, 64, .inl (σ 3))), (a 4, .inl (k 0, 64, .inl (σ 4)))]
theorem wX2_s0 (k : Nat → ClassId) (a : Nat → Nat) (σ : T2) (g : T1) : (wX2 k a σ).set 0 (a 0, .inr (2, fX2 a g)) = wX2 k a (u2 σ 0 g) := rfl
theorem wX2_s1 (k : Nat → ClassId) (a : Nat → Nat) (σ : T2) (g : T1) : (wX2 k a σ).set 1 (a 1, .inl (k 0, 64, .inl g)) = wX2 k a (u2 σ 1 g) := rfl
theorem wX2_s2 (k : Nat → ClassId) (a : Nat → Nat) (σ : T2) (g : T1) : (wX2 k a σ).set 2 (a 2, .inl (k 0, 64, .inl g)) = wX2 k a (u2 σ 2 g) := rfl
theorem wX2_s3 (k : Nat → ClassId) (a : Nat → Nat) (σ : T2) (g : T1) : (wX2 k a σ).set 3 (a 3, .inl (k 0, 64, .inl g)) = wX2 k a (u2 σ 3 g) := rfl
theorem wX2_s4 (k : Nat → ClassId) (a : Nat → Nat) (σ : T2) (g : T1) : (wX2 k a σ).set 4 (a 4, .inl (k 0, 64, .inl g)) = wX2 k a (u2 σ 4 g) := rfl
theorem wX2_pl (k : Nat → ClassId) (a : Nat → Nat) (σ : T2) : ([0, 1, 2, 3, 4] : List Nat).map (fun i => (wX2 k a σ)[i]?) = (wX2 k a σ).map some := rfl
theorem wX2_put (k : Nat → ClassId) (a : Nat → Nat) (σ τ : T2) : q_put (wX2 k a σ) [0, 1, 2, 3, 4] (wX2 k a τ) = wX2 k a τ := rfl
theorem wX2_fst (k : Nat → ClassId) (a : Nat → Nat) (σ τ : T2) : (wX2 k a τ).map Prod.fst = (wX2 k a σ).map Prod.fst := rfl
theorem wX2_rec (k : Nat → ClassId) (a : Nat → Nat) (σ : T2) : (wX2 k a σ)[0]? = some (a 0, .inr (2, fX2 a (σ 0))) := rfl
def wX2_X2 (k : Nat → ClassId) (a : Nat → Nat) (σ : T2) : va_W := [(a 0, .inr (2, fX2 a (σ 0))), (a 1, .inl (k 0, 64, .inl (σ 1))), (a 2, .inl (k 0, 64, .inl (σ 2))), (a 3, .inl (k 0, 64, .inl (σ 3))), (a 4, .inl (k 0, 64, .inl (σ 4))), (a 5, .inr (2, fX2 (fun j => a (5 + j)) (σ 5))), (a 6, .inl (k 0, 64, .inl (σ 6))), (a 7, .inl (k 0, 64, .inl (σ 7))), (a 8, .inl (k 0, 64, .inl (σ 8))), (a 9, .inl (k 0, 64, .inl (σ 9)))]
theorem wX2_X2_s0 (k : Nat → ClassId) (a : Nat → Nat) (σ : T2) (g : T1) : (wX2_X2 k a σ).set 0 (a 0, .inr (2, fX2 a g)) = wX2_X2 k a (u2 σ 0 g) := rfl
theorem wX2_X2_s1 (k : Nat → ClassId) (a : Nat → Nat) (σ : T2) (g : T1) : (wX2_X2 k a σ).set 1 (a 1, .inl (k 0, 64, .inl g)) = wX2_X2 k a (u2 σ 1 g) := rfl
theorem wX2_X2_s2 (k : Nat → ClassId) (a : Nat → Nat) (σ : T2) (g : T1) : (wX2_X2 k a σ).set 2 (a 2, .inl (k 0, 64, .inl g)) = wX2_X2 k a (u2 σ 2 g) := rfl
theorem wX2_X2_s3 (k : Nat → ClassId) (a : Nat → Nat) (σ : T2) (g : T1) : (wX2_X2 k a σ).set 3 (a 3, .inl (k 0, 64, .inl g)) = wX2_X2 k a (u2 σ 3 g) := rfl
theorem wX2_X2_s4 (k : Nat → ClassId) (a : Nat → Nat) (σ : T2) (g : T1) : (wX2_X2 k a σ).set 4 (a 4, .inl (k 0, 64, .inl g)) = wX2_X2 k a (u2 σ 4 g) := rfl
theorem wX2_X2_s5 (k : Nat → ClassId) (a : Nat → Nat) (σ : T2) (g : T1) : (wX2_X2 k a σ).set 5 (a 5, .inr (2, fX2 (fun j => a (5 + j)) g)) = wX2_X2 k a (u2 σ 5 g) := rfl
theorem wX2_X2_s6 (k : Nat → ClassId) (a : Nat → Nat) (σ : T2) (g : T1) : (wX2_X2 k a σ).set 6 (a 6, .inl (k 0, 64, .inl g)) = wX2_X2 k a (u2 σ 6 g) := rfl
theorem wX2_X2_s7 (k : Nat → ClassId) (a : Nat → Nat) (σ : T2) (g : T1) : (wX2_X2 k a σ).set 7 (a 7, .inl (k 0, 64, .inl g)) = wX2_X2 k a (u2 σ 7 g) := rfl
theorem wX2_X2_s8 (k : Nat → ClassId) (a : Nat → Nat) (σ : T2) (g : T1) : (wX2_X2 k a σ).set 8 (a 8, .inl (k 0, 64, .inl g)) = wX2_X2 k a (u2 σ 8 g) := rfl
theorem wX2_X2_s9 (k : Nat → ClassId) (a : Nat → Nat) (σ : T2) (g : T1) : (wX2_X2 k a σ).set 9 (a 9, .inl (k 0, 64, .inl g)) = wX2_X2 k a (u2 σ 9 g) := rfl
theorem wX2_X2_pl (k : Nat → ClassId) (a : Nat → Nat) (σ : T2) : ([0, 1, 2, 3, 4, 5, 6, 7, 8, 9] : List Nat).map (fun i => (wX2_X2 k a σ)[i]?) = (wX2_X2 k a σ).map some := rfl
theorem wX2_X2_put (k : Nat → ClassId) (a : Nat → Nat) (σ τ : T2) : q_put (wX2_X2 k a σ) [0, 1, 2, 3, 4, 5, 6, 7, 8, 9] (wX2_X2 k a τ) = wX2_X2 k a τ := rfl
theorem wX2_X2_fst (k : Nat → ClassId) (a : Nat → Nat) (σ τ : T2) : (wX2_X2 k a τ).map Prod.fst = (wX2_X2 k a σ).map Prod.fst := rfl
theorem wX2_X2_rec (k : Nat → ClassId) (a : Nat → Nat) (σ : T2) : (wX2_X2 k a σ)[0]? = some (a 0, .inr (2, fX2 a (σ 0))) := rfl
def wX4 (k : Nat → ClassId) (a : Nat → Nat) (σ : T2) : va_W := [(a 0, .inr (4, fX4 a (σ 0))), (a 1, .inl (k 2, 80, .inl (σ 1)))]
theorem wX4_s0 (k : Nat → ClassId) (a : Nat → Nat) (σ : T2) (g : T1) : (wX4 k a σ).set 0 (a 0, .inr (4, fX4 a g)) = wX4 k a (u2 σ 0 g) := rfl
theorem wX4_s1 (k : Nat → ClassId) (a : Nat → Nat) (σ : T2) (g : T1) : (wX4 k a σ).set 1 (a 1, .inl (k 2, 80, .inl g)) = wX4 k a (u2 σ 1 g) := rfl
theorem wX4_pl (k : Nat → ClassId) (a : Nat → Nat) (σ : T2) : ([0, 1] : List Nat).map (fun i => (wX4 k a σ)[i]?) = (wX4 k a σ).map some := rfl
theorem wX4_put (k : Nat → ClassId) (a : Nat → Nat) (σ τ : T2) : q_put (wX4 k a σ) [0, 1] (wX4 k a τ) = wX4 k a τ := rfl
theorem wX4_fst (k : Nat → ClassId) (a : Nat → Nat) (σ τ : T2) : (wX4 k a τ).map Prod.fst = (wX4 k a σ).map Prod.fst := rfl
theorem wX4_rec (k : Nat → ClassId) (a : Nat → Nat) (σ : T2) : (wX4 k a σ)[0]? = some (a 0, .inr (4, fX4 a (σ 0))) := rfl
def wX8 (k : Nat → ClassId) (a : Nat → Nat) (σ : T2) : va_W := [(a 0, .inr (8, fX8 a (σ 0)))]
theorem wX8_s0 (k : Nat → ClassId) (a : Nat → Nat) (σ : T2) (g : T1) : (wX8 k a σ).set 0 (a 0, .inr (8, fX8 a g)) = wX8 k a (u2 σ 0 g) := rfl
theorem wX8_pl (k : Nat → ClassId) (a : Nat → Nat) (σ : T2) : ([0] : List Nat).map (fun i => (wX8 k a σ)[i]?) = (wX8 k a σ).map some := rfl
theorem wX8_put (k : Nat → ClassId) (a : Nat → Nat) (σ τ : T2) : q_put (wX8 k a σ) [0] (wX8 k a τ) = wX8 k a τ := rfl
theorem wX8_fst (k : Nat → ClassId) (a : Nat → Nat) (σ τ : T2) : (wX8 k a τ).map Prod.fst = (wX8 k a σ).map Prod.fst := rfl
theorem wX8_rec (k : Nat → ClassId) (a : Nat → Nat) (σ : T2) : (wX8 k a σ)[0]? = some (a 0, .inr (8, fX8 a (σ 0))) := rfl
def wX8_X8 (k : Nat → ClassId) (a : Nat → Nat) (σ : T2) : va_W := [(a 0, .inr (8, fX8 a (σ 0))), (a 1, .inr (8, fX8 (fun j => a (1 + j)) (σ 1)))]
theorem wX8_X8_s0 (k : Nat → ClassId) (a : Nat → Nat) (σ : T2) (g : T1) : (wX8_X8 k a σ).set 0 (a 0, .inr (8, fX8 a g)) = wX8_X8 k a (u2 σ 0 g) := rfl
theorem wX8_X8_s1 (k : Nat → ClassId) (a : Nat → Nat) (σ : T2) (g : T1) : (wX8_X8 k a σ).set 1 (a 1, .inr (8, fX8 (fun j => a (1 + j)) g)) = wX8_X8 k a (u2 σ 1 g) := rfl
theorem wX8_X8_pl (k : Nat → ClassId) (a : Nat → Nat) (σ : T2) : ([0, 1] : List Nat).map (fun i => (wX8_X8 k a σ)[i]?) = (wX8_X8 k a σ).map some := rfl
theorem wX8_X8_put (k : Nat → ClassId) (a : Nat → Nat) (σ τ : T2) : q_put (wX8_X8 k a σ) [0, 1] (wX8_X8 k a τ) = wX8_X8 k a τ := rfl
theorem wX8_X8_fst (k : Nat → ClassId) (a : Nat → Nat) (σ τ : T2) : (wX8_X8 k a τ).map Prod.fst = (wX8_X8 k a σ).map Prod.fst := rfl
theorem wX8_X8_rec (k : Nat → ClassId) (a : Nat → Nat) (σ : T2) : (wX8_X8 k a σ)[0]? = some (a 0, .inr (8, fX8 a (σ 0))) := rfl
def wX5 (k : Nat → ClassId) (a : Nat → Nat) (σ : T2) : va_W := [(a 0, .inr (5, fX5 a (σ 0))), (a 1, .inl (k 0, 64, .inl (σ 1))), (a 2, .inl (k 0, 64, .inl (σ 2)))]
theorem wX5_s0 (k : Nat → ClassId) (a : Nat → Nat) (σ : T2) (g : T1) : (wX5 k a σ).set 0 (a 0, .inr (5, fX5 a g)) = wX5 k a (u2 σ 0 g) := rfl
theorem wX5_s1 (k : Nat → ClassId) (a : Nat → Nat) (σ : T2) (g : T1) : (wX5 k a σ).set 1 (a 1, .inl (k 0, 64, .inl g)) = wX5 k a (u2 σ 1 g) := rfl
theorem wX5_s2 (k : Nat → ClassId) (a : Nat → Nat) (σ : T2) (g : T1) : (wX5 k a σ).set 2 (a 2, .inl (k 0, 64, .inl g)) = wX5 k a (u2 σ 2 g) := rfl
theorem wX5_pl (k : Nat → ClassId) (a : Nat → Nat) (σ : T2) : ([0, 1, 2] : List Nat).map (fun i => (wX5 k a σ)[i]?) = (wX5 k a σ).map some := rfl
theorem wX5_put (k : Nat → ClassId) (a : Nat → Nat) (σ τ : T2) : q_put (wX5 k a σ) [0, 1, 2] (wX5 k a τ) = wX5 k a τ := rfl
theorem wX5_fst (k : Nat → ClassId) (a : Nat → Nat) (σ τ : T2) : (wX5 k a τ).map Prod.fst = (wX5 k a σ).map Prod.fst := rfl
theorem wX5_rec (k : Nat → ClassId) (a : Nat → Nat) (σ : T2) : (wX5 k a σ)[0]? = some (a 0, .inr (5, fX5 a (σ 0))) := rfl
def wX5_X5 (k : Nat → ClassId) (a : Nat → Nat) (σ : T2) : va_W := [(a 0, .inr (5, fX5 a (σ 0))), (a 1, .inl (k 0, 64, .inl (σ 1))), (a 2, .inl (k 0, 64, .inl (σ 2))), (a 3, .inr (5, fX5 (fun j => a (3 + j)) (σ 3))), (a 4, .inl (k 0, 64, .inl (σ 4))), (a 5, .inl (k 0, 64, .inl (σ 5)))]
theorem wX5_X5_s0 (k : Nat → ClassId) (a : Nat → Nat) (σ : T2) (g : T1) : (wX5_X5 k a σ).set 0 (a 0, .inr (5, fX5 a g)) = wX5_X5 k a (u2 σ 0 g) := rfl
theorem wX5_X5_s1 (k : Nat → ClassId) (a : Nat → Nat) (σ : T2) (g : T1) : (wX5_X5 k a σ).set 1 (a 1, .inl (k 0, 64, .inl g)) = wX5_X5 k a (u2 σ 1 g) := rfl
theorem wX5_X5_s2 (k : Nat → ClassId) (a : Nat → Nat) (σ : T2) (g : T1) : (wX5_X5 k a σ).set 2 (a 2, .inl (k 0, 64, .inl g)) = wX5_X5 k a (u2 σ 2 g) := rfl
theorem wX5_X5_s3 (k : Nat → ClassId) (a : Nat → Nat) (σ : T2) (g : T1) : (wX5_X5 k a σ).set 3 (a 3, .inr (5, fX5 (fun j => a (3 + j)) g)) = wX5_X5 k a (u2 σ 3 g) := rfl
theorem wX5_X5_s4 (k : Nat → ClassId) (a : Nat → Nat) (σ : T2) (g : T1) : (wX5_X5 k a σ).set 4 (a 4, .inl (k 0, 64, .inl g)) = wX5_X5 k a (u2 σ 4 g) := rfl
theorem wX5_X5_s5 (k : Nat → ClassId) (a : Nat → Nat) (σ : T2) (g : T1) : (wX5_X5 k a σ).set 5 (a 5, .inl (k 0, 64, .inl g)) = wX5_X5 k a (u2 σ 5 g) := rfl
theorem wX5_X5_pl (k : Nat → ClassId) (a : Nat → Nat) (σ : T2) : ([0, 1, 2, 3, 4, 5] : List Nat).map (fun i => (wX5_X5 k a σ)[i]?) = (wX5_X5 k a σ).map some := rfl
theorem wX5_X5_put (k : Nat → ClassId) (a : Nat → Nat) (σ τ : T2) : q_put (wX5_X5 k a σ) [0, 1, 2, 3, 4, 5] (wX5_X5 k a τ) = wX5_X5 k a τ := rfl
theorem wX5_X5_fst (k : Nat → ClassId) (a : Nat → Nat) (σ τ : T2) : (wX5_X5 k a τ).map Prod.fst = (wX5_X5 k a σ).map Prod.fst := rfl
theorem wX5_X5_rec (k : Nat → ClassId) (a : Nat → Nat) (σ : T2) : (wX5_X5 k a σ)[0]? = some (a 0, .inr (5, fX5 a (σ 0))) := rfl
def wX5_X6 (k : Nat → ClassId) (a : Nat → Nat) (σ : T2) : va_W := [(a 0, .inr (5, fX5 a (σ 0))), (a 1, .inl (k 0, 64, .inl (σ 1))), (a 2, .inl (k 0, 64, .inl (σ 2))), (a 3, .inr (6, fX6 (fun j => a (3 + j)) (σ 3))), (a 4, .inl (k 0, 64, .inl (σ 4))), (a 5, .inl (k 0, 64, .inl (σ 5)))]
theorem wX5_X6_s0 (k : Nat → ClassId) (a : Nat → Nat) (σ : T2) (g : T1) : (wX5_X6 k a σ).set 0 (a 0, .inr (5, fX5 a g)) = wX5_X6 k a (u2 σ 0 g) := rfl
theorem wX5_X6_s1 (k : Nat → ClassId) (a : Nat → Nat) (σ : T2) (g : T1) : (wX5_X6 k a σ).set 1 (a 1, .inl (k 0, 64, .inl g)) = wX5_X6 k a (u2 σ 1 g) := rfl
theorem wX5_X6_s2 (k : Nat → ClassId) (a : Nat → Nat) (σ : T2) (g : T1) : (wX5_X6 k a σ).set 2 (a 2, .inl (k 0, 64, .inl g)) = wX5_X6 k a (u2 σ 2 g) := rfl
theorem wX5_X6_s3 (k : Nat → ClassId) (a : Nat → Nat) (σ : T2) (g : T1) : (wX5_X6 k a σ).set 3 (a 3, .inr (6, fX6 (fun j => a (3 + j)) g)) = wX5_X6 k a (u2 σ 3 g) := rfl
theorem wX5_X6_s4 (k : Nat → ClassId) (a : Nat → Nat) (σ : T2) (g : T1) : (wX5_X6 k a σ).set 4 (a 4, .inl (k 0, 64, .inl g)) = wX5_X6 k a (u2 σ 4 g) := rfl
theorem wX5_X6_s5 (k : Nat → ClassId) (a : Nat → Nat) (σ : T2) (g : T1) : (wX5_X6 k a σ).set 5 (a 5, .inl (k 0, 64, .inl g)) = wX5_X6 k a (u2 σ 5 g) := rfl
theorem wX5_X6_pl (k : Nat → ClassId) (a : Nat → Nat) (σ : T2) : ([0, 1, 2, 3, 4, 5] : List Nat).map (fun i => (wX5_X6 k a σ)[i]?) = (wX5_X6 k a σ).map some := rfl
theorem wX5_X6_put (k : Nat → ClassId) (a : Nat → Nat) (σ τ : T2) : q_put (wX5_X6 k a σ) [0, 1, 2, 3, 4, 5] (wX5_X6 k a τ) = wX5_X6 k a τ := rfl
theorem wX5_X6_fst (k : Nat → ClassId) (a : Nat → Nat) (σ τ : T2) : (wX5_X6 k a τ).map Prod.fst = (wX5_X6 k a σ).map Prod.fst := rfl
theorem wX5_X6_rec (k : Nat → ClassId) (a : Nat → Nat) (σ : T2) : (wX5_X6 k a σ)[0]? = some (a 0, .inr (5, fX5 a (σ 0))) := rfl
theorem wX5_X5_X5_3_pl (k : Nat → ClassId) (a : Nat → Nat) (σ : T2) : ([3, 4, 5] : List Nat).map (fun i => (wX5_X5 k a σ)[i]?) = (wX5 k (fun j => a (3 + j)) (fun j => σ (3 + j))).map some := rfl
theorem wX5_X5_X5_3_pt (k : Nat → ClassId) (a : Nat → Nat) (σ τ : T2) : q_put (wX5_X5 k a σ) [3, 4, 5] (wX5 k (fun j => a (3 + j)) τ) = wX5_X5 k a (sb σ 3 3 τ) := rfl
theorem wX5_X5_X5_0_pl (k : Nat → ClassId) (a : Nat → Nat) (σ : T2) : ([0, 1, 2] : List Nat).map (fun i => (wX5_X5 k a σ)[i]?) = (wX5 k a σ).map some := rfl
theorem wX5_X5_X5_0_pt (k : Nat → ClassId) (a : Nat → Nat) (σ τ : T2) : q_put (wX5_X5 k a σ) [0, 1, 2] (wX5 k a τ) = wX5_X5 k a (sb σ 0 3 τ) := rfl
theorem wX5_X6_X5_0_pl (k : Nat → ClassId) (a : Nat → Nat) (σ : T2) : ([0, 1, 2] : List Nat).map (fun i => (wX5_X6 k a σ)[i]?) = (wX5 k a σ).map some := rfl
theorem wX5_X6_X5_0_pt (k : Nat → ClassId) (a : Nat → Nat) (σ τ : T2) : q_put (wX5_X6 k a σ) [0, 1, 2] (wX5 k a τ) = wX5_X6 k a (sb σ 0 3 τ) := rfl
theorem cl_64 : (64 : Int32).toNatClampNeg = 64 := by decide
theorem hd_J9_floorDiv_7cf53 : yJ9_floorDiv_7cf53.cls ≠ "java/lang/invoke/MethodHandle" ∧ yJ9_floorDiv_7cf53.cls ≠ "java/lang/invoke/VarHandle" ∧ (parseMethodDescriptor yJ9_floorDiv_7cf53.desc).map (fun d => d.parameters.length) = some 2 := by decide +kernel
noncomputable def P_J9_floorDiv_7cf53_b0 (v0 : Int32) (v1 : Int32) : Int32 := if 0 ≤ (v0 ^^^ v1) then (v0 / v1) else (if ((v0 / v1) * v1) = v0 then (v0 / v1) else ((v0 / v1) - (1 : Int32)))
def S_J9_floorDiv_7cf53_b0 (v0 : Int32) (v1 : Int32) : Prop := (¬ v1 = 0) ∧ ((0 ≤ (v0 ^^^ v1) → (True)) ∧ (¬ (0 ≤ (v0 ^^^ v1)) → ((((v0 / v1) * v1) = v0 → (True)) ∧ (¬ (((v0 / v1) * v1) = v0) → (True)))))
theorem P_J9_floorDiv_7cf53_b0_e (v0 : Int32) (v1 : Int32) : P_J9_floorDiv_7cf53_b0 v0 v1 = if 0 ≤ (v0 ^^^ v1) then (v0 / v1) else (if ((v0 / v1) * v1) = v0 then (v0 / v1) else ((v0 / v1) - (1 : Int32))) := rfl
theorem S_J9_floorDiv_7cf53_b0_e (v0 : Int32) (v1 : Int32) : S_J9_floorDiv_7cf53_b0 v0 v1 = ((¬ v1 = 0) ∧ ((0 ≤ (v0 ^^^ v1) → (True)) ∧ (¬ (0 ≤ (v0 ^^^ v1)) → ((((v0 / v1) * v1) = v0 → (True)) ∧ (¬ (((v0 / v1) * v1) = v0) → (True)))))) := rfl
noncomputable def P_J9_floorDiv_7cf53 (p0 : Int32) (p1 : Int32) : Int32 := P_J9_floorDiv_7cf53_b0 p0 p1
def S_J9_floorDiv_7cf53 (p0 : Int32) (p1 : Int32) : Prop := S_J9_floorDiv_7cf53_b0 p0 p1
set_option maxHeartbeats 400000 in
set_option maxRecDepth 100000 in
theorem b_J9_floorDiv_7cf53_b0 {p : Program} {e : Env} {s : State} {m : MethodId} {args : Array Value} {below : List Frame} {meth : Method} {c : Code} (l : Launch) (C0 : q_C1 p s m meth c args RJ9 cJ9_floorDiv_7cf53 3 (some .int) wsJ9_floorDiv_7cf53) (R : Int32) : ∀ (v0 : Int32) (v1 : Int32), S_J9_floorDiv_7cf53_b0 v0 v1 → P_J9_floorDiv_7cf53_b0 v0 v1 = R → ∀ (H : Heap) (locs : List Loc) (ls : Array Slot), lv_has ls 3 [(0, .int v0), (1, .int v1)] → W p l e { frames := 0, cells := 0, slots := 0, locals := 0 } s m args below meth c s.heap [] 0 0 (MQ below (vp_Si (fun r => r = R)) args s 0 0 (fun _ => False)) (F0 m 0 ls []) := by
  intro v0 v1 hs hR H locs ls hl
  rw [P_J9_floorDiv_7cf53_b0_e] at hR
  rw [S_J9_floorDiv_7cf53_b0_e] at hs
  obtain ⟨hx, hb, hr, hml, hts, hown, hlocks⟩ := id C0
  refine lv_iload_n hx hb dJ9_floorDiv_7cf53_0 rfl (lv_at hl 0 rfl) ?_
  refine lv_iload_n hx hb dJ9_floorDiv_7cf53_1 rfl (lv_at hl 1 rfl) ?_
  have hz1 := hs.1
  have hs := hs.2
  refine lv_idiv hx hb dJ9_floorDiv_7cf53_2 hz1 ?_
  refine lv_istore_n (lv' := [(2, .int (v0 / v1)), (0, .int v0), (1, .int v1)]) hx hb dJ9_floorDiv_7cf53_3 rfl hl (by decide) rfl (fun ls hl => ?_)
  refine lv_iload_n hx hb dJ9_floorDiv_7cf53_4 rfl (lv_at hl 1 rfl) ?_
  refine lv_iload_n hx hb dJ9_floorDiv_7cf53_5 rfl (lv_at hl 2 rfl) ?_
  refine lv_ixor hx hb dJ9_floorDiv_7cf53_6 ?_
  refine lv_if_ge (tgt := 21) hx hb dJ9_floorDiv_7cf53_7 (by decide) (fun c_2 => ?_) (fun c_2 => ?_)
  · have hs := hs.1 c_2
    rw [if_pos c_2] at hR
    refine lv_iload_n hx hb dJ9_floorDiv_7cf53_21 rfl (lv_at hl 0 rfl) ?_
    exact q_iretrs C0 hR dJ9_floorDiv_7cf53_22
  · have hs := hs.2 c_2
    rw [if_neg c_2] at hR
    refine lv_iload_n hx hb dJ9_floorDiv_7cf53_10 rfl (lv_at hl 0 rfl) ?_
    refine lv_iload_n hx hb dJ9_floorDiv_7cf53_11 rfl (lv_at hl 2 rfl) ?_
    refine lv_imul hx hb dJ9_floorDiv_7cf53_12 ?_
    refine lv_iload_n hx hb dJ9_floorDiv_7cf53_13 rfl (lv_at hl 1 rfl) ?_
    refine lv_icmp_eq (tgt := 21) hx hb dJ9_floorDiv_7cf53_14 (by decide) (fun c_3 => ?_) (fun c_3 => ?_)
    · have hs := hs.1 c_3
      rw [if_pos c_3] at hR
      refine lv_iload_n hx hb dJ9_floorDiv_7cf53_21 rfl (lv_at hl 0 rfl) ?_
      exact q_iretrs C0 hR dJ9_floorDiv_7cf53_22
    · have hs := hs.2 c_3
      rw [if_neg c_3] at hR
      refine lv_iload_n hx hb dJ9_floorDiv_7cf53_17 rfl (lv_at hl 0 rfl) ?_
      refine lv_iconst (v := (1 : Int32)) hx hb dJ9_floorDiv_7cf53_18 (by decide) ?_
      refine lv_isub hx hb dJ9_floorDiv_7cf53_19 ?_
      exact q_iretrs C0 hR dJ9_floorDiv_7cf53_20
set_option maxHeartbeats 400000 in
set_option maxRecDepth 100000 in
theorem m_J9_floorDiv_7cf53 (l : Launch) (p0 : Int32) (p1 : Int32) (hs : S_J9_floorDiv_7cf53 p0 p1) : Met l yJ9_floorDiv_7cf53 wsJ9_floorDiv_7cf53 { frames := 0, cells := 0, slots := 0, locals := 0 } (va_Pc [.int p0, .int p1] (fun _ => True)) (vp_Si (fun r => r = P_J9_floorDiv_7cf53 p0 p1)) 0 0 (fun _ => False) := by
  refine q_metsF [.int p0, .int p1] (cc := cJ9_floorDiv_7cf53) (maxL := 3) (ret := (some .int)) (by decide +kernel) rfl (Nat.le_of_ble_eq_true rfl) ?_
  intro p e s m args below meth c ls C0 hl
  exact b_J9_floorDiv_7cf53_b0 l C0 _ p0 p1 hs rfl s.heap [] ls (lv_sub hl [0, 1] rfl)
theorem hd_J9_floorMod_7cf53 : yJ9_floorMod_7cf53.cls ≠ "java/lang/invoke/MethodHandle" ∧ yJ9_floorMod_7cf53.cls ≠ "java/lang/invoke/VarHandle" ∧ (parseMethodDescriptor yJ9_floorMod_7cf53.desc).map (fun d => d.parameters.length) = some 2 := by decide +kernel
noncomputable def P_J9_floorMod_7cf53_b0 (v0 : Int32) (v1 : Int32) : Int32 := if 0 ≤ (v0 ^^^ v1) then (v0 - v0 / v1 * v1) else (if (v0 - v0 / v1 * v1) = 0 then (v0 - v0 / v1 * v1) else ((v0 - v0 / v1 * v1) + v1))
def S_J9_floorMod_7cf53_b0 (v0 : Int32) (v1 : Int32) : Prop := (¬ v1 = 0) ∧ ((0 ≤ (v0 ^^^ v1) → (True)) ∧ (¬ (0 ≤ (v0 ^^^ v1)) → (((v0 - v0 / v1 * v1) = 0 → (True)) ∧ (¬ ((v0 - v0 / v1 * v1) = 0) → (True)))))
theorem P_J9_floorMod_7cf53_b0_e (v0 : Int32) (v1 : Int32) : P_J9_floorMod_7cf53_b0 v0 v1 = if 0 ≤ (v0 ^^^ v1) then (v0 - v0 / v1 * v1) else (if (v0 - v0 / v1 * v1) = 0 then (v0 - v0 / v1 * v1) else ((v0 - v0 / v1 * v1) + v1)) := rfl
theorem S_J9_floorMod_7cf53_b0_e (v0 : Int32) (v1 : Int32) : S_J9_floorMod_7cf53_b0 v0 v1 = ((¬ v1 = 0) ∧ ((0 ≤ (v0 ^^^ v1) → (True)) ∧ (¬ (0 ≤ (v0 ^^^ v1)) → (((v0 - v0 / v1 * v1) = 0 → (True)) ∧ (¬ ((v0 - v0 / v1 * v1) = 0) → (True)))))) := rfl
noncomputable def P_J9_floorMod_7cf53 (p0 : Int32) (p1 : Int32) : Int32 := P_J9_floorMod_7cf53_b0 p0 p1
def S_J9_floorMod_7cf53 (p0 : Int32) (p1 : Int32) : Prop := S_J9_floorMod_7cf53_b0 p0 p1
set_option maxHeartbeats 400000 in
set_option maxRecDepth 100000 in
theorem b_J9_floorMod_7cf53_b0 {p : Program} {e : Env} {s : State} {m : MethodId} {args : Array Value} {below : List Frame} {meth : Method} {c : Code} (l : Launch) (C0 : q_C1 p s m meth c args RJ9 cJ9_floorMod_7cf53 3 (some .int) wsJ9_floorMod_7cf53) (R : Int32) : ∀ (v0 : Int32) (v1 : Int32), S_J9_floorMod_7cf53_b0 v0 v1 → P_J9_floorMod_7cf53_b0 v0 v1 = R → ∀ (H : Heap) (locs : List Loc) (ls : Array Slot), lv_has ls 3 [(0, .int v0), (1, .int v1)] → W p l e { frames := 0, cells := 0, slots := 0, locals := 0 } s m args below meth c s.heap [] 0 0 (MQ below (vp_Si (fun r => r = R)) args s 0 0 (fun _ => False)) (F0 m 0 ls []) := by
  intro v0 v1 hs hR H locs ls hl
  rw [P_J9_floorMod_7cf53_b0_e] at hR
  rw [S_J9_floorMod_7cf53_b0_e] at hs
  obtain ⟨hx, hb, hr, hml, hts, hown, hlocks⟩ := id C0
  refine lv_iload_n hx hb dJ9_floorMod_7cf53_0 rfl (lv_at hl 0 rfl) ?_
  refine lv_iload_n hx hb dJ9_floorMod_7cf53_1 rfl (lv_at hl 1 rfl) ?_
  have hz1 := hs.1
  have hs := hs.2
  refine lv_irem hx hb dJ9_floorMod_7cf53_2 hz1 ?_
  refine lv_istore_n (lv' := [(2, .int (v0 - v0 / v1 * v1)), (0, .int v0), (1, .int v1)]) hx hb dJ9_floorMod_7cf53_3 rfl hl (by decide) rfl (fun ls hl => ?_)
  refine lv_iload_n hx hb dJ9_floorMod_7cf53_4 rfl (lv_at hl 1 rfl) ?_
  refine lv_iload_n hx hb dJ9_floorMod_7cf53_5 rfl (lv_at hl 2 rfl) ?_
  refine lv_ixor hx hb dJ9_floorMod_7cf53_6 ?_
  refine lv_if_ge (tgt := 18) hx hb dJ9_floorMod_7cf53_7 (by decide) (fun c_2 => ?_) (fun c_2 => ?_)
  · have hs := hs.1 c_2
    rw [if_pos c_2] at hR
    refine lv_iload_n hx hb dJ9_floorMod_7cf53_18 rfl (lv_at hl 0 rfl) ?_
    exact q_iretrs C0 hR dJ9_floorMod_7cf53_19
  · have hs := hs.2 c_2
    rw [if_neg c_2] at hR
    refine lv_iload_n hx hb dJ9_floorMod_7cf53_10 rfl (lv_at hl 0 rfl) ?_
    refine lv_if_eq (tgt := 18) hx hb dJ9_floorMod_7cf53_11 (by decide) (fun c_3 => ?_) (fun c_3 => ?_)
    · have hs := hs.1 c_3
      rw [if_pos c_3] at hR
      refine lv_iload_n hx hb dJ9_floorMod_7cf53_18 rfl (lv_at hl 0 rfl) ?_
      exact q_iretrs C0 hR dJ9_floorMod_7cf53_19
    · have hs := hs.2 c_3
      rw [if_neg c_3] at hR
      refine lv_iload_n hx hb dJ9_floorMod_7cf53_14 rfl (lv_at hl 0 rfl) ?_
      refine lv_iload_n hx hb dJ9_floorMod_7cf53_15 rfl (lv_at hl 2 rfl) ?_
      refine lv_iadd hx hb dJ9_floorMod_7cf53_16 ?_
      exact q_iretrs C0 hR dJ9_floorMod_7cf53_17
set_option maxHeartbeats 400000 in
set_option maxRecDepth 100000 in
theorem m_J9_floorMod_7cf53 (l : Launch) (p0 : Int32) (p1 : Int32) (hs : S_J9_floorMod_7cf53 p0 p1) : Met l yJ9_floorMod_7cf53 wsJ9_floorMod_7cf53 { frames := 0, cells := 0, slots := 0, locals := 0 } (va_Pc [.int p0, .int p1] (fun _ => True)) (vp_Si (fun r => r = P_J9_floorMod_7cf53 p0 p1)) 0 0 (fun _ => False) := by
  refine q_metsF [.int p0, .int p1] (cc := cJ9_floorMod_7cf53) (maxL := 3) (ret := (some .int)) (by decide +kernel) rfl (Nat.le_of_ble_eq_true rfl) ?_
  intro p e s m args below meth c ls C0 hl
  exact b_J9_floorMod_7cf53_b0 l C0 _ p0 p1 hs rfl s.heap [] ls (lv_sub hl [0, 1] rfl)
theorem hin_X0_has_X0 : ∀ w ∈ u_ws RX0 TX0 5, w ∈ wsX0_has := by decide +kernel
theorem hd_X0_has : yX0_has.cls = RX0 ∧ yX0_has.cls ≠ "java/lang/invoke/MethodHandle" ∧ yX0_has.cls ≠ "java/lang/invoke/VarHandle" ∧ (parseMethodDescriptor yX0_has.desc).map (fun d => d.parameters.length) = some 1 := by decide +kernel
noncomputable def P_X0_has_b0 (σ : T2) (v1 : Int32) : Int32 := if v1 < 0 then ((0 : Int32)) else (if (σ 0 4) ≤ v1 then ((0 : Int32)) else (if v1 < ((σ 0 4) - (64 : Int32)) then ((0 : Int32)) else ((1 : Int32))))
def S_X0_has_b0 (σ : T2) (v1 : Int32) : Prop := (v1 < 0 → (True)) ∧ (¬ (v1 < 0) → (((σ 0 4) ≤ v1 → (True)) ∧ (¬ ((σ 0 4) ≤ v1) → ((v1 < ((σ 0 4) - (64 : Int32)) → (True)) ∧ (¬ (v1 < ((σ 0 4) - (64 : Int32))) → (True))))))
theorem P_X0_has_b0_e (σ : T2) (v1 : Int32) : P_X0_has_b0 σ v1 = if v1 < 0 then ((0 : Int32)) else (if (σ 0 4) ≤ v1 then ((0 : Int32)) else (if v1 < ((σ 0 4) - (64 : Int32)) then ((0 : Int32)) else ((1 : Int32)))) := rfl
theorem S_X0_has_b0_e (σ : T2) (v1 : Int32) : S_X0_has_b0 σ v1 = ((v1 < 0 → (True)) ∧ (¬ (v1 < 0) → (((σ 0 4) ≤ v1 → (True)) ∧ (¬ ((σ 0 4) ≤ v1) → ((v1 < ((σ 0 4) - (64 : Int32)) → (True)) ∧ (¬ (v1 < ((σ 0 4) - (64 : Int32))) → (True))))))) := rfl
noncomputable def P_X0_has (σ : T2) (p0 : Int32) : Int32 := P_X0_has_b0 σ p0
def S_X0_has (σ : T2) (p0 : Int32) : Prop := S_X0_has_b0 σ p0
set_option maxHeartbeats 400000 in
set_option maxRecDepth 100000 in
theorem b_X0_has_b0 {p : Program} {e : Env} {s : State} {m : MethodId} {args : Array Value} {below : List Frame} {meth : Method} {c : Code} (l : Launch) (D : va_G) (k : Nat → ClassId) (a : Nat → Nat) (A : Nat → Prop) (C0 : q_C p s m meth c args RX0 cX0_has 2 (some .boolean) wsX0_has D (tyL k) A) (R : Int32) : ∀ (σ : T2) (v1 : Int32), S_X0_has_b0 σ v1 → P_X0_has_b0 σ v1 = R → ∀ (H : Heap) (locs : List Loc) (ls : Array Slot), q_W D A s.heap (wX0 k a σ) s.heap [] → lv_has ls 2 [(0, .ref (a 0)), (1, .int v1)] → W p l e { frames := 0, cells := 0, slots := 0, locals := 0 } s m args below meth c s.heap [] 0 0 (MQ below (vp_Si (fun r => r = R)) args s 0 0 (fun _ => False)) (F0 m 0 ls []) := by
  intro σ v1 hs hR H locs ls hW hl
  rw [P_X0_has_b0_e] at hR
  rw [S_X0_has_b0_e] at hs
  obtain ⟨hx, hb, hr, hml, hts, hown, hlocks, hK, hA⟩ := id C0
  have hf24 := hts (.fieldLink RX0 24 "BeatFollower$Blows" "many" "I") (by decide +kernel)
  have hinX0 : ∀ w ∈ u_ws RX0 TX0 5, w ∈ wsX0_has := hin_X0_has_X0
  refine lv_iload_n hx hb dX0_has_0 rfl (lv_at hl 1 rfl) ?_
  refine lv_if_lt (tgt := 27) hx hb dX0_has_1 (by decide) (fun c_1 => ?_) (fun c_1 => ?_)
  · have hs := hs.1 c_1
    rw [if_pos c_1] at hR
    refine lv_iconst (v := (0 : Int32)) hx hb dX0_has_27 (by decide) ?_
    exact q_zretr C0 (by decide) hR dX0_has_28
  · have hs := hs.2 c_1
    rw [if_neg c_1] at hR
    refine lv_iload_n hx hb dX0_has_4 rfl (lv_at hl 1 rfl) ?_
    refine lv_aload_n hx hb dX0_has_5 rfl (lv_at hl 0 rfl) ?_
    refine va_get (v := .int (σ 0 4)) (C := RX0) (T := TX0) (N := 5) hx hb hts hinX0 hown hK hW.1 0 rfl rfl 4 (by decide) hf24 (fun _ h9 => h9) rfl dX0_has_6 ?_
    refine lv_icmp_ge (tgt := 27) hx hb dX0_has_9 (by decide) (fun c_2 => ?_) (fun c_2 => ?_)
    · have hs := hs.1 c_2
      rw [if_pos c_2] at hR
      refine lv_iconst (v := (0 : Int32)) hx hb dX0_has_27 (by decide) ?_
      exact q_zretr C0 (by decide) hR dX0_has_28
    · have hs := hs.2 c_2
      rw [if_neg c_2] at hR
      refine lv_iload_n hx hb dX0_has_12 rfl (lv_at hl 1 rfl) ?_
      refine lv_aload_n hx hb dX0_has_13 rfl (lv_at hl 0 rfl) ?_
      refine va_get (v := .int (σ 0 4)) (C := RX0) (T := TX0) (N := 5) hx hb hts hinX0 hown hK hW.1 0 rfl rfl 4 (by decide) hf24 (fun _ h9 => h9) rfl dX0_has_14 ?_
      refine lv_bipush (v := (64 : Int32)) hx hb dX0_has_17 (by decide) ?_
      refine lv_isub hx hb dX0_has_19 ?_
      refine lv_icmp_lt (tgt := 27) hx hb dX0_has_20 (by decide) (fun c_3 => ?_) (fun c_3 => ?_)
      · have hs := hs.1 c_3
        rw [if_pos c_3] at hR
        refine lv_iconst (v := (0 : Int32)) hx hb dX0_has_27 (by decide) ?_
        exact q_zretr C0 (by decide) hR dX0_has_28
      · have hs := hs.2 c_3
        rw [if_neg c_3] at hR
        refine lv_iconst (v := (1 : Int32)) hx hb dX0_has_23 (by decide) ?_
        refine lv_goto (tgt := 28) hx hb dX0_has_24 (by decide) ?_
        exact q_zretr C0 (by decide) hR dX0_has_28
set_option maxHeartbeats 400000 in
set_option maxRecDepth 100000 in
theorem m_X0_has (l : Launch) (D : va_G) (k : Nat → ClassId) (a : Nat → Nat) (sz : Nat) (σ : T2) (p0 : Int32) (hs : S_X0_has σ p0) : Met l yX0_has wsX0_has { frames := 0, cells := 0, slots := 0, locals := 0 } (va_Pc [.ref (a 0), .int p0] (q_B D (tyL k) (wX0 k a σ) sz)) (vp_Si (fun r => r = P_X0_has σ p0)) 0 0 (fun _ => False) := by
  refine q_met [.ref (a 0), .int p0] (wX0 k a σ) sz (cc := cX0_has) (maxL := 2) (ret := (some .boolean)) (by decide) rfl (Nat.le_of_ble_eq_true rfl) ?_
  intro p e s m args below meth c ls hsz C0 hW hl hin
  subst hsz
  exact b_X0_has_b0 l D k a _ C0 _ σ p0 hs rfl s.heap [] ls hW (lv_sub hl [0, 1] rfl)
theorem hd_X0_rowOf : yX0_rowOf.cls = RX0 ∧ yX0_rowOf.cls ≠ "java/lang/invoke/MethodHandle" ∧ yX0_rowOf.cls ≠ "java/lang/invoke/VarHandle" ∧ (parseMethodDescriptor yX0_rowOf.desc).map (fun d => d.parameters.length) = some 1 := by decide +kernel
noncomputable def P_X0_rowOf_b0 (σ : T2) (v1 : Int32) : Int32 := v1 &&& (63 : Int32)
def S_X0_rowOf_b0 (σ : T2) (v1 : Int32) : Prop := True
theorem P_X0_rowOf_b0_e (σ : T2) (v1 : Int32) : P_X0_rowOf_b0 σ v1 = v1 &&& (63 : Int32) := rfl
theorem S_X0_rowOf_b0_e (σ : T2) (v1 : Int32) : S_X0_rowOf_b0 σ v1 = (True) := rfl
noncomputable def P_X0_rowOf (σ : T2) (p0 : Int32) : Int32 := P_X0_rowOf_b0 σ p0
def S_X0_rowOf (σ : T2) (p0 : Int32) : Prop := S_X0_rowOf_b0 σ p0
set_option maxHeartbeats 400000 in
set_option maxRecDepth 100000 in
theorem b_X0_rowOf_b0 {p : Program} {e : Env} {s : State} {m : MethodId} {args : Array Value} {below : List Frame} {meth : Method} {c : Code} (l : Launch) (D : va_G) (k : Nat → ClassId) (a : Nat → Nat) (A : Nat → Prop) (C0 : q_C p s m meth c args RX0 cX0_rowOf 2 (some .int) wsX0_rowOf D (tyL k) A) (R : Int32) : ∀ (σ : T2) (v1 : Int32), S_X0_rowOf_b0 σ v1 → P_X0_rowOf_b0 σ v1 = R → ∀ (H : Heap) (locs : List Loc) (ls : Array Slot), q_W D A s.heap (wX0 k a σ) s.heap [] → lv_has ls 2 [(1, .int v1)] → W p l e { frames := 0, cells := 0, slots := 0, locals := 0 } s m args below meth c s.heap [] 0 0 (MQ below (vp_Si (fun r => r = R)) args s 0 0 (fun _ => False)) (F0 m 0 ls []) := by
  intro σ v1 hs hR H locs ls hW hl
  rw [P_X0_rowOf_b0_e] at hR
  rw [S_X0_rowOf_b0_e] at hs
  obtain ⟨hx, hb, hr, hml, hts, hown, hlocks, hK, hA⟩ := id C0
  refine lv_iload_n hx hb dX0_rowOf_0 rfl (lv_at hl 0 rfl) ?_
  refine lv_bipush (v := (63 : Int32)) hx hb dX0_rowOf_1 (by decide) ?_
  refine lv_iand hx hb dX0_rowOf_3 ?_
  exact q_iretr C0 hR dX0_rowOf_4
set_option maxHeartbeats 400000 in
set_option maxRecDepth 100000 in
theorem m_X0_rowOf (l : Launch) (D : va_G) (k : Nat → ClassId) (a : Nat → Nat) (sz : Nat) (σ : T2) (p0 : Int32) (hs : S_X0_rowOf σ p0) : Met l yX0_rowOf wsX0_rowOf { frames := 0, cells := 0, slots := 0, locals := 0 } (va_Pc [.ref (a 0), .int p0] (q_B D (tyL k) (wX0 k a σ) sz)) (vp_Si (fun r => r = P_X0_rowOf σ p0)) 0 0 (fun _ => False) := by
  refine q_met [.ref (a 0), .int p0] (wX0 k a σ) sz (cc := cX0_rowOf) (maxL := 2) (ret := (some .int)) (by decide) rfl (Nat.le_of_ble_eq_true rfl) ?_
  intro p e s m args below meth c ls hsz C0 hW hl hin
  subst hsz
  exact b_X0_rowOf_b0 l D k a _ C0 _ σ p0 hs rfl s.heap [] ls hW (lv_sub hl [1] rfl)
theorem hin_X0_append_X0 : ∀ w ∈ u_ws RX0 TX0 5, w ∈ wsX0_append := by decide +kernel
theorem hd_X0_append : yX0_append.cls = RX0 ∧ yX0_append.cls ≠ "java/lang/invoke/MethodHandle" ∧ yX0_append.cls ≠ "java/lang/invoke/VarHandle" ∧ (parseMethodDescriptor yX0_append.desc).map (fun d => d.parameters.length) = some 4 := by decide +kernel
noncomputable def P_X0_append_b0 (σ : T2) (v1 : Int32) (v2 : Int32) (v3 : Int32) (v4 : Int32) : T2 := u2 (u2 (u2 (u2 (u2 σ 1 (upd (σ 1) ((P_X0_rowOf σ (σ 0 4)).toNatClampNeg) v1)) 2 (upd (σ 2) ((P_X0_rowOf σ (σ 0 4)).toNatClampNeg) v2)) 3 (upd (σ 3) ((P_X0_rowOf σ (σ 0 4)).toNatClampNeg) v3)) 4 (upd (σ 4) ((P_X0_rowOf σ (σ 0 4)).toNatClampNeg) v4)) 0 (upd (σ 0) 4 ((σ 0 4) + (1 : Int32)))
def S_X0_append_b0 (σ : T2) (v1 : Int32) (v2 : Int32) (v3 : Int32) (v4 : Int32) : Prop := (S_X0_rowOf σ (σ 0 4)) ∧ ((vp_in (P_X0_rowOf σ (σ 0 4)) 64) ∧ ((vp_in (P_X0_rowOf σ (σ 0 4)) 64) ∧ ((vp_in (P_X0_rowOf σ (σ 0 4)) 64) ∧ ((vp_in (P_X0_rowOf σ (σ 0 4)) 64) ∧ (True)))))
theorem P_X0_append_b0_e (σ : T2) (v1 : Int32) (v2 : Int32) (v3 : Int32) (v4 : Int32) : P_X0_append_b0 σ v1 v2 v3 v4 = u2 (u2 (u2 (u2 (u2 σ 1 (upd (σ 1) ((P_X0_rowOf σ (σ 0 4)).toNatClampNeg) v1)) 2 (upd (σ 2) ((P_X0_rowOf σ (σ 0 4)).toNatClampNeg) v2)) 3 (upd (σ 3) ((P_X0_rowOf σ (σ 0 4)).toNatClampNeg) v3)) 4 (upd (σ 4) ((P_X0_rowOf σ (σ 0 4)).toNatClampNeg) v4)) 0 (upd (σ 0) 4 ((σ 0 4) + (1 : Int32))) := rfl
theorem S_X0_append_b0_e (σ : T2) (v1 : Int32) (v2 : Int32) (v3 : Int32) (v4 : Int32) : S_X0_append_b0 σ v1 v2 v3 v4 = ((S_X0_rowOf σ (σ 0 4)) ∧ ((vp_in (P_X0_rowOf σ (σ 0 4)) 64) ∧ ((vp_in (P_X0_rowOf σ (σ 0 4)) 64) ∧ ((vp_in (P_X0_rowOf σ (σ 0 4)) 64) ∧ ((vp_in (P_X0_rowOf σ (σ 0 4)) 64) ∧ (True)))))) := rfl
noncomputable def P_X0_append (σ : T2) (p0 : Int32) (p1 : Int32) (p2 : Int32) (p3 : Int32) : T2 := P_X0_append_b0 σ p0 p1 p2 p3
def S_X0_append (σ : T2) (p0 : Int32) (p1 : Int32) (p2 : Int32) (p3 : Int32) : Prop := S_X0_append_b0 σ p0 p1 p2 p3
set_option maxHeartbeats 400000 in
set_option maxRecDepth 100000 in
theorem b_X0_append_b0 {p : Program} {e : Env} {s : State} {m : MethodId} {args : Array Value} {below : List Frame} {meth : Method} {c : Code} (l : Launch) (D : va_G) (k : Nat → ClassId) (a : Nat → Nat) (A : Nat → Prop) (C0 : q_C p s m meth c args RX0 cX0_append 6 none wsX0_append D (tyL k) A) (R : T2) : ∀ (σ : T2) (v1 : Int32) (v2 : Int32) (v3 : Int32) (v4 : Int32), S_X0_append_b0 σ v1 v2 v3 v4 → P_X0_append_b0 σ v1 v2 v3 v4 = R → ∀ (H : Heap) (locs : List Loc) (ls : Array Slot), q_W D A s.heap (wX0 k a σ) H locs → lv_has ls 6 [(0, .ref (a 0)), (1, .int v1), (2, .int v2), (3, .int v3), (4, .int v4)] → W p l e { frames := 1, cells := 0, slots := 0, locals := 21 } s m args below meth c H locs 0 0 (MQ below (va_Qv (fun u => u = R) (fun u => q_E D (tyL k) A (wX0 k a u)) A) args s 0 0 A) (F0 m 0 ls []) := by
  intro σ v1 v2 v3 v4 hs hR H locs ls hW hl
  rw [P_X0_append_b0_e] at hR
  rw [S_X0_append_b0_e] at hs
  obtain ⟨hx, hb, hr, hml, hts, hown, hlocks, hK, hA⟩ := id C0
  have hf9 := hts (.fieldLink RX0 9 "BeatFollower$Blows" "times" "[I") (by decide +kernel)
  have hf15 := hts (.fieldLink RX0 15 "BeatFollower$Blows" "beats" "[I") (by decide +kernel)
  have hf18 := hts (.fieldLink RX0 18 "BeatFollower$Blows" "periods" "[I") (by decide +kernel)
  have hf21 := hts (.fieldLink RX0 21 "BeatFollower$Blows" "states" "[I") (by decide +kernel)
  have hf24 := hts (.fieldLink RX0 24 "BeatFollower$Blows" "many" "I") (by decide +kernel)
  have hinX0 : ∀ w ∈ u_ws RX0 TX0 5, w ∈ wsX0_append := hin_X0_append_X0
  refine lv_aload_n hx hb dX0_append_0 rfl (lv_at hl 0 rfl) ?_
  refine lv_aload_n hx hb dX0_append_1 rfl (lv_at hl 0 rfl) ?_
  refine va_get (v := .int (σ 0 4)) (C := RX0) (T := TX0) (N := 5) hx hb hts hinX0 hown hK hW.1 0 rfl rfl 4 (by decide) hf24 (fun _ h9 => h9) rfl dX0_append_2 ?_
  have hs1 := hs.1
  have hs := hs.2
  refine q_Vi (As := [.int (σ 0 4)]) (rest := []) (R := P_X0_rowOf σ (σ 0 4)) [0, 1, 2, 3, 4] [0, 1, 2, 3] 0 0 C0 hW (m_X0_rowOf l D k a _ σ (σ 0 4) hs1) (cwV 1 hts gX0_append_X0_rowOf rfl rfl rfl hd_X0_rowOf ⟨Nat.le_of_ble_eq_true rfl, Nat.le_of_ble_eq_true rfl⟩) (by decide) (wX0_pl k a _) rfl (wX0_rec k a _) rfl hl rfl rfl (Nat.le_of_ble_eq_true rfl) dX0_append_5 ⟨Nat.le_refl 0, Nat.le_refl 0⟩ ?_
  refine lv_istore (lv' := [(5, .int (P_X0_rowOf σ (σ 0 4))), (0, .ref (a 0)), (1, .int v1), (2, .int v2), (3, .int v3), (4, .int v4)]) hx hb dX0_append_8 hl (by decide) rfl (fun ls hl => ?_)
  refine lv_aload_n hx hb dX0_append_10 rfl (lv_at hl 1 rfl) ?_
  refine va_get (v := .ref (a 1)) (C := RX0) (T := TX0) (N := 5) hx hb hts hinX0 hown hK hW.1 0 rfl rfl 0 (by decide) hf9 (fun _ h9 => h9) rfl dX0_append_11 ?_
  refine lv_iload hx hb dX0_append_14 (lv_at hl 0 rfl) ?_
  refine lv_iload_n hx hb dX0_append_16 rfl (lv_at hl 2 rfl) ?_
  have hi2 := hs.1
  have hs := hs.2
  refine q_iast (f := σ 1) (wd' := wX0 k a (u2 σ 1 (upd (σ 1) ((P_X0_rowOf σ (σ 0 4)).toNatClampNeg) v1))) C0 hW 1 rfl rfl hi2 rfl dX0_append_17 (wX0_s1 k a _ _) (fun H locs hW => ?_)
  refine lv_aload_n hx hb dX0_append_18 rfl (lv_at hl 1 rfl) ?_
  refine va_get (v := .ref (a 2)) (C := RX0) (T := TX0) (N := 5) hx hb hts hinX0 hown hK hW.1 0 rfl rfl 1 (by decide) hf15 (fun _ h9 => h9) rfl dX0_append_19 ?_
  refine lv_iload hx hb dX0_append_22 (lv_at hl 0 rfl) ?_
  refine lv_iload_n hx hb dX0_append_24 rfl (lv_at hl 3 rfl) ?_
  have hi3 := hs.1
  have hs := hs.2
  refine q_iast (f := σ 2) (wd' := wX0 k a (u2 (u2 σ 1 (upd (σ 1) ((P_X0_rowOf σ (σ 0 4)).toNatClampNeg) v1)) 2 (upd (σ 2) ((P_X0_rowOf σ (σ 0 4)).toNatClampNeg) v2))) C0 hW 2 rfl rfl hi3 rfl dX0_append_25 (wX0_s2 k a _ _) (fun H locs hW => ?_)
  refine lv_aload_n hx hb dX0_append_26 rfl (lv_at hl 1 rfl) ?_
  refine va_get (v := .ref (a 3)) (C := RX0) (T := TX0) (N := 5) hx hb hts hinX0 hown hK hW.1 0 rfl rfl 2 (by decide) hf18 (fun _ h9 => h9) rfl dX0_append_27 ?_
  refine lv_iload hx hb dX0_append_30 (lv_at hl 0 rfl) ?_
  refine lv_iload_n hx hb dX0_append_32 rfl (lv_at hl 4 rfl) ?_
  have hi4 := hs.1
  have hs := hs.2
  refine q_iast (f := σ 3) (wd' := wX0 k a (u2 (u2 (u2 σ 1 (upd (σ 1) ((P_X0_rowOf σ (σ 0 4)).toNatClampNeg) v1)) 2 (upd (σ 2) ((P_X0_rowOf σ (σ 0 4)).toNatClampNeg) v2)) 3 (upd (σ 3) ((P_X0_rowOf σ (σ 0 4)).toNatClampNeg) v3))) C0 hW 3 rfl rfl hi4 rfl dX0_append_33 (wX0_s3 k a _ _) (fun H locs hW => ?_)
  refine lv_aload_n hx hb dX0_append_34 rfl (lv_at hl 1 rfl) ?_
  refine va_get (v := .ref (a 4)) (C := RX0) (T := TX0) (N := 5) hx hb hts hinX0 hown hK hW.1 0 rfl rfl 3 (by decide) hf21 (fun _ h9 => h9) rfl dX0_append_35 ?_
  refine lv_iload hx hb dX0_append_38 (lv_at hl 0 rfl) ?_
  refine lv_iload hx hb dX0_append_40 (lv_at hl 5 rfl) ?_
  have hi5 := hs.1
  have hs := hs.2
  refine q_iast (f := σ 4) (wd' := wX0 k a (u2 (u2 (u2 (u2 σ 1 (upd (σ 1) ((P_X0_rowOf σ (σ 0 4)).toNatClampNeg) v1)) 2 (upd (σ 2) ((P_X0_rowOf σ (σ 0 4)).toNatClampNeg) v2)) 3 (upd (σ 3) ((P_X0_rowOf σ (σ 0 4)).toNatClampNeg) v3)) 4 (upd (σ 4) ((P_X0_rowOf σ (σ 0 4)).toNatClampNeg) v4))) C0 hW 4 rfl rfl hi5 rfl dX0_append_42 (wX0_s4 k a _ _) (fun H locs hW => ?_)
  refine lv_aload_n hx hb dX0_append_43 rfl (lv_at hl 1 rfl) ?_
  refine lv_dup hx hb dX0_append_44 rfl ?_
  refine va_get (v := .int (σ 0 4)) (C := RX0) (T := TX0) (N := 5) hx hb hts hinX0 hown hK hW.1 0 rfl rfl 4 (by decide) hf24 (fun _ h9 => h9) rfl dX0_append_45 ?_
  refine lv_iconst (v := (1 : Int32)) hx hb dX0_append_48 (by decide) ?_
  refine lv_iadd hx hb dX0_append_49 ?_
  refine q_putf (ty := .int) (wd' := wX0 k a (u2 (u2 (u2 (u2 (u2 σ 1 (upd (σ 1) ((P_X0_rowOf σ (σ 0 4)).toNatClampNeg) v1)) 2 (upd (σ 2) ((P_X0_rowOf σ (σ 0 4)).toNatClampNeg) v2)) 3 (upd (σ 3) ((P_X0_rowOf σ (σ 0 4)).toNatClampNeg) v3)) 4 (upd (σ 4) ((P_X0_rowOf σ (σ 0 4)).toNatClampNeg) v4)) 0 (upd (σ 0) 4 ((σ 0 4) + (1 : Int32))))) C0 hW hinX0 tyX0 tyX0_ok nmX0 0 rfl rfl 4 (by decide) hf24 rfl (by decide +kernel) rfl rfl (Nat.le_of_ble_eq_true rfl) dX0_append_50 (fX0_s4 _ _ _) (wX0_s0 k a _ _) (fun H locs hW => ?_)
  exact q_vret C0 hW hR dX0_append_53
set_option maxHeartbeats 400000 in
set_option maxRecDepth 100000 in
theorem m_X0_append (l : Launch) (D : va_G) (k : Nat → ClassId) (a : Nat → Nat) (sz : Nat) (σ : T2) (p0 : Int32) (p1 : Int32) (p2 : Int32) (p3 : Int32) (hs : S_X0_append σ p0 p1 p2 p3) : Met l yX0_append wsX0_append { frames := 1, cells := 0, slots := 0, locals := 21 } (va_Pc [.ref (a 0), .int p0, .int p1, .int p2, .int p3] (q_B D (tyL k) (wX0 k a σ) sz)) (va_Qv (fun u => u = P_X0_append σ p0 p1 p2 p3) (fun u => q_E D (tyL k) (va_A (wX0 k a σ) sz) (wX0 k a u)) (va_A (wX0 k a σ) sz)) 0 0 (va_A (wX0 k a σ) sz) := by
  refine q_met [.ref (a 0), .int p0, .int p1, .int p2, .int p3] (wX0 k a σ) sz (cc := cX0_append) (maxL := 6) (ret := none) (by decide) rfl (Nat.le_of_ble_eq_true rfl) ?_
  intro p e s m args below meth c ls hsz C0 hW hl hin
  subst hsz
  exact b_X0_append_b0 l D k a _ C0 _ σ p0 p1 p2 p3 hs rfl s.heap [] ls hW (lv_sub hl [0, 1, 2, 3, 4] rfl)
theorem hin_X0_copyFrom_X0 : ∀ w ∈ u_ws RX0 TX0 5, w ∈ wsX0_copyFrom := by decide +kernel
theorem hd_X0_copyFrom : yX0_copyFrom.cls = RX0 ∧ yX0_copyFrom.cls ≠ "java/lang/invoke/MethodHandle" ∧ yX0_copyFrom.cls ≠ "java/lang/invoke/VarHandle" ∧ (parseMethodDescriptor yX0_copyFrom.desc).map (fun d => d.parameters.length) = some 1 := by decide +kernel
noncomputable def P_X0_copyFrom_b0 (σ : T2) : T2 := u2 (u2 (u2 (u2 (u2 σ 1 (va_cpy (σ 6) (σ 1) 0 0 64)) 2 (va_cpy (σ 7) (σ 2) 0 0 64)) 3 (va_cpy (σ 8) (σ 3) 0 0 64)) 4 (va_cpy (σ 9) (σ 4) 0 0 64)) 0 (upd (σ 0) 4 (σ 5 4))
def S_X0_copyFrom_b0 (σ : T2) : Prop := True
theorem P_X0_copyFrom_b0_e (σ : T2) : P_X0_copyFrom_b0 σ = u2 (u2 (u2 (u2 (u2 σ 1 (va_cpy (σ 6) (σ 1) 0 0 64)) 2 (va_cpy (σ 7) (σ 2) 0 0 64)) 3 (va_cpy (σ 8) (σ 3) 0 0 64)) 4 (va_cpy (σ 9) (σ 4) 0 0 64)) 0 (upd (σ 0) 4 (σ 5 4)) := rfl
theorem S_X0_copyFrom_b0_e (σ : T2) : S_X0_copyFrom_b0 σ = (True) := rfl
noncomputable def P_X0_copyFrom (σ : T2) : T2 := P_X0_copyFrom_b0 σ
def S_X0_copyFrom (σ : T2) : Prop := S_X0_copyFrom_b0 σ
set_option maxHeartbeats 400000 in
set_option maxRecDepth 100000 in
theorem b_X0_copyFrom_b0 {p : Program} {e : Env} {s : State} {m : MethodId} {args : Array Value} {below : List Frame} {meth : Method} {c : Code} (l : Launch) (D : va_G) (k : Nat → ClassId) (a : Nat → Nat) (A : Nat → Prop) (C0 : q_C p s m meth c args RX0 cX0_copyFrom 2 none wsX0_copyFrom D (tyL k) A) (R : T2) : ∀ (σ : T2), S_X0_copyFrom_b0 σ → P_X0_copyFrom_b0 σ = R → ∀ (H : Heap) (locs : List Loc) (ls : Array Slot), q_W D A s.heap (wX0_X0 k a σ) H locs → lv_has ls 2 [(0, .ref (a 0)), (1, .ref (a 5))] → W p l e { frames := 1, cells := 0, slots := 0, locals := 40 } s m args below meth c H locs 0 0 (MQ below (va_Qv (fun u => u = R) (fun u => q_E D (tyL k) A (wX0_X0 k a u)) A) args s 0 0 A) (F0 m 0 ls []) := by
  intro σ hs hR H locs ls hW hl
  rw [P_X0_copyFrom_b0_e] at hR
  rw [S_X0_copyFrom_b0_e] at hs
  obtain ⟨hx, hb, hr, hml, hts, hown, hlocks, hK, hA⟩ := id C0
  have hf9 := hts (.fieldLink RX0 9 "BeatFollower$Blows" "times" "[I") (by decide +kernel)
  have hf15 := hts (.fieldLink RX0 15 "BeatFollower$Blows" "beats" "[I") (by decide +kernel)
  have hf18 := hts (.fieldLink RX0 18 "BeatFollower$Blows" "periods" "[I") (by decide +kernel)
  have hf21 := hts (.fieldLink RX0 21 "BeatFollower$Blows" "states" "[I") (by decide +kernel)
  have hf24 := hts (.fieldLink RX0 24 "BeatFollower$Blows" "many" "I") (by decide +kernel)
  have hinX0 : ∀ w ∈ u_ws RX0 TX0 5, w ∈ wsX0_copyFrom := hin_X0_copyFrom_X0
  refine lv_aload_n hx hb dX0_copyFrom_0 rfl (lv_at hl 1 rfl) ?_
  refine va_get (v := .ref (a 6)) (C := RX0) (T := TX0) (N := 5) hx hb hts hinX0 hown hK hW.1 5 rfl rfl 0 (by decide) hf9 (fun _ h9 => h9) rfl dX0_copyFrom_1 ?_
  refine lv_iconst (v := (0 : Int32)) hx hb dX0_copyFrom_4 (by decide) ?_
  refine lv_aload_n hx hb dX0_copyFrom_5 rfl (lv_at hl 0 rfl) ?_
  refine va_get (v := .ref (a 1)) (C := RX0) (T := TX0) (N := 5) hx hb hts hinX0 hown hK hW.1 0 rfl rfl 0 (by decide) hf9 (fun _ h9 => h9) rfl dX0_copyFrom_6 ?_
  refine lv_iconst (v := (0 : Int32)) hx hb dX0_copyFrom_9 (by decide) ?_
  refine lv_bipush (v := (64 : Int32)) hx hb dX0_copyFrom_10 (by decide) ?_
  refine q_cpy (f := σ 6) (g := σ 1) (kn := 64) (wd' := wX0_X0 k a (u2 σ 1 (va_cpy (σ 6) (σ 1) 0 0 64))) C0 hW 6 1 rfl rfl rfl (by rw [hml]; exact hl.1.symm) (hts (.methodLink RX0 32 arraycopyName) (by decide +kernel)) (hts (.native arraycopyName) (by decide +kernel)) (hts (.static arraycopyName) (by decide +kernel)) (hts (.initialized "java/lang/System") (by decide +kernel)) (by decide) cl_64 (Nat.le_of_ble_eq_true rfl) (Nat.le_of_ble_eq_true rfl) (Nat.le_of_ble_eq_true rfl) (Nat.le_of_ble_eq_true rfl) dX0_copyFrom_12 (wX0_X0_s1 k a _ _) (fun H locs hW => ?_)
  refine lv_aload_n hx hb dX0_copyFrom_15 rfl (lv_at hl 1 rfl) ?_
  refine va_get (v := .ref (a 7)) (C := RX0) (T := TX0) (N := 5) hx hb hts hinX0 hown hK hW.1 5 rfl rfl 1 (by decide) hf15 (fun _ h9 => h9) rfl dX0_copyFrom_16 ?_
  refine lv_iconst (v := (0 : Int32)) hx hb dX0_copyFrom_19 (by decide) ?_
  refine lv_aload_n hx hb dX0_copyFrom_20 rfl (lv_at hl 0 rfl) ?_
  refine va_get (v := .ref (a 2)) (C := RX0) (T := TX0) (N := 5) hx hb hts hinX0 hown hK hW.1 0 rfl rfl 1 (by decide) hf15 (fun _ h9 => h9) rfl dX0_copyFrom_21 ?_
  refine lv_iconst (v := (0 : Int32)) hx hb dX0_copyFrom_24 (by decide) ?_
  refine lv_bipush (v := (64 : Int32)) hx hb dX0_copyFrom_25 (by decide) ?_
  refine q_cpy (f := σ 7) (g := σ 2) (kn := 64) (wd' := wX0_X0 k a (u2 (u2 σ 1 (va_cpy (σ 6) (σ 1) 0 0 64)) 2 (va_cpy (σ 7) (σ 2) 0 0 64))) C0 hW 7 2 rfl rfl rfl (by rw [hml]; exact hl.1.symm) (hts (.methodLink RX0 32 arraycopyName) (by decide +kernel)) (hts (.native arraycopyName) (by decide +kernel)) (hts (.static arraycopyName) (by decide +kernel)) (hts (.initialized "java/lang/System") (by decide +kernel)) (by decide) cl_64 (Nat.le_of_ble_eq_true rfl) (Nat.le_of_ble_eq_true rfl) (Nat.le_of_ble_eq_true rfl) (Nat.le_of_ble_eq_true rfl) dX0_copyFrom_27 (wX0_X0_s2 k a _ _) (fun H locs hW => ?_)
  refine lv_aload_n hx hb dX0_copyFrom_30 rfl (lv_at hl 1 rfl) ?_
  refine va_get (v := .ref (a 8)) (C := RX0) (T := TX0) (N := 5) hx hb hts hinX0 hown hK hW.1 5 rfl rfl 2 (by decide) hf18 (fun _ h9 => h9) rfl dX0_copyFrom_31 ?_
  refine lv_iconst (v := (0 : Int32)) hx hb dX0_copyFrom_34 (by decide) ?_
  refine lv_aload_n hx hb dX0_copyFrom_35 rfl (lv_at hl 0 rfl) ?_
  refine va_get (v := .ref (a 3)) (C := RX0) (T := TX0) (N := 5) hx hb hts hinX0 hown hK hW.1 0 rfl rfl 2 (by decide) hf18 (fun _ h9 => h9) rfl dX0_copyFrom_36 ?_
  refine lv_iconst (v := (0 : Int32)) hx hb dX0_copyFrom_39 (by decide) ?_
  refine lv_bipush (v := (64 : Int32)) hx hb dX0_copyFrom_40 (by decide) ?_
  refine q_cpy (f := σ 8) (g := σ 3) (kn := 64) (wd' := wX0_X0 k a (u2 (u2 (u2 σ 1 (va_cpy (σ 6) (σ 1) 0 0 64)) 2 (va_cpy (σ 7) (σ 2) 0 0 64)) 3 (va_cpy (σ 8) (σ 3) 0 0 64))) C0 hW 8 3 rfl rfl rfl (by rw [hml]; exact hl.1.symm) (hts (.methodLink RX0 32 arraycopyName) (by decide +kernel)) (hts (.native arraycopyName) (by decide +kernel)) (hts (.static arraycopyName) (by decide +kernel)) (hts (.initialized "java/lang/System") (by decide +kernel)) (by decide) cl_64 (Nat.le_of_ble_eq_true rfl) (Nat.le_of_ble_eq_true rfl) (Nat.le_of_ble_eq_true rfl) (Nat.le_of_ble_eq_true rfl) dX0_copyFrom_42 (wX0_X0_s3 k a _ _) (fun H locs hW => ?_)
  refine lv_aload_n hx hb dX0_copyFrom_45 rfl (lv_at hl 1 rfl) ?_
  refine va_get (v := .ref (a 9)) (C := RX0) (T := TX0) (N := 5) hx hb hts hinX0 hown hK hW.1 5 rfl rfl 3 (by decide) hf21 (fun _ h9 => h9) rfl dX0_copyFrom_46 ?_
  refine lv_iconst (v := (0 : Int32)) hx hb dX0_copyFrom_49 (by decide) ?_
  refine lv_aload_n hx hb dX0_copyFrom_50 rfl (lv_at hl 0 rfl) ?_
  refine va_get (v := .ref (a 4)) (C := RX0) (T := TX0) (N := 5) hx hb hts hinX0 hown hK hW.1 0 rfl rfl 3 (by decide) hf21 (fun _ h9 => h9) rfl dX0_copyFrom_51 ?_
  refine lv_iconst (v := (0 : Int32)) hx hb dX0_copyFrom_54 (by decide) ?_
  refine lv_bipush (v := (64 : Int32)) hx hb dX0_copyFrom_55 (by decide) ?_
  refine q_cpy (f := σ 9) (g := σ 4) (kn := 64) (wd' := wX0_X0 k a (u2 (u2 (u2 (u2 σ 1 (va_cpy (σ 6) (σ 1) 0 0 64)) 2 (va_cpy (σ 7) (σ 2) 0 0 64)) 3 (va_cpy (σ 8) (σ 3) 0 0 64)) 4 (va_cpy (σ 9) (σ 4) 0 0 64))) C0 hW 9 4 rfl rfl rfl (by rw [hml]; exact hl.1.symm) (hts (.methodLink RX0 32 arraycopyName) (by decide +kernel)) (hts (.native arraycopyName) (by decide +kernel)) (hts (.static arraycopyName) (by decide +kernel)) (hts (.initialized "java/lang/System") (by decide +kernel)) (by decide) cl_64 (Nat.le_of_ble_eq_true rfl) (Nat.le_of_ble_eq_true rfl) (Nat.le_of_ble_eq_true rfl) (Nat.le_of_ble_eq_true rfl) dX0_copyFrom_57 (wX0_X0_s4 k a _ _) (fun H locs hW => ?_)
  refine lv_aload_n hx hb dX0_copyFrom_60 rfl (lv_at hl 0 rfl) ?_
  refine lv_aload_n hx hb dX0_copyFrom_61 rfl (lv_at hl 1 rfl) ?_
  refine va_get (v := .int (σ 5 4)) (C := RX0) (T := TX0) (N := 5) hx hb hts hinX0 hown hK hW.1 5 rfl rfl 4 (by decide) hf24 (fun _ h9 => h9) rfl dX0_copyFrom_62 ?_
  refine q_putf (ty := .int) (wd' := wX0_X0 k a (u2 (u2 (u2 (u2 (u2 σ 1 (va_cpy (σ 6) (σ 1) 0 0 64)) 2 (va_cpy (σ 7) (σ 2) 0 0 64)) 3 (va_cpy (σ 8) (σ 3) 0 0 64)) 4 (va_cpy (σ 9) (σ 4) 0 0 64)) 0 (upd (σ 0) 4 (σ 5 4)))) C0 hW hinX0 tyX0 tyX0_ok nmX0 0 rfl rfl 4 (by decide) hf24 rfl (by decide +kernel) rfl rfl (Nat.le_of_ble_eq_true rfl) dX0_copyFrom_65 (fX0_s4 _ _ _) (wX0_X0_s0 k a _ _) (fun H locs hW => ?_)
  exact q_vret C0 hW hR dX0_copyFrom_68
set_option maxHeartbeats 400000 in
set_option maxRecDepth 100000 in
theorem m_X0_copyFrom (l : Launch) (D : va_G) (k : Nat → ClassId) (a : Nat → Nat) (sz : Nat) (σ : T2) (hs : S_X0_copyFrom σ) : Met l yX0_copyFrom wsX0_copyFrom { frames := 1, cells := 0, slots := 0, locals := 40 } (va_Pc [.ref (a 0), .ref (a 5)] (q_B D (tyL k) (wX0_X0 k a σ) sz)) (va_Qv (fun u => u = P_X0_copyFrom σ) (fun u => q_E D (tyL k) (va_A (wX0_X0 k a σ) sz) (wX0_X0 k a u)) (va_A (wX0_X0 k a σ) sz)) 0 0 (va_A (wX0_X0 k a σ) sz) := by
  refine q_met [.ref (a 0), .ref (a 5)] (wX0_X0 k a σ) sz (cc := cX0_copyFrom) (maxL := 2) (ret := none) (by decide) rfl (Nat.le_of_ble_eq_true rfl) ?_
  intro p e s m args below meth c ls hsz C0 hW hl hin
  subst hsz
  exact b_X0_copyFrom_b0 l D k a _ C0 _ σ  hs rfl s.heap [] ls hW (lv_sub hl [0, 1] rfl)
theorem hin_X1_begin_X1 : ∀ w ∈ u_ws RX1 TX1 7, w ∈ wsX1_begin := by decide +kernel
theorem hd_X1_begin : yX1_begin.cls = RX1 ∧ yX1_begin.cls ≠ "java/lang/invoke/MethodHandle" ∧ yX1_begin.cls ≠ "java/lang/invoke/VarHandle" ∧ (parseMethodDescriptor yX1_begin.desc).map (fun d => d.parameters.length) = some 1 := by decide +kernel
noncomputable def P_X1_begin_b0 (σ : T2) (v1 : Int32) : T2 := u2 σ 0 (upd (upd (upd (upd (upd (upd (upd (σ 0) 0 (0 : Int32)) 1 v1) 2 (-6 : Int32)) 3 (0 : Int32)) 4 (0 : Int32)) 5 (0 : Int32)) 6 (0 : Int32))
def S_X1_begin_b0 (σ : T2) (v1 : Int32) : Prop := True
theorem P_X1_begin_b0_e (σ : T2) (v1 : Int32) : P_X1_begin_b0 σ v1 = u2 σ 0 (upd (upd (upd (upd (upd (upd (upd (σ 0) 0 (0 : Int32)) 1 v1) 2 (-6 : Int32)) 3 (0 : Int32)) 4 (0 : Int32)) 5 (0 : Int32)) 6 (0 : Int32)) := rfl
theorem S_X1_begin_b0_e (σ : T2) (v1 : Int32) : S_X1_begin_b0 σ v1 = (True) := rfl
noncomputable def P_X1_begin (σ : T2) (p0 : Int32) : T2 := P_X1_begin_b0 σ p0
def S_X1_begin (σ : T2) (p0 : Int32) : Prop := S_X1_begin_b0 σ p0
set_option maxHeartbeats 400000 in
set_option maxRecDepth 100000 in
theorem b_X1_begin_b0 {p : Program} {e : Env} {s : State} {m : MethodId} {args : Array Value} {below : List Frame} {meth : Method} {c : Code} (l : Launch) (D : va_G) (k : Nat → ClassId) (a : Nat → Nat) (A : Nat → Prop) (C0 : q_C p s m meth c args RX1 cX1_begin 2 none wsX1_begin D (tyL k) A) (R : T2) : ∀ (σ : T2) (v1 : Int32), S_X1_begin_b0 σ v1 → P_X1_begin_b0 σ v1 = R → ∀ (H : Heap) (locs : List Loc) (ls : Array Slot), q_W D A s.heap (wX1 k a σ) H locs → lv_has ls 2 [(0, .ref (a 0)), (1, .int v1)] → W p l e { frames := 0, cells := 0, slots := 0, locals := 0 } s m args below meth c H locs 0 0 (MQ below (va_Qv (fun u => u = R) (fun u => q_E D (tyL k) A (wX1 k a u)) A) args s 0 0 A) (F0 m 0 ls []) := by
  intro σ v1 hs hR H locs ls hW hl
  rw [P_X1_begin_b0_e] at hR
  rw [S_X1_begin_b0_e] at hs
  obtain ⟨hx, hb, hr, hml, hts, hown, hlocks, hK, hA⟩ := id C0
  have hf9 := hts (.fieldLink RX1 9 "BeatFollower$Drummer" "state" "I") (by decide +kernel)
  have hf15 := hts (.fieldLink RX1 15 "BeatFollower$Drummer" "period" "I") (by decide +kernel)
  have hf18 := hts (.fieldLink RX1 18 "BeatFollower$Drummer" "nextBlow" "I") (by decide +kernel)
  have hf21 := hts (.fieldLink RX1 21 "BeatFollower$Drummer" "goodInRow" "I") (by decide +kernel)
  have hf24 := hts (.fieldLink RX1 24 "BeatFollower$Drummer" "badInRow" "I") (by decide +kernel)
  have hf27 := hts (.fieldLink RX1 27 "BeatFollower$Drummer" "heldInRow" "I") (by decide +kernel)
  have hf30 := hts (.fieldLink RX1 30 "BeatFollower$Drummer" "lead" "I") (by decide +kernel)
  have hinX1 : ∀ w ∈ u_ws RX1 TX1 7, w ∈ wsX1_begin := hin_X1_begin_X1
  refine lv_aload_n hx hb dX1_begin_0 rfl (lv_at hl 0 rfl) ?_
  refine lv_iconst (v := (0 : Int32)) hx hb dX1_begin_1 (by decide) ?_
  refine q_putf (ty := .int) (wd' := wX1 k a (u2 σ 0 (upd (σ 0) 0 (0 : Int32)))) C0 hW hinX1 tyX1 tyX1_ok nmX1 0 rfl rfl 0 (by decide) hf9 rfl (by decide +kernel) rfl rfl (Nat.le_of_ble_eq_true rfl) dX1_begin_2 (fX1_s0 _ _ _) (wX1_s0 k a _ _) (fun H locs hW => ?_)
  refine lv_aload_n hx hb dX1_begin_5 rfl (lv_at hl 0 rfl) ?_
  refine lv_iload_n hx hb dX1_begin_6 rfl (lv_at hl 1 rfl) ?_
  refine q_putf (ty := .int) (wd' := wX1 k a (u2 σ 0 (upd (upd (σ 0) 0 (0 : Int32)) 1 v1))) C0 hW hinX1 tyX1 tyX1_ok nmX1 0 rfl rfl 1 (by decide) hf15 rfl (by decide +kernel) rfl rfl (Nat.le_of_ble_eq_true rfl) dX1_begin_7 (fX1_s1 _ _ _) ((wX1_s0 k a _ _).trans (congrArg (wX1 k a) (u2_same _ _ _ _))) (fun H locs hW => ?_)
  refine lv_aload_n hx hb dX1_begin_10 rfl (lv_at hl 0 rfl) ?_
  refine lv_bipush (v := (-6 : Int32)) hx hb dX1_begin_11 (by decide) ?_
  refine q_putf (ty := .int) (wd' := wX1 k a (u2 σ 0 (upd (upd (upd (σ 0) 0 (0 : Int32)) 1 v1) 2 (-6 : Int32)))) C0 hW hinX1 tyX1 tyX1_ok nmX1 0 rfl rfl 2 (by decide) hf18 rfl (by decide +kernel) rfl rfl (Nat.le_of_ble_eq_true rfl) dX1_begin_13 (fX1_s2 _ _ _) ((wX1_s0 k a _ _).trans (congrArg (wX1 k a) (u2_same _ _ _ _))) (fun H locs hW => ?_)
  refine lv_aload_n hx hb dX1_begin_16 rfl (lv_at hl 0 rfl) ?_
  refine lv_iconst (v := (0 : Int32)) hx hb dX1_begin_17 (by decide) ?_
  refine q_putf (ty := .int) (wd' := wX1 k a (u2 σ 0 (upd (upd (upd (upd (σ 0) 0 (0 : Int32)) 1 v1) 2 (-6 : Int32)) 3 (0 : Int32)))) C0 hW hinX1 tyX1 tyX1_ok nmX1 0 rfl rfl 3 (by decide) hf21 rfl (by decide +kernel) rfl rfl (Nat.le_of_ble_eq_true rfl) dX1_begin_18 (fX1_s3 _ _ _) ((wX1_s0 k a _ _).trans (congrArg (wX1 k a) (u2_same _ _ _ _))) (fun H locs hW => ?_)
  refine lv_aload_n hx hb dX1_begin_21 rfl (lv_at hl 0 rfl) ?_
  refine lv_iconst (v := (0 : Int32)) hx hb dX1_begin_22 (by decide) ?_
  refine q_putf (ty := .int) (wd' := wX1 k a (u2 σ 0 (upd (upd (upd (upd (upd (σ 0) 0 (0 : Int32)) 1 v1) 2 (-6 : Int32)) 3 (0 : Int32)) 4 (0 : Int32)))) C0 hW hinX1 tyX1 tyX1_ok nmX1 0 rfl rfl 4 (by decide) hf24 rfl (by decide +kernel) rfl rfl (Nat.le_of_ble_eq_true rfl) dX1_begin_23 (fX1_s4 _ _ _) ((wX1_s0 k a _ _).trans (congrArg (wX1 k a) (u2_same _ _ _ _))) (fun H locs hW => ?_)
  refine lv_aload_n hx hb dX1_begin_26 rfl (lv_at hl 0 rfl) ?_
  refine lv_iconst (v := (0 : Int32)) hx hb dX1_begin_27 (by decide) ?_
  refine q_putf (ty := .int) (wd' := wX1 k a (u2 σ 0 (upd (upd (upd (upd (upd (upd (σ 0) 0 (0 : Int32)) 1 v1) 2 (-6 : Int32)) 3 (0 : Int32)) 4 (0 : Int32)) 5 (0 : Int32)))) C0 hW hinX1 tyX1 tyX1_ok nmX1 0 rfl rfl 5 (by decide) hf27 rfl (by decide +kernel) rfl rfl (Nat.le_of_ble_eq_true rfl) dX1_begin_28 (fX1_s5 _ _ _) ((wX1_s0 k a _ _).trans (congrArg (wX1 k a) (u2_same _ _ _ _))) (fun H locs hW => ?_)
  refine lv_aload_n hx hb dX1_begin_31 rfl (lv_at hl 0 rfl) ?_
  refine lv_iconst (v := (0 : Int32)) hx hb dX1_begin_32 (by decide) ?_
  refine q_putf (ty := .int) (wd' := wX1 k a (u2 σ 0 (upd (upd (upd (upd (upd (upd (upd (σ 0) 0 (0 : Int32)) 1 v1) 2 (-6 : Int32)) 3 (0 : Int32)) 4 (0 : Int32)) 5 (0 : Int32)) 6 (0 : Int32)))) C0 hW hinX1 tyX1 tyX1_ok nmX1 0 rfl rfl 6 (by decide) hf30 rfl (by decide +kernel) rfl rfl (Nat.le_of_ble_eq_true rfl) dX1_begin_33 (fX1_s6 _ _ _) ((wX1_s0 k a _ _).trans (congrArg (wX1 k a) (u2_same _ _ _ _))) (fun H locs hW => ?_)
  exact q_vret C0 hW hR dX1_begin_36
set_option maxHeartbeats 400000 in
set_option maxRecDepth 100000 in
theorem m_X1_begin (l : Launch) (D : va_G) (k : Nat → ClassId) (a : Nat → Nat) (sz : Nat) (σ : T2) (p0 : Int32) (hs : S_X1_begin σ p0) : Met l yX1_begin wsX1_begin { frames := 0, cells := 0, slots := 0, locals := 0 } (va_Pc [.ref (a 0), .int p0] (q_B D (tyL k) (wX1 k a σ) sz)) (va_Qv (fun u => u = P_X1_begin σ p0) (fun u => q_E D (tyL k) (va_A (wX1 k a σ) sz) (wX1 k a u)) (va_A (wX1 k a σ) sz)) 0 0 (va_A (wX1 k a σ) sz) := by
  refine q_met [.ref (a 0), .int p0] (wX1 k a σ) sz (cc := cX1_begin) (maxL := 2) (ret := none) (by decide) rfl (Nat.le_of_ble_eq_true rfl) ?_
  intro p e s m args below meth c ls hsz C0 hW hl hin
  subst hsz
  exact b_X1_begin_b0 l D k a _ C0 _ σ p0 hs rfl s.heap [] ls hW (lv_sub hl [0, 1] rfl)
theorem hin_X1_copyFrom_X1 : ∀ w ∈ u_ws RX1 TX1 7, w ∈ wsX1_copyFrom := by decide +kernel
theorem hd_X1_copyFrom : yX1_copyFrom.cls = RX1 ∧ yX1_copyFrom.cls ≠ "java/lang/invoke/MethodHandle" ∧ yX1_copyFrom.cls ≠ "java/lang/invoke/VarHandle" ∧ (parseMethodDescriptor yX1_copyFrom.desc).map (fun d => d.parameters.length) = some 1 := by decide +kernel
noncomputable def P_X1_copyFrom_b0 (σ : T2) : T2 := u2 σ 0 (upd (upd (upd (upd (upd (upd (upd (σ 0) 0 (σ 1 0)) 1 (σ 1 1)) 2 (σ 1 2)) 3 (σ 1 3)) 4 (σ 1 4)) 5 (σ 1 5)) 6 (σ 1 6))
def S_X1_copyFrom_b0 (σ : T2) : Prop := True
theorem P_X1_copyFrom_b0_e (σ : T2) : P_X1_copyFrom_b0 σ = u2 σ 0 (upd (upd (upd (upd (upd (upd (upd (σ 0) 0 (σ 1 0)) 1 (σ 1 1)) 2 (σ 1 2)) 3 (σ 1 3)) 4 (σ 1 4)) 5 (σ 1 5)) 6 (σ 1 6)) := rfl
theorem S_X1_copyFrom_b0_e (σ : T2) : S_X1_copyFrom_b0 σ = (True) := rfl
noncomputable def P_X1_copyFrom (σ : T2) : T2 := P_X1_copyFrom_b0 σ
def S_X1_copyFrom (σ : T2) : Prop := S_X1_copyFrom_b0 σ
set_option maxHeartbeats 400000 in
set_option maxRecDepth 100000 in
theorem b_X1_copyFrom_b0 {p : Program} {e : Env} {s : State} {m : MethodId} {args : Array Value} {below : List Frame} {meth : Method} {c : Code} (l : Launch) (D : va_G) (k : Nat → ClassId) (a : Nat → Nat) (A : Nat → Prop) (C0 : q_C p s m meth c args RX1 cX1_copyFrom 2 none wsX1_copyFrom D (tyL k) A) (R : T2) : ∀ (σ : T2), S_X1_copyFrom_b0 σ → P_X1_copyFrom_b0 σ = R → ∀ (H : Heap) (locs : List Loc) (ls : Array Slot), q_W D A s.heap (wX1_X1 k a σ) H locs → lv_has ls 2 [(0, .ref (a 0)), (1, .ref (a 1))] → W p l e { frames := 0, cells := 0, slots := 0, locals := 0 } s m args below meth c H locs 0 0 (MQ below (va_Qv (fun u => u = R) (fun u => q_E D (tyL k) A (wX1_X1 k a u)) A) args s 0 0 A) (F0 m 0 ls []) := by
  intro σ hs hR H locs ls hW hl
  rw [P_X1_copyFrom_b0_e] at hR
  rw [S_X1_copyFrom_b0_e] at hs
  obtain ⟨hx, hb, hr, hml, hts, hown, hlocks, hK, hA⟩ := id C0
  have hf9 := hts (.fieldLink RX1 9 "BeatFollower$Drummer" "state" "I") (by decide +kernel)
  have hf15 := hts (.fieldLink RX1 15 "BeatFollower$Drummer" "period" "I") (by decide +kernel)
  have hf18 := hts (.fieldLink RX1 18 "BeatFollower$Drummer" "nextBlow" "I") (by decide +kernel)
  have hf21 := hts (.fieldLink RX1 21 "BeatFollower$Drummer" "goodInRow" "I") (by decide +kernel)
  have hf24 := hts (.fieldLink RX1 24 "BeatFollower$Drummer" "badInRow" "I") (by decide +kernel)
  have hf27 := hts (.fieldLink RX1 27 "BeatFollower$Drummer" "heldInRow" "I") (by decide +kernel)
  have hf30 := hts (.fieldLink RX1 30 "BeatFollower$Drummer" "lead" "I") (by decide +kernel)
  have hinX1 : ∀ w ∈ u_ws RX1 TX1 7, w ∈ wsX1_copyFrom := hin_X1_copyFrom_X1
  refine lv_aload_n hx hb dX1_copyFrom_0 rfl (lv_at hl 0 rfl) ?_
  refine lv_aload_n hx hb dX1_copyFrom_1 rfl (lv_at hl 1 rfl) ?_
  refine va_get (v := .int (σ 1 0)) (C := RX1) (T := TX1) (N := 7) hx hb hts hinX1 hown hK hW.1 1 rfl rfl 0 (by decide) hf9 (fun _ h9 => h9) rfl dX1_copyFrom_2 ?_
  refine q_putf (ty := .int) (wd' := wX1_X1 k a (u2 σ 0 (upd (σ 0) 0 (σ 1 0)))) C0 hW hinX1 tyX1 tyX1_ok nmX1 0 rfl rfl 0 (by decide) hf9 rfl (by decide +kernel) rfl rfl (Nat.le_of_ble_eq_true rfl) dX1_copyFrom_5 (fX1_s0 _ _ _) (wX1_X1_s0 k a _ _) (fun H locs hW => ?_)
  refine lv_aload_n hx hb dX1_copyFrom_8 rfl (lv_at hl 0 rfl) ?_
  refine lv_aload_n hx hb dX1_copyFrom_9 rfl (lv_at hl 1 rfl) ?_
  refine va_get (v := .int (σ 1 1)) (C := RX1) (T := TX1) (N := 7) hx hb hts hinX1 hown hK hW.1 1 rfl rfl 1 (by decide) hf15 (fun _ h9 => h9) rfl dX1_copyFrom_10 ?_
  refine q_putf (ty := .int) (wd' := wX1_X1 k a (u2 σ 0 (upd (upd (σ 0) 0 (σ 1 0)) 1 (σ 1 1)))) C0 hW hinX1 tyX1 tyX1_ok nmX1 0 rfl rfl 1 (by decide) hf15 rfl (by decide +kernel) rfl rfl (Nat.le_of_ble_eq_true rfl) dX1_copyFrom_13 (fX1_s1 _ _ _) ((wX1_X1_s0 k a _ _).trans (congrArg (wX1_X1 k a) (u2_same _ _ _ _))) (fun H locs hW => ?_)
  refine lv_aload_n hx hb dX1_copyFrom_16 rfl (lv_at hl 0 rfl) ?_
  refine lv_aload_n hx hb dX1_copyFrom_17 rfl (lv_at hl 1 rfl) ?_
  refine va_get (v := .int (σ 1 2)) (C := RX1) (T := TX1) (N := 7) hx hb hts hinX1 hown hK hW.1 1 rfl rfl 2 (by decide) hf18 (fun _ h9 => h9) rfl dX1_copyFrom_18 ?_
  refine q_putf (ty := .int) (wd' := wX1_X1 k a (u2 σ 0 (upd (upd (upd (σ 0) 0 (σ 1 0)) 1 (σ 1 1)) 2 (σ 1 2)))) C0 hW hinX1 tyX1 tyX1_ok nmX1 0 rfl rfl 2 (by decide) hf18 rfl (by decide +kernel) rfl rfl (Nat.le_of_ble_eq_true rfl) dX1_copyFrom_21 (fX1_s2 _ _ _) ((wX1_X1_s0 k a _ _).trans (congrArg (wX1_X1 k a) (u2_same _ _ _ _))) (fun H locs hW => ?_)
  refine lv_aload_n hx hb dX1_copyFrom_24 rfl (lv_at hl 0 rfl) ?_
  refine lv_aload_n hx hb dX1_copyFrom_25 rfl (lv_at hl 1 rfl) ?_
  refine va_get (v := .int (σ 1 3)) (C := RX1) (T := TX1) (N := 7) hx hb hts hinX1 hown hK hW.1 1 rfl rfl 3 (by decide) hf21 (fun _ h9 => h9) rfl dX1_copyFrom_26 ?_
  refine q_putf (ty := .int) (wd' := wX1_X1 k a (u2 σ 0 (upd (upd (upd (upd (σ 0) 0 (σ 1 0)) 1 (σ 1 1)) 2 (σ 1 2)) 3 (σ 1 3)))) C0 hW hinX1 tyX1 tyX1_ok nmX1 0 rfl rfl 3 (by decide) hf21 rfl (by decide +kernel) rfl rfl (Nat.le_of_ble_eq_true rfl) dX1_copyFrom_29 (fX1_s3 _ _ _) ((wX1_X1_s0 k a _ _).trans (congrArg (wX1_X1 k a) (u2_same _ _ _ _))) (fun H locs hW => ?_)
  refine lv_aload_n hx hb dX1_copyFrom_32 rfl (lv_at hl 0 rfl) ?_
  refine lv_aload_n hx hb dX1_copyFrom_33 rfl (lv_at hl 1 rfl) ?_
  refine va_get (v := .int (σ 1 4)) (C := RX1) (T := TX1) (N := 7) hx hb hts hinX1 hown hK hW.1 1 rfl rfl 4 (by decide) hf24 (fun _ h9 => h9) rfl dX1_copyFrom_34 ?_
  refine q_putf (ty := .int) (wd' := wX1_X1 k a (u2 σ 0 (upd (upd (upd (upd (upd (σ 0) 0 (σ 1 0)) 1 (σ 1 1)) 2 (σ 1 2)) 3 (σ 1 3)) 4 (σ 1 4)))) C0 hW hinX1 tyX1 tyX1_ok nmX1 0 rfl rfl 4 (by decide) hf24 rfl (by decide +kernel) rfl rfl (Nat.le_of_ble_eq_true rfl) dX1_copyFrom_37 (fX1_s4 _ _ _) ((wX1_X1_s0 k a _ _).trans (congrArg (wX1_X1 k a) (u2_same _ _ _ _))) (fun H locs hW => ?_)
  refine lv_aload_n hx hb dX1_copyFrom_40 rfl (lv_at hl 0 rfl) ?_
  refine lv_aload_n hx hb dX1_copyFrom_41 rfl (lv_at hl 1 rfl) ?_
  refine va_get (v := .int (σ 1 5)) (C := RX1) (T := TX1) (N := 7) hx hb hts hinX1 hown hK hW.1 1 rfl rfl 5 (by decide) hf27 (fun _ h9 => h9) rfl dX1_copyFrom_42 ?_
  refine q_putf (ty := .int) (wd' := wX1_X1 k a (u2 σ 0 (upd (upd (upd (upd (upd (upd (σ 0) 0 (σ 1 0)) 1 (σ 1 1)) 2 (σ 1 2)) 3 (σ 1 3)) 4 (σ 1 4)) 5 (σ 1 5)))) C0 hW hinX1 tyX1 tyX1_ok nmX1 0 rfl rfl 5 (by decide) hf27 rfl (by decide +kernel) rfl rfl (Nat.le_of_ble_eq_true rfl) dX1_copyFrom_45 (fX1_s5 _ _ _) ((wX1_X1_s0 k a _ _).trans (congrArg (wX1_X1 k a) (u2_same _ _ _ _))) (fun H locs hW => ?_)
  refine lv_aload_n hx hb dX1_copyFrom_48 rfl (lv_at hl 0 rfl) ?_
  refine lv_aload_n hx hb dX1_copyFrom_49 rfl (lv_at hl 1 rfl) ?_
  refine va_get (v := .int (σ 1 6)) (C := RX1) (T := TX1) (N := 7) hx hb hts hinX1 hown hK hW.1 1 rfl rfl 6 (by decide) hf30 (fun _ h9 => h9) rfl dX1_copyFrom_50 ?_
  refine q_putf (ty := .int) (wd' := wX1_X1 k a (u2 σ 0 (upd (upd (upd (upd (upd (upd (upd (σ 0) 0 (σ 1 0)) 1 (σ 1 1)) 2 (σ 1 2)) 3 (σ 1 3)) 4 (σ 1 4)) 5 (σ 1 5)) 6 (σ 1 6)))) C0 hW hinX1 tyX1 tyX1_ok nmX1 0 rfl rfl 6 (by decide) hf30 rfl (by decide +kernel) rfl rfl (Nat.le_of_ble_eq_true rfl) dX1_copyFrom_53 (fX1_s6 _ _ _) ((wX1_X1_s0 k a _ _).trans (congrArg (wX1_X1 k a) (u2_same _ _ _ _))) (fun H locs hW => ?_)
  exact q_vret C0 hW hR dX1_copyFrom_56
set_option maxHeartbeats 400000 in
set_option maxRecDepth 100000 in
theorem m_X1_copyFrom (l : Launch) (D : va_G) (k : Nat → ClassId) (a : Nat → Nat) (sz : Nat) (σ : T2) (hs : S_X1_copyFrom σ) : Met l yX1_copyFrom wsX1_copyFrom { frames := 0, cells := 0, slots := 0, locals := 0 } (va_Pc [.ref (a 0), .ref (a 1)] (q_B D (tyL k) (wX1_X1 k a σ) sz)) (va_Qv (fun u => u = P_X1_copyFrom σ) (fun u => q_E D (tyL k) (va_A (wX1_X1 k a σ) sz) (wX1_X1 k a u)) (va_A (wX1_X1 k a σ) sz)) 0 0 (va_A (wX1_X1 k a σ) sz) := by
  refine q_met [.ref (a 0), .ref (a 1)] (wX1_X1 k a σ) sz (cc := cX1_copyFrom) (maxL := 2) (ret := none) (by decide) rfl (Nat.le_of_ble_eq_true rfl) ?_
  intro p e s m args below meth c ls hsz C0 hW hl hin
  subst hsz
  exact b_X1_copyFrom_b0 l D k a _ C0 _ σ  hs rfl s.heap [] ls hW (lv_sub hl [0, 1] rfl)
theorem hd_X2_hasRow : yX2_hasRow.cls ≠ "java/lang/invoke/MethodHandle" ∧ yX2_hasRow.cls ≠ "java/lang/invoke/VarHandle" ∧ (parseMethodDescriptor yX2_hasRow.desc).map (fun d => d.parameters.length) = some 1 := by decide +kernel
noncomputable def P_X2_hasRow_b0 (v0 : Int32) : Int32 := if v0 < 0 then ((0 : Int32)) else (if (64 : Int32) ≤ v0 then ((0 : Int32)) else ((1 : Int32)))
def S_X2_hasRow_b0 (v0 : Int32) : Prop := (v0 < 0 → (True)) ∧ (¬ (v0 < 0) → (((64 : Int32) ≤ v0 → (True)) ∧ (¬ ((64 : Int32) ≤ v0) → (True))))
theorem P_X2_hasRow_b0_e (v0 : Int32) : P_X2_hasRow_b0 v0 = if v0 < 0 then ((0 : Int32)) else (if (64 : Int32) ≤ v0 then ((0 : Int32)) else ((1 : Int32))) := rfl
theorem S_X2_hasRow_b0_e (v0 : Int32) : S_X2_hasRow_b0 v0 = ((v0 < 0 → (True)) ∧ (¬ (v0 < 0) → (((64 : Int32) ≤ v0 → (True)) ∧ (¬ ((64 : Int32) ≤ v0) → (True))))) := rfl
noncomputable def P_X2_hasRow (p0 : Int32) : Int32 := P_X2_hasRow_b0 p0
def S_X2_hasRow (p0 : Int32) : Prop := S_X2_hasRow_b0 p0
set_option maxHeartbeats 400000 in
set_option maxRecDepth 100000 in
theorem b_X2_hasRow_b0 {p : Program} {e : Env} {s : State} {m : MethodId} {args : Array Value} {below : List Frame} {meth : Method} {c : Code} (l : Launch) (C0 : q_C1 p s m meth c args RX2 cX2_hasRow 1 (some .boolean) wsX2_hasRow) (R : Int32) : ∀ (v0 : Int32), S_X2_hasRow_b0 v0 → P_X2_hasRow_b0 v0 = R → ∀ (H : Heap) (locs : List Loc) (ls : Array Slot), lv_has ls 1 [(0, .int v0)] → W p l e { frames := 0, cells := 0, slots := 0, locals := 0 } s m args below meth c s.heap [] 0 0 (MQ below (vp_Si (fun r => r = R)) args s 0 0 (fun _ => False)) (F0 m 0 ls []) := by
  intro v0 hs hR H locs ls hl
  rw [P_X2_hasRow_b0_e] at hR
  rw [S_X2_hasRow_b0_e] at hs
  obtain ⟨hx, hb, hr, hml, hts, hown, hlocks⟩ := id C0
  refine lv_iload_n hx hb dX2_hasRow_0 rfl (lv_at hl 0 rfl) ?_
  refine lv_if_lt (tgt := 14) hx hb dX2_hasRow_1 (by decide) (fun c_1 => ?_) (fun c_1 => ?_)
  · have hs := hs.1 c_1
    rw [if_pos c_1] at hR
    refine lv_iconst (v := (0 : Int32)) hx hb dX2_hasRow_14 (by decide) ?_
    exact q_zretrs C0 (by decide) hR dX2_hasRow_15
  · have hs := hs.2 c_1
    rw [if_neg c_1] at hR
    refine lv_iload_n hx hb dX2_hasRow_4 rfl (lv_at hl 0 rfl) ?_
    refine lv_bipush (v := (64 : Int32)) hx hb dX2_hasRow_5 (by decide) ?_
    refine lv_icmp_ge (tgt := 14) hx hb dX2_hasRow_7 (by decide) (fun c_2 => ?_) (fun c_2 => ?_)
    · have hs := hs.1 c_2
      rw [if_pos c_2] at hR
      refine lv_iconst (v := (0 : Int32)) hx hb dX2_hasRow_14 (by decide) ?_
      exact q_zretrs C0 (by decide) hR dX2_hasRow_15
    · have hs := hs.2 c_2
      rw [if_neg c_2] at hR
      refine lv_iconst (v := (1 : Int32)) hx hb dX2_hasRow_10 (by decide) ?_
      refine lv_goto (tgt := 15) hx hb dX2_hasRow_11 (by decide) ?_
      exact q_zretrs C0 (by decide) hR dX2_hasRow_15
set_option maxHeartbeats 400000 in
set_option maxRecDepth 100000 in
theorem m_X2_hasRow (l : Launch) (p0 : Int32) (hs : S_X2_hasRow p0) : Met l yX2_hasRow wsX2_hasRow { frames := 0, cells := 0, slots := 0, locals := 0 } (va_Pc [.int p0] (fun _ => True)) (vp_Si (fun r => r = P_X2_hasRow p0)) 0 0 (fun _ => False) := by
  refine q_mets [.int p0] (cc := cX2_hasRow) (maxL := 1) (ret := (some .boolean)) (by decide) rfl (Nat.le_of_ble_eq_true rfl) ?_
  intro p e s m args below meth c ls C0 hl
  exact b_X2_hasRow_b0 l C0 _ p0 hs rfl s.heap [] ls (lv_sub hl [0] rfl)
theorem hin_X2_note_X2 : ∀ w ∈ u_ws RX2 TX2 4, w ∈ wsX2_note := by decide +kernel
theorem hd_X2_note : yX2_note.cls = RX2 ∧ yX2_note.cls ≠ "java/lang/invoke/MethodHandle" ∧ yX2_note.cls ≠ "java/lang/invoke/VarHandle" ∧ (parseMethodDescriptor yX2_note.desc).map (fun d => d.parameters.length) = some 5 := by decide +kernel
noncomputable def P_X2_note_b0 (σ : T2) (v1 : Int32) (v2 : Int32) (v3 : Int32) (v4 : Int32) (v5 : Int32) : T2 := if (P_X2_hasRow v1) = 0 then (σ) else (u2 (u2 (u2 (u2 σ 1 (upd (σ 1) v1.toNatClampNeg v2)) 2 (upd (σ 2) v1.toNatClampNeg v3)) 3 (upd (σ 3) v1.toNatClampNeg v4)) 4 (upd (σ 4) v1.toNatClampNeg v5))
def S_X2_note_b0 (σ : T2) (v1 : Int32) (v2 : Int32) (v3 : Int32) (v4 : Int32) (v5 : Int32) : Prop := (S_X2_hasRow v1) ∧ (((P_X2_hasRow v1) = 0 → (True)) ∧ (¬ ((P_X2_hasRow v1) = 0) → ((vp_in v1 64) ∧ ((vp_in v1 64) ∧ ((vp_in v1 64) ∧ ((vp_in v1 64) ∧ (True)))))))
theorem P_X2_note_b0_e (σ : T2) (v1 : Int32) (v2 : Int32) (v3 : Int32) (v4 : Int32) (v5 : Int32) : P_X2_note_b0 σ v1 v2 v3 v4 v5 = if (P_X2_hasRow v1) = 0 then (σ) else (u2 (u2 (u2 (u2 σ 1 (upd (σ 1) v1.toNatClampNeg v2)) 2 (upd (σ 2) v1.toNatClampNeg v3)) 3 (upd (σ 3) v1.toNatClampNeg v4)) 4 (upd (σ 4) v1.toNatClampNeg v5)) := rfl
theorem S_X2_note_b0_e (σ : T2) (v1 : Int32) (v2 : Int32) (v3 : Int32) (v4 : Int32) (v5 : Int32) : S_X2_note_b0 σ v1 v2 v3 v4 v5 = ((S_X2_hasRow v1) ∧ (((P_X2_hasRow v1) = 0 → (True)) ∧ (¬ ((P_X2_hasRow v1) = 0) → ((vp_in v1 64) ∧ ((vp_in v1 64) ∧ ((vp_in v1 64) ∧ ((vp_in v1 64) ∧ (True)))))))) := rfl
noncomputable def P_X2_note (σ : T2) (p0 : Int32) (p1 : Int32) (p2 : Int32) (p3 : Int32) (p4 : Int32) : T2 := P_X2_note_b0 σ p0 p1 p2 p3 p4
def S_X2_note (σ : T2) (p0 : Int32) (p1 : Int32) (p2 : Int32) (p3 : Int32) (p4 : Int32) : Prop := S_X2_note_b0 σ p0 p1 p2 p3 p4
set_option maxHeartbeats 400000 in
set_option maxRecDepth 100000 in
theorem b_X2_note_b0 {p : Program} {e : Env} {s : State} {m : MethodId} {args : Array Value} {below : List Frame} {meth : Method} {c : Code} (l : Launch) (D : va_G) (k : Nat → ClassId) (a : Nat → Nat) (A : Nat → Prop) (C0 : q_C p s m meth c args RX2 cX2_note 6 none wsX2_note D (tyL k) A) (R : T2) : ∀ (σ : T2) (v1 : Int32) (v2 : Int32) (v3 : Int32) (v4 : Int32) (v5 : Int32), S_X2_note_b0 σ v1 v2 v3 v4 v5 → P_X2_note_b0 σ v1 v2 v3 v4 v5 = R → ∀ (H : Heap) (locs : List Loc) (ls : Array Slot), q_W D A s.heap (wX2 k a σ) H locs → lv_has ls 6 [(0, .ref (a 0)), (1, .int v1), (2, .int v2), (3, .int v3), (4, .int v4), (5, .int v5)] → W p l e { frames := 1, cells := 0, slots := 0, locals := 20 } s m args below meth c H locs 0 0 (MQ below (va_Qv (fun u => u = R) (fun u => q_E D (tyL k) A (wX2 k a u)) A) args s 0 0 A) (F0 m 0 ls []) := by
  intro σ v1 v2 v3 v4 v5 hs hR H locs ls hW hl
  rw [P_X2_note_b0_e] at hR
  rw [S_X2_note_b0_e] at hs
  obtain ⟨hx, hb, hr, hml, hts, hown, hlocks, hK, hA⟩ := id C0
  have hf9 := hts (.fieldLink RX2 9 "BeatFollower$Fates" "kinds" "[I") (by decide +kernel)
  have hf15 := hts (.fieldLink RX2 15 "BeatFollower$Fates" "blows" "[I") (by decide +kernel)
  have hf18 := hts (.fieldLink RX2 18 "BeatFollower$Fates" "offs" "[I") (by decide +kernel)
  have hf21 := hts (.fieldLink RX2 21 "BeatFollower$Fates" "slips" "[I") (by decide +kernel)
  have hinX2 : ∀ w ∈ u_ws RX2 TX2 4, w ∈ wsX2_note := hin_X2_note_X2
  refine lv_iload_n hx hb dX2_note_0 rfl (lv_at hl 1 rfl) ?_
  have hs1 := hs.1
  have hs := hs.2
  refine q_Si (As := [.int v1]) (rest := []) (R := P_X2_hasRow v1) ⟨hx, hb, hml, hown, hts⟩ (m_X2_hasRow l v1 hs1) (va_cwS 1 hts gX2_note_X2_hasRow rfl rfl rfl hd_X2_hasRow ⟨Nat.le_of_ble_eq_true rfl, Nat.le_of_ble_eq_true rfl⟩) hl rfl rfl (Nat.le_of_ble_eq_true rfl) dX2_note_1 ⟨Nat.le_refl 0, Nat.le_refl 0⟩ ?_
  refine lv_if_eq (tgt := 37) hx hb dX2_note_4 (by decide) (fun c_2 => ?_) (fun c_2 => ?_)
  · have hs := hs.1 c_2
    rw [if_pos c_2] at hR
    exact q_vret C0 hW hR dX2_note_37
  · have hs := hs.2 c_2
    rw [if_neg c_2] at hR
    refine lv_aload_n hx hb dX2_note_7 rfl (lv_at hl 0 rfl) ?_
    refine va_get (v := .ref (a 1)) (C := RX2) (T := TX2) (N := 4) hx hb hts hinX2 hown hK hW.1 0 rfl rfl 0 (by decide) hf9 (fun _ h9 => h9) rfl dX2_note_8 ?_
    refine lv_iload_n hx hb dX2_note_11 rfl (lv_at hl 1 rfl) ?_
    refine lv_iload_n hx hb dX2_note_12 rfl (lv_at hl 2 rfl) ?_
    have hi3 := hs.1
    have hs := hs.2
    refine q_iast (f := σ 1) (wd' := wX2 k a (u2 σ 1 (upd (σ 1) v1.toNatClampNeg v2))) C0 hW 1 rfl rfl hi3 rfl dX2_note_13 (wX2_s1 k a _ _) (fun H locs hW => ?_)
    refine lv_aload_n hx hb dX2_note_14 rfl (lv_at hl 0 rfl) ?_
    refine va_get (v := .ref (a 2)) (C := RX2) (T := TX2) (N := 4) hx hb hts hinX2 hown hK hW.1 0 rfl rfl 1 (by decide) hf15 (fun _ h9 => h9) rfl dX2_note_15 ?_
    refine lv_iload_n hx hb dX2_note_18 rfl (lv_at hl 1 rfl) ?_
    refine lv_iload_n hx hb dX2_note_19 rfl (lv_at hl 3 rfl) ?_
    have hi4 := hs.1
    have hs := hs.2
    refine q_iast (f := σ 2) (wd' := wX2 k a (u2 (u2 σ 1 (upd (σ 1) v1.toNatClampNeg v2)) 2 (upd (σ 2) v1.toNatClampNeg v3))) C0 hW 2 rfl rfl hi4 rfl dX2_note_20 (wX2_s2 k a _ _) (fun H locs hW => ?_)
    refine lv_aload_n hx hb dX2_note_21 rfl (lv_at hl 0 rfl) ?_
    refine va_get (v := .ref (a 3)) (C := RX2) (T := TX2) (N := 4) hx hb hts hinX2 hown hK hW.1 0 rfl rfl 2 (by decide) hf18 (fun _ h9 => h9) rfl dX2_note_22 ?_
    refine lv_iload_n hx hb dX2_note_25 rfl (lv_at hl 1 rfl) ?_
    refine lv_iload hx hb dX2_note_26 (lv_at hl 4 rfl) ?_
    have hi5 := hs.1
    have hs := hs.2
    refine q_iast (f := σ 3) (wd' := wX2 k a (u2 (u2 (u2 σ 1 (upd (σ 1) v1.toNatClampNeg v2)) 2 (upd (σ 2) v1.toNatClampNeg v3)) 3 (upd (σ 3) v1.toNatClampNeg v4))) C0 hW 3 rfl rfl hi5 rfl dX2_note_28 (wX2_s3 k a _ _) (fun H locs hW => ?_)
    refine lv_aload_n hx hb dX2_note_29 rfl (lv_at hl 0 rfl) ?_
    refine va_get (v := .ref (a 4)) (C := RX2) (T := TX2) (N := 4) hx hb hts hinX2 hown hK hW.1 0 rfl rfl 3 (by decide) hf21 (fun _ h9 => h9) rfl dX2_note_30 ?_
    refine lv_iload_n hx hb dX2_note_33 rfl (lv_at hl 1 rfl) ?_
    refine lv_iload hx hb dX2_note_34 (lv_at hl 5 rfl) ?_
    have hi6 := hs.1
    have hs := hs.2
    refine q_iast (f := σ 4) (wd' := wX2 k a (u2 (u2 (u2 (u2 σ 1 (upd (σ 1) v1.toNatClampNeg v2)) 2 (upd (σ 2) v1.toNatClampNeg v3)) 3 (upd (σ 3) v1.toNatClampNeg v4)) 4 (upd (σ 4) v1.toNatClampNeg v5))) C0 hW 4 rfl rfl hi6 rfl dX2_note_36 (wX2_s4 k a _ _) (fun H locs hW => ?_)
    exact q_vret C0 hW hR dX2_note_37
set_option maxHeartbeats 400000 in
set_option maxRecDepth 100000 in
theorem m_X2_note (l : Launch) (D : va_G) (k : Nat → ClassId) (a : Nat → Nat) (sz : Nat) (σ : T2) (p0 : Int32) (p1 : Int32) (p2 : Int32) (p3 : Int32) (p4 : Int32) (hs : S_X2_note σ p0 p1 p2 p3 p4) : Met l yX2_note wsX2_note { frames := 1, cells := 0, slots := 0, locals := 20 } (va_Pc [.ref (a 0), .int p0, .int p1, .int p2, .int p3, .int p4] (q_B D (tyL k) (wX2 k a σ) sz)) (va_Qv (fun u => u = P_X2_note σ p0 p1 p2 p3 p4) (fun u => q_E D (tyL k) (va_A (wX2 k a σ) sz) (wX2 k a u)) (va_A (wX2 k a σ) sz)) 0 0 (va_A (wX2 k a σ) sz) := by
  refine q_met [.ref (a 0), .int p0, .int p1, .int p2, .int p3, .int p4] (wX2 k a σ) sz (cc := cX2_note) (maxL := 6) (ret := none) (by decide) rfl (Nat.le_of_ble_eq_true rfl) ?_
  intro p e s m args below meth c ls hsz C0 hW hl hin
  subst hsz
  exact b_X2_note_b0 l D k a _ C0 _ σ p0 p1 p2 p3 p4 hs rfl s.heap [] ls hW (lv_sub hl [0, 1, 2, 3, 4, 5] rfl)
theorem hin_X2_kindOf_X2 : ∀ w ∈ u_ws RX2 TX2 4, w ∈ wsX2_kindOf := by decide +kernel
theorem hd_X2_kindOf : yX2_kindOf.cls = RX2 ∧ yX2_kindOf.cls ≠ "java/lang/invoke/MethodHandle" ∧ yX2_kindOf.cls ≠ "java/lang/invoke/VarHandle" ∧ (parseMethodDescriptor yX2_kindOf.desc).map (fun d => d.parameters.length) = some 1 := by decide +kernel
noncomputable def P_X2_kindOf_b0 (σ : T2) (v1 : Int32) : Int32 := if (P_X2_hasRow v1) = 0 then ((0 : Int32)) else (σ 1 v1.toNatClampNeg)
def S_X2_kindOf_b0 (σ : T2) (v1 : Int32) : Prop := (S_X2_hasRow v1) ∧ (((P_X2_hasRow v1) = 0 → (True)) ∧ (¬ ((P_X2_hasRow v1) = 0) → ((vp_in v1 64) ∧ (True))))
theorem P_X2_kindOf_b0_e (σ : T2) (v1 : Int32) : P_X2_kindOf_b0 σ v1 = if (P_X2_hasRow v1) = 0 then ((0 : Int32)) else (σ 1 v1.toNatClampNeg) := rfl
theorem S_X2_kindOf_b0_e (σ : T2) (v1 : Int32) : S_X2_kindOf_b0 σ v1 = ((S_X2_hasRow v1) ∧ (((P_X2_hasRow v1) = 0 → (True)) ∧ (¬ ((P_X2_hasRow v1) = 0) → ((vp_in v1 64) ∧ (True))))) := rfl
noncomputable def P_X2_kindOf (σ : T2) (p0 : Int32) : Int32 := P_X2_kindOf_b0 σ p0
def S_X2_kindOf (σ : T2) (p0 : Int32) : Prop := S_X2_kindOf_b0 σ p0
set_option maxHeartbeats 400000 in
set_option maxRecDepth 100000 in
theorem b_X2_kindOf_b0 {p : Program} {e : Env} {s : State} {m : MethodId} {args : Array Value} {below : List Frame} {meth : Method} {c : Code} (l : Launch) (D : va_G) (k : Nat → ClassId) (a : Nat → Nat) (A : Nat → Prop) (C0 : q_C p s m meth c args RX2 cX2_kindOf 2 (some .int) wsX2_kindOf D (tyL k) A) (R : Int32) : ∀ (σ : T2) (v1 : Int32), S_X2_kindOf_b0 σ v1 → P_X2_kindOf_b0 σ v1 = R → ∀ (H : Heap) (locs : List Loc) (ls : Array Slot), q_W D A s.heap (wX2 k a σ) s.heap [] → lv_has ls 2 [(0, .ref (a 0)), (1, .int v1)] → W p l e { frames := 1, cells := 0, slots := 0, locals := 20 } s m args below meth c s.heap [] 0 0 (MQ below (vp_Si (fun r => r = R)) args s 0 0 (fun _ => False)) (F0 m 0 ls []) := by
  intro σ v1 hs hR H locs ls hW hl
  rw [P_X2_kindOf_b0_e] at hR
  rw [S_X2_kindOf_b0_e] at hs
  obtain ⟨hx, hb, hr, hml, hts, hown, hlocks, hK, hA⟩ := id C0
  have hf9 := hts (.fieldLink RX2 9 "BeatFollower$Fates" "kinds" "[I") (by decide +kernel)
  have hinX2 : ∀ w ∈ u_ws RX2 TX2 4, w ∈ wsX2_kindOf := hin_X2_kindOf_X2
  refine lv_iload_n hx hb dX2_kindOf_0 rfl (lv_at hl 1 rfl) ?_
  have hs1 := hs.1
  have hs := hs.2
  refine q_Si (As := [.int v1]) (rest := []) (R := P_X2_hasRow v1) ⟨hx, hb, hml, hown, hts⟩ (m_X2_hasRow l v1 hs1) (va_cwS 1 hts gX2_kindOf_X2_hasRow rfl rfl rfl hd_X2_hasRow ⟨Nat.le_of_ble_eq_true rfl, Nat.le_of_ble_eq_true rfl⟩) hl rfl rfl (Nat.le_of_ble_eq_true rfl) dX2_kindOf_1 ⟨Nat.le_refl 0, Nat.le_refl 0⟩ ?_
  refine lv_if_eq (tgt := 16) hx hb dX2_kindOf_4 (by decide) (fun c_2 => ?_) (fun c_2 => ?_)
  · have hs := hs.1 c_2
    rw [if_pos c_2] at hR
    refine lv_iconst (v := (0 : Int32)) hx hb dX2_kindOf_16 (by decide) ?_
    exact q_iretr C0 hR dX2_kindOf_17
  · have hs := hs.2 c_2
    rw [if_neg c_2] at hR
    refine lv_aload_n hx hb dX2_kindOf_7 rfl (lv_at hl 0 rfl) ?_
    refine va_get (v := .ref (a 1)) (C := RX2) (T := TX2) (N := 4) hx hb hts hinX2 hown hK hW.1 0 rfl rfl 0 (by decide) hf9 (fun _ h9 => h9) rfl dX2_kindOf_8 ?_
    refine lv_iload_n hx hb dX2_kindOf_11 rfl (lv_at hl 1 rfl) ?_
    have hi3 := hs.1
    have hs := hs.2
    refine q_iald (v := σ 1 v1.toNatClampNeg) C0 hW 1 rfl rfl hi3 rfl rfl dX2_kindOf_12 ?_
    refine lv_goto (tgt := 17) hx hb dX2_kindOf_13 (by decide) ?_
    exact q_iretr C0 hR dX2_kindOf_17
set_option maxHeartbeats 400000 in
set_option maxRecDepth 100000 in
theorem m_X2_kindOf (l : Launch) (D : va_G) (k : Nat → ClassId) (a : Nat → Nat) (sz : Nat) (σ : T2) (p0 : Int32) (hs : S_X2_kindOf σ p0) : Met l yX2_kindOf wsX2_kindOf { frames := 1, cells := 0, slots := 0, locals := 20 } (va_Pc [.ref (a 0), .int p0] (q_B D (tyL k) (wX2 k a σ) sz)) (vp_Si (fun r => r = P_X2_kindOf σ p0)) 0 0 (fun _ => False) := by
  refine q_met [.ref (a 0), .int p0] (wX2 k a σ) sz (cc := cX2_kindOf) (maxL := 2) (ret := (some .int)) (by decide) rfl (Nat.le_of_ble_eq_true rfl) ?_
  intro p e s m args below meth c ls hsz C0 hW hl hin
  subst hsz
  exact b_X2_kindOf_b0 l D k a _ C0 _ σ p0 hs rfl s.heap [] ls hW (lv_sub hl [0, 1] rfl)
theorem hin_X2_blowOf_X2 : ∀ w ∈ u_ws RX2 TX2 4, w ∈ wsX2_blowOf := by decide +kernel
theorem hd_X2_blowOf : yX2_blowOf.cls = RX2 ∧ yX2_blowOf.cls ≠ "java/lang/invoke/MethodHandle" ∧ yX2_blowOf.cls ≠ "java/lang/invoke/VarHandle" ∧ (parseMethodDescriptor yX2_blowOf.desc).map (fun d => d.parameters.length) = some 1 := by decide +kernel
noncomputable def P_X2_blowOf_b0 (σ : T2) (v1 : Int32) : Int32 := if (P_X2_hasRow v1) = 0 then ((-6 : Int32)) else (σ 2 v1.toNatClampNeg)
def S_X2_blowOf_b0 (σ : T2) (v1 : Int32) : Prop := (S_X2_hasRow v1) ∧ (((P_X2_hasRow v1) = 0 → (True)) ∧ (¬ ((P_X2_hasRow v1) = 0) → ((vp_in v1 64) ∧ (True))))
theorem P_X2_blowOf_b0_e (σ : T2) (v1 : Int32) : P_X2_blowOf_b0 σ v1 = if (P_X2_hasRow v1) = 0 then ((-6 : Int32)) else (σ 2 v1.toNatClampNeg) := rfl
theorem S_X2_blowOf_b0_e (σ : T2) (v1 : Int32) : S_X2_blowOf_b0 σ v1 = ((S_X2_hasRow v1) ∧ (((P_X2_hasRow v1) = 0 → (True)) ∧ (¬ ((P_X2_hasRow v1) = 0) → ((vp_in v1 64) ∧ (True))))) := rfl
noncomputable def P_X2_blowOf (σ : T2) (p0 : Int32) : Int32 := P_X2_blowOf_b0 σ p0
def S_X2_blowOf (σ : T2) (p0 : Int32) : Prop := S_X2_blowOf_b0 σ p0
set_option maxHeartbeats 400000 in
set_option maxRecDepth 100000 in
theorem b_X2_blowOf_b0 {p : Program} {e : Env} {s : State} {m : MethodId} {args : Array Value} {below : List Frame} {meth : Method} {c : Code} (l : Launch) (D : va_G) (k : Nat → ClassId) (a : Nat → Nat) (A : Nat → Prop) (C0 : q_C p s m meth c args RX2 cX2_blowOf 2 (some .int) wsX2_blowOf D (tyL k) A) (R : Int32) : ∀ (σ : T2) (v1 : Int32), S_X2_blowOf_b0 σ v1 → P_X2_blowOf_b0 σ v1 = R → ∀ (H : Heap) (locs : List Loc) (ls : Array Slot), q_W D A s.heap (wX2 k a σ) s.heap [] → lv_has ls 2 [(0, .ref (a 0)), (1, .int v1)] → W p l e { frames := 1, cells := 0, slots := 0, locals := 20 } s m args below meth c s.heap [] 0 0 (MQ below (vp_Si (fun r => r = R)) args s 0 0 (fun _ => False)) (F0 m 0 ls []) := by
  intro σ v1 hs hR H locs ls hW hl
  rw [P_X2_blowOf_b0_e] at hR
  rw [S_X2_blowOf_b0_e] at hs
  obtain ⟨hx, hb, hr, hml, hts, hown, hlocks, hK, hA⟩ := id C0
  have hf15 := hts (.fieldLink RX2 15 "BeatFollower$Fates" "blows" "[I") (by decide +kernel)
  have hinX2 : ∀ w ∈ u_ws RX2 TX2 4, w ∈ wsX2_blowOf := hin_X2_blowOf_X2
  refine lv_iload_n hx hb dX2_blowOf_0 rfl (lv_at hl 1 rfl) ?_
  have hs1 := hs.1
  have hs := hs.2
  refine q_Si (As := [.int v1]) (rest := []) (R := P_X2_hasRow v1) ⟨hx, hb, hml, hown, hts⟩ (m_X2_hasRow l v1 hs1) (va_cwS 1 hts gX2_blowOf_X2_hasRow rfl rfl rfl hd_X2_hasRow ⟨Nat.le_of_ble_eq_true rfl, Nat.le_of_ble_eq_true rfl⟩) hl rfl rfl (Nat.le_of_ble_eq_true rfl) dX2_blowOf_1 ⟨Nat.le_refl 0, Nat.le_refl 0⟩ ?_
  refine lv_if_eq (tgt := 16) hx hb dX2_blowOf_4 (by decide) (fun c_2 => ?_) (fun c_2 => ?_)
  · have hs := hs.1 c_2
    rw [if_pos c_2] at hR
    refine lv_bipush (v := (-6 : Int32)) hx hb dX2_blowOf_16 (by decide) ?_
    exact q_iretr C0 hR dX2_blowOf_18
  · have hs := hs.2 c_2
    rw [if_neg c_2] at hR
    refine lv_aload_n hx hb dX2_blowOf_7 rfl (lv_at hl 0 rfl) ?_
    refine va_get (v := .ref (a 2)) (C := RX2) (T := TX2) (N := 4) hx hb hts hinX2 hown hK hW.1 0 rfl rfl 1 (by decide) hf15 (fun _ h9 => h9) rfl dX2_blowOf_8 ?_
    refine lv_iload_n hx hb dX2_blowOf_11 rfl (lv_at hl 1 rfl) ?_
    have hi3 := hs.1
    have hs := hs.2
    refine q_iald (v := σ 2 v1.toNatClampNeg) C0 hW 2 rfl rfl hi3 rfl rfl dX2_blowOf_12 ?_
    refine lv_goto (tgt := 18) hx hb dX2_blowOf_13 (by decide) ?_
    exact q_iretr C0 hR dX2_blowOf_18
set_option maxHeartbeats 400000 in
set_option maxRecDepth 100000 in
theorem m_X2_blowOf (l : Launch) (D : va_G) (k : Nat → ClassId) (a : Nat → Nat) (sz : Nat) (σ : T2) (p0 : Int32) (hs : S_X2_blowOf σ p0) : Met l yX2_blowOf wsX2_blowOf { frames := 1, cells := 0, slots := 0, locals := 20 } (va_Pc [.ref (a 0), .int p0] (q_B D (tyL k) (wX2 k a σ) sz)) (vp_Si (fun r => r = P_X2_blowOf σ p0)) 0 0 (fun _ => False) := by
  refine q_met [.ref (a 0), .int p0] (wX2 k a σ) sz (cc := cX2_blowOf) (maxL := 2) (ret := (some .int)) (by decide) rfl (Nat.le_of_ble_eq_true rfl) ?_
  intro p e s m args below meth c ls hsz C0 hW hl hin
  subst hsz
  exact b_X2_blowOf_b0 l D k a _ C0 _ σ p0 hs rfl s.heap [] ls hW (lv_sub hl [0, 1] rfl)
theorem hin_X2_offOf_X2 : ∀ w ∈ u_ws RX2 TX2 4, w ∈ wsX2_offOf := by decide +kernel
theorem hd_X2_offOf : yX2_offOf.cls = RX2 ∧ yX2_offOf.cls ≠ "java/lang/invoke/MethodHandle" ∧ yX2_offOf.cls ≠ "java/lang/invoke/VarHandle" ∧ (parseMethodDescriptor yX2_offOf.desc).map (fun d => d.parameters.length) = some 1 := by decide +kernel
noncomputable def P_X2_offOf_b0 (σ : T2) (v1 : Int32) : Int32 := if (P_X2_hasRow v1) = 0 then ((-6 : Int32)) else (σ 3 v1.toNatClampNeg)
def S_X2_offOf_b0 (σ : T2) (v1 : Int32) : Prop := (S_X2_hasRow v1) ∧ (((P_X2_hasRow v1) = 0 → (True)) ∧ (¬ ((P_X2_hasRow v1) = 0) → ((vp_in v1 64) ∧ (True))))
theorem P_X2_offOf_b0_e (σ : T2) (v1 : Int32) : P_X2_offOf_b0 σ v1 = if (P_X2_hasRow v1) = 0 then ((-6 : Int32)) else (σ 3 v1.toNatClampNeg) := rfl
theorem S_X2_offOf_b0_e (σ : T2) (v1 : Int32) : S_X2_offOf_b0 σ v1 = ((S_X2_hasRow v1) ∧ (((P_X2_hasRow v1) = 0 → (True)) ∧ (¬ ((P_X2_hasRow v1) = 0) → ((vp_in v1 64) ∧ (True))))) := rfl
noncomputable def P_X2_offOf (σ : T2) (p0 : Int32) : Int32 := P_X2_offOf_b0 σ p0
def S_X2_offOf (σ : T2) (p0 : Int32) : Prop := S_X2_offOf_b0 σ p0
set_option maxHeartbeats 400000 in
set_option maxRecDepth 100000 in
theorem b_X2_offOf_b0 {p : Program} {e : Env} {s : State} {m : MethodId} {args : Array Value} {below : List Frame} {meth : Method} {c : Code} (l : Launch) (D : va_G) (k : Nat → ClassId) (a : Nat → Nat) (A : Nat → Prop) (C0 : q_C p s m meth c args RX2 cX2_offOf 2 (some .int) wsX2_offOf D (tyL k) A) (R : Int32) : ∀ (σ : T2) (v1 : Int32), S_X2_offOf_b0 σ v1 → P_X2_offOf_b0 σ v1 = R → ∀ (H : Heap) (locs : List Loc) (ls : Array Slot), q_W D A s.heap (wX2 k a σ) s.heap [] → lv_has ls 2 [(0, .ref (a 0)), (1, .int v1)] → W p l e { frames := 1, cells := 0, slots := 0, locals := 20 } s m args below meth c s.heap [] 0 0 (MQ below (vp_Si (fun r => r = R)) args s 0 0 (fun _ => False)) (F0 m 0 ls []) := by
  intro σ v1 hs hR H locs ls hW hl
  rw [P_X2_offOf_b0_e] at hR
  rw [S_X2_offOf_b0_e] at hs
  obtain ⟨hx, hb, hr, hml, hts, hown, hlocks, hK, hA⟩ := id C0
  have hf18 := hts (.fieldLink RX2 18 "BeatFollower$Fates" "offs" "[I") (by decide +kernel)
  have hinX2 : ∀ w ∈ u_ws RX2 TX2 4, w ∈ wsX2_offOf := hin_X2_offOf_X2
  refine lv_iload_n hx hb dX2_offOf_0 rfl (lv_at hl 1 rfl) ?_
  have hs1 := hs.1
  have hs := hs.2
  refine q_Si (As := [.int v1]) (rest := []) (R := P_X2_hasRow v1) ⟨hx, hb, hml, hown, hts⟩ (m_X2_hasRow l v1 hs1) (va_cwS 1 hts gX2_offOf_X2_hasRow rfl rfl rfl hd_X2_hasRow ⟨Nat.le_of_ble_eq_true rfl, Nat.le_of_ble_eq_true rfl⟩) hl rfl rfl (Nat.le_of_ble_eq_true rfl) dX2_offOf_1 ⟨Nat.le_refl 0, Nat.le_refl 0⟩ ?_
  refine lv_if_eq (tgt := 16) hx hb dX2_offOf_4 (by decide) (fun c_2 => ?_) (fun c_2 => ?_)
  · have hs := hs.1 c_2
    rw [if_pos c_2] at hR
    refine lv_bipush (v := (-6 : Int32)) hx hb dX2_offOf_16 (by decide) ?_
    exact q_iretr C0 hR dX2_offOf_18
  · have hs := hs.2 c_2
    rw [if_neg c_2] at hR
    refine lv_aload_n hx hb dX2_offOf_7 rfl (lv_at hl 0 rfl) ?_
    refine va_get (v := .ref (a 3)) (C := RX2) (T := TX2) (N := 4) hx hb hts hinX2 hown hK hW.1 0 rfl rfl 2 (by decide) hf18 (fun _ h9 => h9) rfl dX2_offOf_8 ?_
    refine lv_iload_n hx hb dX2_offOf_11 rfl (lv_at hl 1 rfl) ?_
    have hi3 := hs.1
    have hs := hs.2
    refine q_iald (v := σ 3 v1.toNatClampNeg) C0 hW 3 rfl rfl hi3 rfl rfl dX2_offOf_12 ?_
    refine lv_goto (tgt := 18) hx hb dX2_offOf_13 (by decide) ?_
    exact q_iretr C0 hR dX2_offOf_18
set_option maxHeartbeats 400000 in
set_option maxRecDepth 100000 in
theorem m_X2_offOf (l : Launch) (D : va_G) (k : Nat → ClassId) (a : Nat → Nat) (sz : Nat) (σ : T2) (p0 : Int32) (hs : S_X2_offOf σ p0) : Met l yX2_offOf wsX2_offOf { frames := 1, cells := 0, slots := 0, locals := 20 } (va_Pc [.ref (a 0), .int p0] (q_B D (tyL k) (wX2 k a σ) sz)) (vp_Si (fun r => r = P_X2_offOf σ p0)) 0 0 (fun _ => False) := by
  refine q_met [.ref (a 0), .int p0] (wX2 k a σ) sz (cc := cX2_offOf) (maxL := 2) (ret := (some .int)) (by decide) rfl (Nat.le_of_ble_eq_true rfl) ?_
  intro p e s m args below meth c ls hsz C0 hW hl hin
  subst hsz
  exact b_X2_offOf_b0 l D k a _ C0 _ σ p0 hs rfl s.heap [] ls hW (lv_sub hl [0, 1] rfl)
theorem hin_X2_slipOf_X2 : ∀ w ∈ u_ws RX2 TX2 4, w ∈ wsX2_slipOf := by decide +kernel
theorem hd_X2_slipOf : yX2_slipOf.cls = RX2 ∧ yX2_slipOf.cls ≠ "java/lang/invoke/MethodHandle" ∧ yX2_slipOf.cls ≠ "java/lang/invoke/VarHandle" ∧ (parseMethodDescriptor yX2_slipOf.desc).map (fun d => d.parameters.length) = some 1 := by decide +kernel
noncomputable def P_X2_slipOf_b0 (σ : T2) (v1 : Int32) : Int32 := if (P_X2_hasRow v1) = 0 then ((-6 : Int32)) else (σ 4 v1.toNatClampNeg)
def S_X2_slipOf_b0 (σ : T2) (v1 : Int32) : Prop := (S_X2_hasRow v1) ∧ (((P_X2_hasRow v1) = 0 → (True)) ∧ (¬ ((P_X2_hasRow v1) = 0) → ((vp_in v1 64) ∧ (True))))
theorem P_X2_slipOf_b0_e (σ : T2) (v1 : Int32) : P_X2_slipOf_b0 σ v1 = if (P_X2_hasRow v1) = 0 then ((-6 : Int32)) else (σ 4 v1.toNatClampNeg) := rfl
theorem S_X2_slipOf_b0_e (σ : T2) (v1 : Int32) : S_X2_slipOf_b0 σ v1 = ((S_X2_hasRow v1) ∧ (((P_X2_hasRow v1) = 0 → (True)) ∧ (¬ ((P_X2_hasRow v1) = 0) → ((vp_in v1 64) ∧ (True))))) := rfl
noncomputable def P_X2_slipOf (σ : T2) (p0 : Int32) : Int32 := P_X2_slipOf_b0 σ p0
def S_X2_slipOf (σ : T2) (p0 : Int32) : Prop := S_X2_slipOf_b0 σ p0
set_option maxHeartbeats 400000 in
set_option maxRecDepth 100000 in
theorem b_X2_slipOf_b0 {p : Program} {e : Env} {s : State} {m : MethodId} {args : Array Value} {below : List Frame} {meth : Method} {c : Code} (l : Launch) (D : va_G) (k : Nat → ClassId) (a : Nat → Nat) (A : Nat → Prop) (C0 : q_C p s m meth c args RX2 cX2_slipOf 2 (some .int) wsX2_slipOf D (tyL k) A) (R : Int32) : ∀ (σ : T2) (v1 : Int32), S_X2_slipOf_b0 σ v1 → P_X2_slipOf_b0 σ v1 = R → ∀ (H : Heap) (locs : List Loc) (ls : Array Slot), q_W D A s.heap (wX2 k a σ) s.heap [] → lv_has ls 2 [(0, .ref (a 0)), (1, .int v1)] → W p l e { frames := 1, cells := 0, slots := 0, locals := 20 } s m args below meth c s.heap [] 0 0 (MQ below (vp_Si (fun r => r = R)) args s 0 0 (fun _ => False)) (F0 m 0 ls []) := by
  intro σ v1 hs hR H locs ls hW hl
  rw [P_X2_slipOf_b0_e] at hR
  rw [S_X2_slipOf_b0_e] at hs
  obtain ⟨hx, hb, hr, hml, hts, hown, hlocks, hK, hA⟩ := id C0
  have hf21 := hts (.fieldLink RX2 21 "BeatFollower$Fates" "slips" "[I") (by decide +kernel)
  have hinX2 : ∀ w ∈ u_ws RX2 TX2 4, w ∈ wsX2_slipOf := hin_X2_slipOf_X2
  refine lv_iload_n hx hb dX2_slipOf_0 rfl (lv_at hl 1 rfl) ?_
  have hs1 := hs.1
  have hs := hs.2
  refine q_Si (As := [.int v1]) (rest := []) (R := P_X2_hasRow v1) ⟨hx, hb, hml, hown, hts⟩ (m_X2_hasRow l v1 hs1) (va_cwS 1 hts gX2_slipOf_X2_hasRow rfl rfl rfl hd_X2_hasRow ⟨Nat.le_of_ble_eq_true rfl, Nat.le_of_ble_eq_true rfl⟩) hl rfl rfl (Nat.le_of_ble_eq_true rfl) dX2_slipOf_1 ⟨Nat.le_refl 0, Nat.le_refl 0⟩ ?_
  refine lv_if_eq (tgt := 16) hx hb dX2_slipOf_4 (by decide) (fun c_2 => ?_) (fun c_2 => ?_)
  · have hs := hs.1 c_2
    rw [if_pos c_2] at hR
    refine lv_bipush (v := (-6 : Int32)) hx hb dX2_slipOf_16 (by decide) ?_
    exact q_iretr C0 hR dX2_slipOf_18
  · have hs := hs.2 c_2
    rw [if_neg c_2] at hR
    refine lv_aload_n hx hb dX2_slipOf_7 rfl (lv_at hl 0 rfl) ?_
    refine va_get (v := .ref (a 4)) (C := RX2) (T := TX2) (N := 4) hx hb hts hinX2 hown hK hW.1 0 rfl rfl 3 (by decide) hf21 (fun _ h9 => h9) rfl dX2_slipOf_8 ?_
    refine lv_iload_n hx hb dX2_slipOf_11 rfl (lv_at hl 1 rfl) ?_
    have hi3 := hs.1
    have hs := hs.2
    refine q_iald (v := σ 4 v1.toNatClampNeg) C0 hW 4 rfl rfl hi3 rfl rfl dX2_slipOf_12 ?_
    refine lv_goto (tgt := 18) hx hb dX2_slipOf_13 (by decide) ?_
    exact q_iretr C0 hR dX2_slipOf_18
set_option maxHeartbeats 400000 in
set_option maxRecDepth 100000 in
theorem m_X2_slipOf (l : Launch) (D : va_G) (k : Nat → ClassId) (a : Nat → Nat) (sz : Nat) (σ : T2) (p0 : Int32) (hs : S_X2_slipOf σ p0) : Met l yX2_slipOf wsX2_slipOf { frames := 1, cells := 0, slots := 0, locals := 20 } (va_Pc [.ref (a 0), .int p0] (q_B D (tyL k) (wX2 k a σ) sz)) (vp_Si (fun r => r = P_X2_slipOf σ p0)) 0 0 (fun _ => False) := by
  refine q_met [.ref (a 0), .int p0] (wX2 k a σ) sz (cc := cX2_slipOf) (maxL := 2) (ret := (some .int)) (by decide) rfl (Nat.le_of_ble_eq_true rfl) ?_
  intro p e s m args below meth c ls hsz C0 hW hl hin
  subst hsz
  exact b_X2_slipOf_b0 l D k a _ C0 _ σ p0 hs rfl s.heap [] ls hW (lv_sub hl [0, 1] rfl)
theorem hin_X2_copyFrom_X2 : ∀ w ∈ u_ws RX2 TX2 4, w ∈ wsX2_copyFrom := by decide +kernel
theorem hd_X2_copyFrom : yX2_copyFrom.cls = RX2 ∧ yX2_copyFrom.cls ≠ "java/lang/invoke/MethodHandle" ∧ yX2_copyFrom.cls ≠ "java/lang/invoke/VarHandle" ∧ (parseMethodDescriptor yX2_copyFrom.desc).map (fun d => d.parameters.length) = some 1 := by decide +kernel
noncomputable def P_X2_copyFrom_b0 (σ : T2) : T2 := u2 (u2 (u2 (u2 σ 1 (va_cpy (σ 6) (σ 1) 0 0 64)) 2 (va_cpy (σ 7) (σ 2) 0 0 64)) 3 (va_cpy (σ 8) (σ 3) 0 0 64)) 4 (va_cpy (σ 9) (σ 4) 0 0 64)
def S_X2_copyFrom_b0 (σ : T2) : Prop := True
theorem P_X2_copyFrom_b0_e (σ : T2) : P_X2_copyFrom_b0 σ = u2 (u2 (u2 (u2 σ 1 (va_cpy (σ 6) (σ 1) 0 0 64)) 2 (va_cpy (σ 7) (σ 2) 0 0 64)) 3 (va_cpy (σ 8) (σ 3) 0 0 64)) 4 (va_cpy (σ 9) (σ 4) 0 0 64) := rfl
theorem S_X2_copyFrom_b0_e (σ : T2) : S_X2_copyFrom_b0 σ = (True) := rfl
noncomputable def P_X2_copyFrom (σ : T2) : T2 := P_X2_copyFrom_b0 σ
def S_X2_copyFrom (σ : T2) : Prop := S_X2_copyFrom_b0 σ
set_option maxHeartbeats 400000 in
set_option maxRecDepth 100000 in
theorem b_X2_copyFrom_b0 {p : Program} {e : Env} {s : State} {m : MethodId} {args : Array Value} {below : List Frame} {meth : Method} {c : Code} (l : Launch) (D : va_G) (k : Nat → ClassId) (a : Nat → Nat) (A : Nat → Prop) (C0 : q_C p s m meth c args RX2 cX2_copyFrom 2 none wsX2_copyFrom D (tyL k) A) (R : T2) : ∀ (σ : T2), S_X2_copyFrom_b0 σ → P_X2_copyFrom_b0 σ = R → ∀ (H : Heap) (locs : List Loc) (ls : Array Slot), q_W D A s.heap (wX2_X2 k a σ) H locs → lv_has ls 2 [(0, .ref (a 0)), (1, .ref (a 5))] → W p l e { frames := 1, cells := 0, slots := 0, locals := 40 } s m args below meth c H locs 0 0 (MQ below (va_Qv (fun u => u = R) (fun u => q_E D (tyL k) A (wX2_X2 k a u)) A) args s 0 0 A) (F0 m 0 ls []) := by
  intro σ hs hR H locs ls hW hl
  rw [P_X2_copyFrom_b0_e] at hR
  rw [S_X2_copyFrom_b0_e] at hs
  obtain ⟨hx, hb, hr, hml, hts, hown, hlocks, hK, hA⟩ := id C0
  have hf9 := hts (.fieldLink RX2 9 "BeatFollower$Fates" "kinds" "[I") (by decide +kernel)
  have hf15 := hts (.fieldLink RX2 15 "BeatFollower$Fates" "blows" "[I") (by decide +kernel)
  have hf18 := hts (.fieldLink RX2 18 "BeatFollower$Fates" "offs" "[I") (by decide +kernel)
  have hf21 := hts (.fieldLink RX2 21 "BeatFollower$Fates" "slips" "[I") (by decide +kernel)
  have hinX2 : ∀ w ∈ u_ws RX2 TX2 4, w ∈ wsX2_copyFrom := hin_X2_copyFrom_X2
  refine lv_aload_n hx hb dX2_copyFrom_0 rfl (lv_at hl 1 rfl) ?_
  refine va_get (v := .ref (a 6)) (C := RX2) (T := TX2) (N := 4) hx hb hts hinX2 hown hK hW.1 5 rfl rfl 0 (by decide) hf9 (fun _ h9 => h9) rfl dX2_copyFrom_1 ?_
  refine lv_iconst (v := (0 : Int32)) hx hb dX2_copyFrom_4 (by decide) ?_
  refine lv_aload_n hx hb dX2_copyFrom_5 rfl (lv_at hl 0 rfl) ?_
  refine va_get (v := .ref (a 1)) (C := RX2) (T := TX2) (N := 4) hx hb hts hinX2 hown hK hW.1 0 rfl rfl 0 (by decide) hf9 (fun _ h9 => h9) rfl dX2_copyFrom_6 ?_
  refine lv_iconst (v := (0 : Int32)) hx hb dX2_copyFrom_9 (by decide) ?_
  refine lv_bipush (v := (64 : Int32)) hx hb dX2_copyFrom_10 (by decide) ?_
  refine q_cpy (f := σ 6) (g := σ 1) (kn := 64) (wd' := wX2_X2 k a (u2 σ 1 (va_cpy (σ 6) (σ 1) 0 0 64))) C0 hW 6 1 rfl rfl rfl (by rw [hml]; exact hl.1.symm) (hts (.methodLink RX2 28 arraycopyName) (by decide +kernel)) (hts (.native arraycopyName) (by decide +kernel)) (hts (.static arraycopyName) (by decide +kernel)) (hts (.initialized "java/lang/System") (by decide +kernel)) (by decide) cl_64 (Nat.le_of_ble_eq_true rfl) (Nat.le_of_ble_eq_true rfl) (Nat.le_of_ble_eq_true rfl) (Nat.le_of_ble_eq_true rfl) dX2_copyFrom_12 (wX2_X2_s1 k a _ _) (fun H locs hW => ?_)
  refine lv_aload_n hx hb dX2_copyFrom_15 rfl (lv_at hl 1 rfl) ?_
  refine va_get (v := .ref (a 7)) (C := RX2) (T := TX2) (N := 4) hx hb hts hinX2 hown hK hW.1 5 rfl rfl 1 (by decide) hf15 (fun _ h9 => h9) rfl dX2_copyFrom_16 ?_
  refine lv_iconst (v := (0 : Int32)) hx hb dX2_copyFrom_19 (by decide) ?_
  refine lv_aload_n hx hb dX2_copyFrom_20 rfl (lv_at hl 0 rfl) ?_
  refine va_get (v := .ref (a 2)) (C := RX2) (T := TX2) (N := 4) hx hb hts hinX2 hown hK hW.1 0 rfl rfl 1 (by decide) hf15 (fun _ h9 => h9) rfl dX2_copyFrom_21 ?_
  refine lv_iconst (v := (0 : Int32)) hx hb dX2_copyFrom_24 (by decide) ?_
  refine lv_bipush (v := (64 : Int32)) hx hb dX2_copyFrom_25 (by decide) ?_
  refine q_cpy (f := σ 7) (g := σ 2) (kn := 64) (wd' := wX2_X2 k a (u2 (u2 σ 1 (va_cpy (σ 6) (σ 1) 0 0 64)) 2 (va_cpy (σ 7) (σ 2) 0 0 64))) C0 hW 7 2 rfl rfl rfl (by rw [hml]; exact hl.1.symm) (hts (.methodLink RX2 28 arraycopyName) (by decide +kernel)) (hts (.native arraycopyName) (by decide +kernel)) (hts (.static arraycopyName) (by decide +kernel)) (hts (.initialized "java/lang/System") (by decide +kernel)) (by decide) cl_64 (Nat.le_of_ble_eq_true rfl) (Nat.le_of_ble_eq_true rfl) (Nat.le_of_ble_eq_true rfl) (Nat.le_of_ble_eq_true rfl) dX2_copyFrom_27 (wX2_X2_s2 k a _ _) (fun H locs hW => ?_)
  refine lv_aload_n hx hb dX2_copyFrom_30 rfl (lv_at hl 1 rfl) ?_
  refine va_get (v := .ref (a 8)) (C := RX2) (T := TX2) (N := 4) hx hb hts hinX2 hown hK hW.1 5 rfl rfl 2 (by decide) hf18 (fun _ h9 => h9) rfl dX2_copyFrom_31 ?_
  refine lv_iconst (v := (0 : Int32)) hx hb dX2_copyFrom_34 (by decide) ?_
  refine lv_aload_n hx hb dX2_copyFrom_35 rfl (lv_at hl 0 rfl) ?_
  refine va_get (v := .ref (a 3)) (C := RX2) (T := TX2) (N := 4) hx hb hts hinX2 hown hK hW.1 0 rfl rfl 2 (by decide) hf18 (fun _ h9 => h9) rfl dX2_copyFrom_36 ?_
  refine lv_iconst (v := (0 : Int32)) hx hb dX2_copyFrom_39 (by decide) ?_
  refine lv_bipush (v := (64 : Int32)) hx hb dX2_copyFrom_40 (by decide) ?_
  refine q_cpy (f := σ 8) (g := σ 3) (kn := 64) (wd' := wX2_X2 k a (u2 (u2 (u2 σ 1 (va_cpy (σ 6) (σ 1) 0 0 64)) 2 (va_cpy (σ 7) (σ 2) 0 0 64)) 3 (va_cpy (σ 8) (σ 3) 0 0 64))) C0 hW 8 3 rfl rfl rfl (by rw [hml]; exact hl.1.symm) (hts (.methodLink RX2 28 arraycopyName) (by decide +kernel)) (hts (.native arraycopyName) (by decide +kernel)) (hts (.static arraycopyName) (by decide +kernel)) (hts (.initialized "java/lang/System") (by decide +kernel)) (by decide) cl_64 (Nat.le_of_ble_eq_true rfl) (Nat.le_of_ble_eq_true rfl) (Nat.le_of_ble_eq_true rfl) (Nat.le_of_ble_eq_true rfl) dX2_copyFrom_42 (wX2_X2_s3 k a _ _) (fun H locs hW => ?_)
  refine lv_aload_n hx hb dX2_copyFrom_45 rfl (lv_at hl 1 rfl) ?_
  refine va_get (v := .ref (a 9)) (C := RX2) (T := TX2) (N := 4) hx hb hts hinX2 hown hK hW.1 5 rfl rfl 3 (by decide) hf21 (fun _ h9 => h9) rfl dX2_copyFrom_46 ?_
  refine lv_iconst (v := (0 : Int32)) hx hb dX2_copyFrom_49 (by decide) ?_
  refine lv_aload_n hx hb dX2_copyFrom_50 rfl (lv_at hl 0 rfl) ?_
  refine va_get (v := .ref (a 4)) (C := RX2) (T := TX2) (N := 4) hx hb hts hinX2 hown hK hW.1 0 rfl rfl 3 (by decide) hf21 (fun _ h9 => h9) rfl dX2_copyFrom_51 ?_
  refine lv_iconst (v := (0 : Int32)) hx hb dX2_copyFrom_54 (by decide) ?_
  refine lv_bipush (v := (64 : Int32)) hx hb dX2_copyFrom_55 (by decide) ?_
  refine q_cpy (f := σ 9) (g := σ 4) (kn := 64) (wd' := wX2_X2 k a (u2 (u2 (u2 (u2 σ 1 (va_cpy (σ 6) (σ 1) 0 0 64)) 2 (va_cpy (σ 7) (σ 2) 0 0 64)) 3 (va_cpy (σ 8) (σ 3) 0 0 64)) 4 (va_cpy (σ 9) (σ 4) 0 0 64))) C0 hW 9 4 rfl rfl rfl (by rw [hml]; exact hl.1.symm) (hts (.methodLink RX2 28 arraycopyName) (by decide +kernel)) (hts (.native arraycopyName) (by decide +kernel)) (hts (.static arraycopyName) (by decide +kernel)) (hts (.initialized "java/lang/System") (by decide +kernel)) (by decide) cl_64 (Nat.le_of_ble_eq_true rfl) (Nat.le_of_ble_eq_true rfl) (Nat.le_of_ble_eq_true rfl) (Nat.le_of_ble_eq_true rfl) dX2_copyFrom_57 (wX2_X2_s4 k a _ _) (fun H locs hW => ?_)
  exact q_vret C0 hW hR dX2_copyFrom_60
set_option maxHeartbeats 400000 in
set_option maxRecDepth 100000 in
theorem m_X2_copyFrom (l : Launch) (D : va_G) (k : Nat → ClassId) (a : Nat → Nat) (sz : Nat) (σ : T2) (hs : S_X2_copyFrom σ) : Met l yX2_copyFrom wsX2_copyFrom { frames := 1, cells := 0, slots := 0, locals := 40 } (va_Pc [.ref (a 0), .ref (a 5)] (q_B D (tyL k) (wX2_X2 k a σ) sz)) (va_Qv (fun u => u = P_X2_copyFrom σ) (fun u => q_E D (tyL k) (va_A (wX2_X2 k a σ) sz) (wX2_X2 k a u)) (va_A (wX2_X2 k a σ) sz)) 0 0 (va_A (wX2_X2 k a σ) sz) := by
  refine q_met [.ref (a 0), .ref (a 5)] (wX2_X2 k a σ) sz (cc := cX2_copyFrom) (maxL := 2) (ret := none) (by decide) rfl (Nat.le_of_ble_eq_true rfl) ?_
  intro p e s m args below meth c ls hsz C0 hW hl hin
  subst hsz
  exact b_X2_copyFrom_b0 l D k a _ C0 _ σ  hs rfl s.heap [] ls hW (lv_sub hl [0, 1] rfl)
theorem hin_X4_append_X4 : ∀ w ∈ u_ws RX4 TX4 2, w ∈ wsX4_append := by decide +kernel
theorem hd_X4_append : yX4_append.cls = RX4 ∧ yX4_append.cls ≠ "java/lang/invoke/MethodHandle" ∧ yX4_append.cls ≠ "java/lang/invoke/VarHandle" ∧ (parseMethodDescriptor yX4_append.desc).map (fun d => d.parameters.length) = some 1 := by decide +kernel
noncomputable def P_X4_append_b0 (σ : T2) (v1 : Int32) : T2 := if (σ 0 1) < 0 then (σ) else (if (80 : Int32) ≤ (σ 0 1) then (σ) else (u2 (u2 σ 1 (upd (σ 1) ((σ 0 1).toNatClampNeg) (vp_nar .char v1))) 0 (upd (σ 0) 1 ((σ 0 1) + (1 : Int32)))))
def S_X4_append_b0 (σ : T2) (v1 : Int32) : Prop := ((σ 0 1) < 0 → (True)) ∧ (¬ ((σ 0 1) < 0) → (((80 : Int32) ≤ (σ 0 1) → (True)) ∧ (¬ ((80 : Int32) ≤ (σ 0 1)) → ((vp_in (σ 0 1) 80) ∧ (True)))))
theorem P_X4_append_b0_e (σ : T2) (v1 : Int32) : P_X4_append_b0 σ v1 = if (σ 0 1) < 0 then (σ) else (if (80 : Int32) ≤ (σ 0 1) then (σ) else (u2 (u2 σ 1 (upd (σ 1) ((σ 0 1).toNatClampNeg) (vp_nar .char v1))) 0 (upd (σ 0) 1 ((σ 0 1) + (1 : Int32))))) := rfl
theorem S_X4_append_b0_e (σ : T2) (v1 : Int32) : S_X4_append_b0 σ v1 = (((σ 0 1) < 0 → (True)) ∧ (¬ ((σ 0 1) < 0) → (((80 : Int32) ≤ (σ 0 1) → (True)) ∧ (¬ ((80 : Int32) ≤ (σ 0 1)) → ((vp_in (σ 0 1) 80) ∧ (True)))))) := rfl
noncomputable def P_X4_append (σ : T2) (p0 : Int32) : T2 := P_X4_append_b0 σ p0
def S_X4_append (σ : T2) (p0 : Int32) : Prop := S_X4_append_b0 σ p0
set_option maxHeartbeats 400000 in
set_option maxRecDepth 100000 in
theorem b_X4_append_b0 {p : Program} {e : Env} {s : State} {m : MethodId} {args : Array Value} {below : List Frame} {meth : Method} {c : Code} (l : Launch) (D : va_G) (k : Nat → ClassId) (a : Nat → Nat) (A : Nat → Prop) (C0 : q_C p s m meth c args RX4 cX4_append 2 none wsX4_append D (tyL k) A) (R : T2) : ∀ (σ : T2) (v1 : Int32), S_X4_append_b0 σ v1 → P_X4_append_b0 σ v1 = R → ∀ (H : Heap) (locs : List Loc) (ls : Array Slot), q_W D A s.heap (wX4 k a σ) H locs → lv_has ls 2 [(0, .ref (a 0)), (1, .int v1)] → W p l e { frames := 0, cells := 0, slots := 0, locals := 0 } s m args below meth c H locs 0 0 (MQ below (va_Qv (fun u => u = R) (fun u => q_E D (tyL k) A (wX4 k a u)) A) args s 0 0 A) (F0 m 0 ls []) := by
  intro σ v1 hs hR H locs ls hW hl
  rw [P_X4_append_b0_e] at hR
  rw [S_X4_append_b0_e] at hs
  obtain ⟨hx, hb, hr, hml, hts, hown, hlocks, hK, hA⟩ := id C0
  have hf9 := hts (.fieldLink RX4 9 "BeatFollower$Pad" "signs" "[C") (by decide +kernel)
  have hf15 := hts (.fieldLink RX4 15 "BeatFollower$Pad" "length" "I") (by decide +kernel)
  have hinX4 : ∀ w ∈ u_ws RX4 TX4 2, w ∈ wsX4_append := hin_X4_append_X4
  refine lv_aload_n hx hb dX4_append_0 rfl (lv_at hl 0 rfl) ?_
  refine va_get (v := .int (σ 0 1)) (C := RX4) (T := TX4) (N := 2) hx hb hts hinX4 hown hK hW.1 0 rfl rfl 1 (by decide) hf15 (fun _ h9 => h9) rfl dX4_append_1 ?_
  refine lv_if_lt (tgt := 36) hx hb dX4_append_4 (by decide) (fun c_1 => ?_) (fun c_1 => ?_)
  · have hs := hs.1 c_1
    rw [if_pos c_1] at hR
    exact q_vret C0 hW hR dX4_append_36
  · have hs := hs.2 c_1
    rw [if_neg c_1] at hR
    refine lv_aload_n hx hb dX4_append_7 rfl (lv_at hl 0 rfl) ?_
    refine va_get (v := .int (σ 0 1)) (C := RX4) (T := TX4) (N := 2) hx hb hts hinX4 hown hK hW.1 0 rfl rfl 1 (by decide) hf15 (fun _ h9 => h9) rfl dX4_append_8 ?_
    refine lv_bipush (v := (80 : Int32)) hx hb dX4_append_11 (by decide) ?_
    refine lv_icmp_ge (tgt := 36) hx hb dX4_append_13 (by decide) (fun c_2 => ?_) (fun c_2 => ?_)
    · have hs := hs.1 c_2
      rw [if_pos c_2] at hR
      exact q_vret C0 hW hR dX4_append_36
    · have hs := hs.2 c_2
      rw [if_neg c_2] at hR
      refine lv_aload_n hx hb dX4_append_16 rfl (lv_at hl 0 rfl) ?_
      refine va_get (v := .ref (a 1)) (C := RX4) (T := TX4) (N := 2) hx hb hts hinX4 hown hK hW.1 0 rfl rfl 0 (by decide) hf9 (fun _ h9 => h9) rfl dX4_append_17 ?_
      refine lv_aload_n hx hb dX4_append_20 rfl (lv_at hl 0 rfl) ?_
      refine va_get (v := .int (σ 0 1)) (C := RX4) (T := TX4) (N := 2) hx hb hts hinX4 hown hK hW.1 0 rfl rfl 1 (by decide) hf15 (fun _ h9 => h9) rfl dX4_append_21 ?_
      refine lv_iload_n hx hb dX4_append_24 rfl (lv_at hl 1 rfl) ?_
      have hi3 := hs.1
      have hs := hs.2
      refine q_cast (f := σ 1) (wd' := wX4 k a (u2 σ 1 (upd (σ 1) ((σ 0 1).toNatClampNeg) (vp_nar .char v1)))) C0 hW 1 rfl rfl hi3 rfl dX4_append_25 (wX4_s1 k a _ _) (fun H locs hW => ?_)
      refine lv_aload_n hx hb dX4_append_26 rfl (lv_at hl 0 rfl) ?_
      refine lv_dup hx hb dX4_append_27 rfl ?_
      refine va_get (v := .int (σ 0 1)) (C := RX4) (T := TX4) (N := 2) hx hb hts hinX4 hown hK hW.1 0 rfl rfl 1 (by decide) hf15 (fun _ h9 => h9) rfl dX4_append_28 ?_
      refine lv_iconst (v := (1 : Int32)) hx hb dX4_append_31 (by decide) ?_
      refine lv_iadd hx hb dX4_append_32 ?_
      refine q_putf (ty := .int) (wd' := wX4 k a (u2 (u2 σ 1 (upd (σ 1) ((σ 0 1).toNatClampNeg) (vp_nar .char v1))) 0 (upd (σ 0) 1 ((σ 0 1) + (1 : Int32))))) C0 hW hinX4 tyX4 tyX4_ok nmX4 0 rfl rfl 1 (by decide) hf15 rfl (by decide +kernel) rfl rfl (Nat.le_of_ble_eq_true rfl) dX4_append_33 (fX4_s1 _ _ _) (wX4_s0 k a _ _) (fun H locs hW => ?_)
      exact q_vret C0 hW hR dX4_append_36
set_option maxHeartbeats 400000 in
set_option maxRecDepth 100000 in
theorem m_X4_append (l : Launch) (D : va_G) (k : Nat → ClassId) (a : Nat → Nat) (sz : Nat) (σ : T2) (p0 : Int32) (hs : S_X4_append σ p0) : Met l yX4_append wsX4_append { frames := 0, cells := 0, slots := 0, locals := 0 } (va_Pc [.ref (a 0), .int p0] (q_B D (tyL k) (wX4 k a σ) sz)) (va_Qv (fun u => u = P_X4_append σ p0) (fun u => q_E D (tyL k) (va_A (wX4 k a σ) sz) (wX4 k a u)) (va_A (wX4 k a σ) sz)) 0 0 (va_A (wX4 k a σ) sz) := by
  refine q_met [.ref (a 0), .int p0] (wX4 k a σ) sz (cc := cX4_append) (maxL := 2) (ret := none) (by decide) rfl (Nat.le_of_ble_eq_true rfl) ?_
  intro p e s m args below meth c ls hsz C0 hW hl hin
  subst hsz
  exact b_X4_append_b0 l D k a _ C0 _ σ p0 hs rfl s.heap [] ls hW (lv_sub hl [0, 1] rfl)
theorem hin_X4_signAt_X4 : ∀ w ∈ u_ws RX4 TX4 2, w ∈ wsX4_signAt := by decide +kernel
theorem hd_X4_signAt : yX4_signAt.cls = RX4 ∧ yX4_signAt.cls ≠ "java/lang/invoke/MethodHandle" ∧ yX4_signAt.cls ≠ "java/lang/invoke/VarHandle" ∧ (parseMethodDescriptor yX4_signAt.desc).map (fun d => d.parameters.length) = some 1 := by decide +kernel
noncomputable def P_X4_signAt_b0 (σ : T2) (v1 : Int32) : Int32 := if v1 < 0 then ((0 : Int32)) else (if (σ 0 1) ≤ v1 then ((0 : Int32)) else (if (80 : Int32) ≤ v1 then ((0 : Int32)) else (σ 1 v1.toNatClampNeg)))
def S_X4_signAt_b0 (σ : T2) (v1 : Int32) : Prop := (v1 < 0 → (True)) ∧ (¬ (v1 < 0) → (((σ 0 1) ≤ v1 → (True)) ∧ (¬ ((σ 0 1) ≤ v1) → (((80 : Int32) ≤ v1 → (True)) ∧ (¬ ((80 : Int32) ≤ v1) → ((vp_in v1 80) ∧ (True)))))))
theorem P_X4_signAt_b0_e (σ : T2) (v1 : Int32) : P_X4_signAt_b0 σ v1 = if v1 < 0 then ((0 : Int32)) else (if (σ 0 1) ≤ v1 then ((0 : Int32)) else (if (80 : Int32) ≤ v1 then ((0 : Int32)) else (σ 1 v1.toNatClampNeg))) := rfl
theorem S_X4_signAt_b0_e (σ : T2) (v1 : Int32) : S_X4_signAt_b0 σ v1 = ((v1 < 0 → (True)) ∧ (¬ (v1 < 0) → (((σ 0 1) ≤ v1 → (True)) ∧ (¬ ((σ 0 1) ≤ v1) → (((80 : Int32) ≤ v1 → (True)) ∧ (¬ ((80 : Int32) ≤ v1) → ((vp_in v1 80) ∧ (True)))))))) := rfl
noncomputable def P_X4_signAt (σ : T2) (p0 : Int32) : Int32 := P_X4_signAt_b0 σ p0
def S_X4_signAt (σ : T2) (p0 : Int32) : Prop := S_X4_signAt_b0 σ p0
set_option maxHeartbeats 400000 in
set_option maxRecDepth 100000 in
theorem b_X4_signAt_b0 {p : Program} {e : Env} {s : State} {m : MethodId} {args : Array Value} {below : List Frame} {meth : Method} {c : Code} (l : Launch) (D : va_G) (k : Nat → ClassId) (a : Nat → Nat) (A : Nat → Prop) (C0 : q_C p s m meth c args RX4 cX4_signAt 2 (some .int) wsX4_signAt D (tyL k) A) (R : Int32) : ∀ (σ : T2) (v1 : Int32), S_X4_signAt_b0 σ v1 → P_X4_signAt_b0 σ v1 = R → ∀ (H : Heap) (locs : List Loc) (ls : Array Slot), q_W D A s.heap (wX4 k a σ) s.heap [] → lv_has ls 2 [(0, .ref (a 0)), (1, .int v1)] → W p l e { frames := 0, cells := 0, slots := 0, locals := 0 } s m args below meth c s.heap [] 0 0 (MQ below (vp_Si (fun r => r = R)) args s 0 0 (fun _ => False)) (F0 m 0 ls []) := by
  intro σ v1 hs hR H locs ls hW hl
  rw [P_X4_signAt_b0_e] at hR
  rw [S_X4_signAt_b0_e] at hs
  obtain ⟨hx, hb, hr, hml, hts, hown, hlocks, hK, hA⟩ := id C0
  have hf9 := hts (.fieldLink RX4 9 "BeatFollower$Pad" "signs" "[C") (by decide +kernel)
  have hf15 := hts (.fieldLink RX4 15 "BeatFollower$Pad" "length" "I") (by decide +kernel)
  have hinX4 : ∀ w ∈ u_ws RX4 TX4 2, w ∈ wsX4_signAt := hin_X4_signAt_X4
  refine lv_iload_n hx hb dX4_signAt_0 rfl (lv_at hl 1 rfl) ?_
  refine lv_if_lt (tgt := 27) hx hb dX4_signAt_1 (by decide) (fun c_1 => ?_) (fun c_1 => ?_)
  · have hs := hs.1 c_1
    rw [if_pos c_1] at hR
    refine lv_iconst (v := (0 : Int32)) hx hb dX4_signAt_27 (by decide) ?_
    exact q_iretr C0 hR dX4_signAt_28
  · have hs := hs.2 c_1
    rw [if_neg c_1] at hR
    refine lv_iload_n hx hb dX4_signAt_4 rfl (lv_at hl 1 rfl) ?_
    refine lv_aload_n hx hb dX4_signAt_5 rfl (lv_at hl 0 rfl) ?_
    refine va_get (v := .int (σ 0 1)) (C := RX4) (T := TX4) (N := 2) hx hb hts hinX4 hown hK hW.1 0 rfl rfl 1 (by decide) hf15 (fun _ h9 => h9) rfl dX4_signAt_6 ?_
    refine lv_icmp_ge (tgt := 27) hx hb dX4_signAt_9 (by decide) (fun c_2 => ?_) (fun c_2 => ?_)
    · have hs := hs.1 c_2
      rw [if_pos c_2] at hR
      refine lv_iconst (v := (0 : Int32)) hx hb dX4_signAt_27 (by decide) ?_
      exact q_iretr C0 hR dX4_signAt_28
    · have hs := hs.2 c_2
      rw [if_neg c_2] at hR
      refine lv_iload_n hx hb dX4_signAt_12 rfl (lv_at hl 1 rfl) ?_
      refine lv_bipush (v := (80 : Int32)) hx hb dX4_signAt_13 (by decide) ?_
      refine lv_icmp_ge (tgt := 27) hx hb dX4_signAt_15 (by decide) (fun c_3 => ?_) (fun c_3 => ?_)
      · have hs := hs.1 c_3
        rw [if_pos c_3] at hR
        refine lv_iconst (v := (0 : Int32)) hx hb dX4_signAt_27 (by decide) ?_
        exact q_iretr C0 hR dX4_signAt_28
      · have hs := hs.2 c_3
        rw [if_neg c_3] at hR
        refine lv_aload_n hx hb dX4_signAt_18 rfl (lv_at hl 0 rfl) ?_
        refine va_get (v := .ref (a 1)) (C := RX4) (T := TX4) (N := 2) hx hb hts hinX4 hown hK hW.1 0 rfl rfl 0 (by decide) hf9 (fun _ h9 => h9) rfl dX4_signAt_19 ?_
        refine lv_iload_n hx hb dX4_signAt_22 rfl (lv_at hl 1 rfl) ?_
        have hi4 := hs.1
        have hs := hs.2
        refine q_cald (v := σ 1 v1.toNatClampNeg) C0 hW 1 rfl rfl hi4 rfl rfl dX4_signAt_23 ?_
        refine lv_goto (tgt := 28) hx hb dX4_signAt_24 (by decide) ?_
        exact q_iretr C0 hR dX4_signAt_28
set_option maxHeartbeats 400000 in
set_option maxRecDepth 100000 in
theorem m_X4_signAt (l : Launch) (D : va_G) (k : Nat → ClassId) (a : Nat → Nat) (sz : Nat) (σ : T2) (p0 : Int32) (hs : S_X4_signAt σ p0) : Met l yX4_signAt wsX4_signAt { frames := 0, cells := 0, slots := 0, locals := 0 } (va_Pc [.ref (a 0), .int p0] (q_B D (tyL k) (wX4 k a σ) sz)) (vp_Si (fun r => r = P_X4_signAt σ p0)) 0 0 (fun _ => False) := by
  refine q_met [.ref (a 0), .int p0] (wX4 k a σ) sz (cc := cX4_signAt) (maxL := 2) (ret := (some .int)) (by decide) rfl (Nat.le_of_ble_eq_true rfl) ?_
  intro p e s m args below meth c ls hsz C0 hW hl hin
  subst hsz
  exact b_X4_signAt_b0 l D k a _ C0 _ σ p0 hs rfl s.heap [] ls hW (lv_sub hl [0, 1] rfl)
theorem hd_X4_digitAt : yX4_digitAt.cls = RX4 ∧ yX4_digitAt.cls ≠ "java/lang/invoke/MethodHandle" ∧ yX4_digitAt.cls ≠ "java/lang/invoke/VarHandle" ∧ (parseMethodDescriptor yX4_digitAt.desc).map (fun d => d.parameters.length) = some 1 := by decide +kernel
noncomputable def P_X4_digitAt_b0 (σ : T2) (v1 : Int32) : Int32 := if (P_X4_signAt σ v1) < (48 : Int32) then ((-1 : Int32)) else (if (57 : Int32) < (P_X4_signAt σ v1) then ((-1 : Int32)) else ((P_X4_signAt σ v1) - (48 : Int32)))
def S_X4_digitAt_b0 (σ : T2) (v1 : Int32) : Prop := (S_X4_signAt σ v1) ∧ (((P_X4_signAt σ v1) < (48 : Int32) → (True)) ∧ (¬ ((P_X4_signAt σ v1) < (48 : Int32)) → (((57 : Int32) < (P_X4_signAt σ v1) → (True)) ∧ (¬ ((57 : Int32) < (P_X4_signAt σ v1)) → (True)))))
theorem P_X4_digitAt_b0_e (σ : T2) (v1 : Int32) : P_X4_digitAt_b0 σ v1 = if (P_X4_signAt σ v1) < (48 : Int32) then ((-1 : Int32)) else (if (57 : Int32) < (P_X4_signAt σ v1) then ((-1 : Int32)) else ((P_X4_signAt σ v1) - (48 : Int32))) := rfl
theorem S_X4_digitAt_b0_e (σ : T2) (v1 : Int32) : S_X4_digitAt_b0 σ v1 = ((S_X4_signAt σ v1) ∧ (((P_X4_signAt σ v1) < (48 : Int32) → (True)) ∧ (¬ ((P_X4_signAt σ v1) < (48 : Int32)) → (((57 : Int32) < (P_X4_signAt σ v1) → (True)) ∧ (¬ ((57 : Int32) < (P_X4_signAt σ v1)) → (True)))))) := rfl
noncomputable def P_X4_digitAt (σ : T2) (p0 : Int32) : Int32 := P_X4_digitAt_b0 σ p0
def S_X4_digitAt (σ : T2) (p0 : Int32) : Prop := S_X4_digitAt_b0 σ p0
set_option maxHeartbeats 400000 in
set_option maxRecDepth 100000 in
theorem b_X4_digitAt_b0 {p : Program} {e : Env} {s : State} {m : MethodId} {args : Array Value} {below : List Frame} {meth : Method} {c : Code} (l : Launch) (D : va_G) (k : Nat → ClassId) (a : Nat → Nat) (A : Nat → Prop) (C0 : q_C p s m meth c args RX4 cX4_digitAt 3 (some .int) wsX4_digitAt D (tyL k) A) (R : Int32) : ∀ (σ : T2) (v1 : Int32), S_X4_digitAt_b0 σ v1 → P_X4_digitAt_b0 σ v1 = R → ∀ (H : Heap) (locs : List Loc) (ls : Array Slot), q_W D A s.heap (wX4 k a σ) s.heap [] → lv_has ls 3 [(0, .ref (a 0)), (1, .int v1)] → W p l e { frames := 1, cells := 0, slots := 0, locals := 21 } s m args below meth c s.heap [] 0 0 (MQ below (vp_Si (fun r => r = R)) args s 0 0 (fun _ => False)) (F0 m 0 ls []) := by
  intro σ v1 hs hR H locs ls hW hl
  rw [P_X4_digitAt_b0_e] at hR
  rw [S_X4_digitAt_b0_e] at hs
  obtain ⟨hx, hb, hr, hml, hts, hown, hlocks, hK, hA⟩ := id C0
  refine lv_aload_n hx hb dX4_digitAt_0 rfl (lv_at hl 0 rfl) ?_
  refine lv_iload_n hx hb dX4_digitAt_1 rfl (lv_at hl 1 rfl) ?_
  have hs1 := hs.1
  have hs := hs.2
  refine q_Vi (As := [.int v1]) (rest := []) (R := P_X4_signAt σ v1) [0, 1] [0, 1, 2, 3] 0 4 C0 hW (m_X4_signAt l D k a _ σ v1 hs1) (cwV 1 hts gX4_digitAt_X4_signAt rfl rfl rfl hd_X4_signAt ⟨Nat.le_of_ble_eq_true rfl, Nat.le_of_ble_eq_true rfl⟩) (by decide) (wX4_pl k a _) rfl (wX4_rec k a _) rfl hl rfl rfl (Nat.le_of_ble_eq_true rfl) dX4_digitAt_2 ⟨Nat.le_refl 0, Nat.le_refl 0⟩ ?_
  refine lv_istore_n (lv' := [(2, .int (P_X4_signAt σ v1)), (0, .ref (a 0)), (1, .int v1)]) hx hb dX4_digitAt_5 rfl hl (by decide) rfl (fun ls hl => ?_)
  refine lv_iload_n hx hb dX4_digitAt_6 rfl (lv_at hl 0 rfl) ?_
  refine lv_bipush (v := (48 : Int32)) hx hb dX4_digitAt_7 (by decide) ?_
  refine lv_icmp_lt (tgt := 25) hx hb dX4_digitAt_9 (by decide) (fun c_2 => ?_) (fun c_2 => ?_)
  · have hs := hs.1 c_2
    rw [if_pos c_2] at hR
    refine lv_iconst (v := (-1 : Int32)) hx hb dX4_digitAt_25 (by decide) ?_
    exact q_iretr C0 hR dX4_digitAt_26
  · have hs := hs.2 c_2
    rw [if_neg c_2] at hR
    refine lv_iload_n hx hb dX4_digitAt_12 rfl (lv_at hl 0 rfl) ?_
    refine lv_bipush (v := (57 : Int32)) hx hb dX4_digitAt_13 (by decide) ?_
    refine lv_icmp_gt (tgt := 25) hx hb dX4_digitAt_15 (by decide) (fun c_3 => ?_) (fun c_3 => ?_)
    · have hs := hs.1 c_3
      rw [if_pos c_3] at hR
      refine lv_iconst (v := (-1 : Int32)) hx hb dX4_digitAt_25 (by decide) ?_
      exact q_iretr C0 hR dX4_digitAt_26
    · have hs := hs.2 c_3
      rw [if_neg c_3] at hR
      refine lv_iload_n hx hb dX4_digitAt_18 rfl (lv_at hl 0 rfl) ?_
      refine lv_bipush (v := (48 : Int32)) hx hb dX4_digitAt_19 (by decide) ?_
      refine lv_isub hx hb dX4_digitAt_21 ?_
      refine lv_goto (tgt := 26) hx hb dX4_digitAt_22 (by decide) ?_
      exact q_iretr C0 hR dX4_digitAt_26
set_option maxHeartbeats 400000 in
set_option maxRecDepth 100000 in
theorem m_X4_digitAt (l : Launch) (D : va_G) (k : Nat → ClassId) (a : Nat → Nat) (sz : Nat) (σ : T2) (p0 : Int32) (hs : S_X4_digitAt σ p0) : Met l yX4_digitAt wsX4_digitAt { frames := 1, cells := 0, slots := 0, locals := 21 } (va_Pc [.ref (a 0), .int p0] (q_B D (tyL k) (wX4 k a σ) sz)) (vp_Si (fun r => r = P_X4_digitAt σ p0)) 0 0 (fun _ => False) := by
  refine q_met [.ref (a 0), .int p0] (wX4 k a σ) sz (cc := cX4_digitAt) (maxL := 3) (ret := (some .int)) (by decide) rfl (Nat.le_of_ble_eq_true rfl) ?_
  intro p e s m args below meth c ls hsz C0 hW hl hin
  subst hsz
  exact b_X4_digitAt_b0 l D k a _ C0 _ σ p0 hs rfl s.heap [] ls hW (lv_sub hl [0, 1] rfl)
theorem hin_X8_addSlip_X8 : ∀ w ∈ u_ws RX8 TX8 10, w ∈ wsX8_addSlip := by decide +kernel
theorem hd_X8_addSlip : yX8_addSlip.cls = RX8 ∧ yX8_addSlip.cls ≠ "java/lang/invoke/MethodHandle" ∧ yX8_addSlip.cls ≠ "java/lang/invoke/VarHandle" ∧ (parseMethodDescriptor yX8_addSlip.desc).map (fun d => d.parameters.length) = some 1 := by decide +kernel
noncomputable def P_X8_addSlip_b0 (σ : T2) (v1 : Int32) : T2 := if v1 = 0 then (u2 σ 0 (upd (σ 0) 7 ((σ 0 7) + v1))) else (u2 σ 0 (upd (upd (σ 0) 7 ((σ 0 7) + v1)) 6 ((σ 0 6) + (1 : Int32))))
def S_X8_addSlip_b0 (σ : T2) (v1 : Int32) : Prop := (v1 = 0 → (True)) ∧ (¬ (v1 = 0) → (True))
theorem P_X8_addSlip_b0_e (σ : T2) (v1 : Int32) : P_X8_addSlip_b0 σ v1 = if v1 = 0 then (u2 σ 0 (upd (σ 0) 7 ((σ 0 7) + v1))) else (u2 σ 0 (upd (upd (σ 0) 7 ((σ 0 7) + v1)) 6 ((σ 0 6) + (1 : Int32)))) := rfl
theorem S_X8_addSlip_b0_e (σ : T2) (v1 : Int32) : S_X8_addSlip_b0 σ v1 = ((v1 = 0 → (True)) ∧ (¬ (v1 = 0) → (True))) := rfl
noncomputable def P_X8_addSlip (σ : T2) (p0 : Int32) : T2 := P_X8_addSlip_b0 σ p0
def S_X8_addSlip (σ : T2) (p0 : Int32) : Prop := S_X8_addSlip_b0 σ p0
set_option maxHeartbeats 400000 in
set_option maxRecDepth 100000 in
theorem b_X8_addSlip_b0 {p : Program} {e : Env} {s : State} {m : MethodId} {args : Array Value} {below : List Frame} {meth : Method} {c : Code} (l : Launch) (D : va_G) (k : Nat → ClassId) (a : Nat → Nat) (A : Nat → Prop) (C0 : q_C p s m meth c args RX8 cX8_addSlip 2 none wsX8_addSlip D (tyL k) A) (R : T2) : ∀ (σ : T2) (v1 : Int32), S_X8_addSlip_b0 σ v1 → P_X8_addSlip_b0 σ v1 = R → ∀ (H : Heap) (locs : List Loc) (ls : Array Slot), q_W D A s.heap (wX8 k a σ) H locs → lv_has ls 2 [(0, .ref (a 0)), (1, .int v1)] → W p l e { frames := 0, cells := 0, slots := 0, locals := 0 } s m args below meth c H locs 0 0 (MQ below (va_Qv (fun u => u = R) (fun u => q_E D (tyL k) A (wX8 k a u)) A) args s 0 0 A) (F0 m 0 ls []) := by
  intro σ v1 hs hR H locs ls hW hl
  rw [P_X8_addSlip_b0_e] at hR
  rw [S_X8_addSlip_b0_e] at hs
  obtain ⟨hx, hb, hr, hml, hts, hown, hlocks, hK, hA⟩ := id C0
  have hf7 := hts (.fieldLink RX8 7 "BeatFollower$Tally" "slipSum" "I") (by decide +kernel)
  have hf13 := hts (.fieldLink RX8 13 "BeatFollower$Tally" "slipsTold" "I") (by decide +kernel)
  have hinX8 : ∀ w ∈ u_ws RX8 TX8 10, w ∈ wsX8_addSlip := hin_X8_addSlip_X8
  refine lv_aload_n hx hb dX8_addSlip_0 rfl (lv_at hl 0 rfl) ?_
  refine lv_dup hx hb dX8_addSlip_1 rfl ?_
  refine va_get (v := .int (σ 0 7)) (C := RX8) (T := TX8) (N := 10) hx hb hts hinX8 hown hK hW.1 0 rfl rfl 7 (by decide) hf7 (fun _ h9 => h9) rfl dX8_addSlip_2 ?_
  refine lv_iload_n hx hb dX8_addSlip_5 rfl (lv_at hl 1 rfl) ?_
  refine lv_iadd hx hb dX8_addSlip_6 ?_
  refine q_putf (ty := .int) (wd' := wX8 k a (u2 σ 0 (upd (σ 0) 7 ((σ 0 7) + v1)))) C0 hW hinX8 tyX8 tyX8_ok nmX8 0 rfl rfl 7 (by decide) hf7 rfl (by decide +kernel) rfl rfl (Nat.le_of_ble_eq_true rfl) dX8_addSlip_7 (fX8_s7 _ _ _) (wX8_s0 k a _ _) (fun H locs hW => ?_)
  refine lv_iload_n hx hb dX8_addSlip_10 rfl (lv_at hl 1 rfl) ?_
  refine lv_if_eq (tgt := 24) hx hb dX8_addSlip_11 (by decide) (fun c_1 => ?_) (fun c_1 => ?_)
  · have hs := hs.1 c_1
    rw [if_pos c_1] at hR
    exact q_vret C0 hW hR dX8_addSlip_24
  · have hs := hs.2 c_1
    rw [if_neg c_1] at hR
    refine lv_aload_n hx hb dX8_addSlip_14 rfl (lv_at hl 0 rfl) ?_
    refine lv_dup hx hb dX8_addSlip_15 rfl ?_
    refine va_get (v := .int (σ 0 6)) (C := RX8) (T := TX8) (N := 10) hx hb hts hinX8 hown hK hW.1 0 rfl rfl 6 (by decide) hf13 (fun _ h9 => h9) rfl dX8_addSlip_16 ?_
    refine lv_iconst (v := (1 : Int32)) hx hb dX8_addSlip_19 (by decide) ?_
    refine lv_iadd hx hb dX8_addSlip_20 ?_
    refine q_putf (ty := .int) (wd' := wX8 k a (u2 σ 0 (upd (upd (σ 0) 7 ((σ 0 7) + v1)) 6 ((σ 0 6) + (1 : Int32))))) C0 hW hinX8 tyX8 tyX8_ok nmX8 0 rfl rfl 6 (by decide) hf13 rfl (by decide +kernel) rfl rfl (Nat.le_of_ble_eq_true rfl) dX8_addSlip_21 (fX8_s6 _ _ _) ((wX8_s0 k a _ _).trans (congrArg (wX8 k a) (u2_same _ _ _ _))) (fun H locs hW => ?_)
    exact q_vret C0 hW hR dX8_addSlip_24
set_option maxHeartbeats 400000 in
set_option maxRecDepth 100000 in
theorem m_X8_addSlip (l : Launch) (D : va_G) (k : Nat → ClassId) (a : Nat → Nat) (sz : Nat) (σ : T2) (p0 : Int32) (hs : S_X8_addSlip σ p0) : Met l yX8_addSlip wsX8_addSlip { frames := 0, cells := 0, slots := 0, locals := 0 } (va_Pc [.ref (a 0), .int p0] (q_B D (tyL k) (wX8 k a σ) sz)) (va_Qv (fun u => u = P_X8_addSlip σ p0) (fun u => q_E D (tyL k) (va_A (wX8 k a σ) sz) (wX8 k a u)) (va_A (wX8 k a σ) sz)) 0 0 (va_A (wX8 k a σ) sz) := by
  refine q_met [.ref (a 0), .int p0] (wX8 k a σ) sz (cc := cX8_addSlip) (maxL := 2) (ret := none) (by decide) rfl (Nat.le_of_ble_eq_true rfl) ?_
  intro p e s m args below meth c ls hsz C0 hW hl hin
  subst hsz
  exact b_X8_addSlip_b0 l D k a _ C0 _ σ p0 hs rfl s.heap [] ls hW (lv_sub hl [0, 1] rfl)
theorem hin_X8_clear_X8 : ∀ w ∈ u_ws RX8 TX8 10, w ∈ wsX8_clear := by decide +kernel
theorem hd_X8_clear : yX8_clear.cls = RX8 ∧ yX8_clear.cls ≠ "java/lang/invoke/MethodHandle" ∧ yX8_clear.cls ≠ "java/lang/invoke/VarHandle" ∧ (parseMethodDescriptor yX8_clear.desc).map (fun d => d.parameters.length) = some 0 := by decide +kernel
noncomputable def P_X8_clear_b0 (σ : T2) : T2 := u2 σ 0 (upd (upd (upd (upd (upd (upd (upd (upd (upd (upd (σ 0) 0 (0 : Int32)) 1 (0 : Int32)) 2 (0 : Int32)) 3 (0 : Int32)) 4 (0 : Int32)) 5 (0 : Int32)) 6 (0 : Int32)) 7 (0 : Int32)) 8 (0 : Int32)) 9 (0 : Int32))
def S_X8_clear_b0 (σ : T2) : Prop := True
theorem P_X8_clear_b0_e (σ : T2) : P_X8_clear_b0 σ = u2 σ 0 (upd (upd (upd (upd (upd (upd (upd (upd (upd (upd (σ 0) 0 (0 : Int32)) 1 (0 : Int32)) 2 (0 : Int32)) 3 (0 : Int32)) 4 (0 : Int32)) 5 (0 : Int32)) 6 (0 : Int32)) 7 (0 : Int32)) 8 (0 : Int32)) 9 (0 : Int32)) := rfl
theorem S_X8_clear_b0_e (σ : T2) : S_X8_clear_b0 σ = (True) := rfl
noncomputable def P_X8_clear (σ : T2) : T2 := P_X8_clear_b0 σ
def S_X8_clear (σ : T2) : Prop := S_X8_clear_b0 σ
set_option maxHeartbeats 400000 in
set_option maxRecDepth 100000 in
theorem b_X8_clear_b0 {p : Program} {e : Env} {s : State} {m : MethodId} {args : Array Value} {below : List Frame} {meth : Method} {c : Code} (l : Launch) (D : va_G) (k : Nat → ClassId) (a : Nat → Nat) (A : Nat → Prop) (C0 : q_C p s m meth c args RX8 cX8_clear 1 none wsX8_clear D (tyL k) A) (R : T2) : ∀ (σ : T2), S_X8_clear_b0 σ → P_X8_clear_b0 σ = R → ∀ (H : Heap) (locs : List Loc) (ls : Array Slot), q_W D A s.heap (wX8 k a σ) H locs → lv_has ls 1 [(0, .ref (a 0))] → W p l e { frames := 0, cells := 0, slots := 0, locals := 0 } s m args below meth c H locs 0 0 (MQ below (va_Qv (fun u => u = R) (fun u => q_E D (tyL k) A (wX8 k a u)) A) args s 0 0 A) (F0 m 0 ls []) := by
  intro σ hs hR H locs ls hW hl
  rw [P_X8_clear_b0_e] at hR
  rw [S_X8_clear_b0_e] at hs
  obtain ⟨hx, hb, hr, hml, hts, hown, hlocks, hK, hA⟩ := id C0
  have hf7 := hts (.fieldLink RX8 7 "BeatFollower$Tally" "slipSum" "I") (by decide +kernel)
  have hf13 := hts (.fieldLink RX8 13 "BeatFollower$Tally" "slipsTold" "I") (by decide +kernel)
  have hf16 := hts (.fieldLink RX8 16 "BeatFollower$Tally" "heard" "I") (by decide +kernel)
  have hf19 := hts (.fieldLink RX8 19 "BeatFollower$Tally" "passedOver" "I") (by decide +kernel)
  have hf22 := hts (.fieldLink RX8 22 "BeatFollower$Tally" "held" "I") (by decide +kernel)
  have hf25 := hts (.fieldLink RX8 25 "BeatFollower$Tally" "locksWon" "I") (by decide +kernel)
  have hf28 := hts (.fieldLink RX8 28 "BeatFollower$Tally" "locksLost" "I") (by decide +kernel)
  have hf31 := hts (.fieldLink RX8 31 "BeatFollower$Tally" "silences" "I") (by decide +kernel)
  have hf34 := hts (.fieldLink RX8 34 "BeatFollower$Tally" "offSum" "I") (by decide +kernel)
  have hf37 := hts (.fieldLink RX8 37 "BeatFollower$Tally" "heardLocked" "I") (by decide +kernel)
  have hinX8 : ∀ w ∈ u_ws RX8 TX8 10, w ∈ wsX8_clear := hin_X8_clear_X8
  refine lv_aload_n hx hb dX8_clear_0 rfl (lv_at hl 0 rfl) ?_
  refine lv_iconst (v := (0 : Int32)) hx hb dX8_clear_1 (by decide) ?_
  refine q_putf (ty := .int) (wd' := wX8 k a (u2 σ 0 (upd (σ 0) 0 (0 : Int32)))) C0 hW hinX8 tyX8 tyX8_ok nmX8 0 rfl rfl 0 (by decide) hf16 rfl (by decide +kernel) rfl rfl (Nat.le_of_ble_eq_true rfl) dX8_clear_2 (fX8_s0 _ _ _) (wX8_s0 k a _ _) (fun H locs hW => ?_)
  refine lv_aload_n hx hb dX8_clear_5 rfl (lv_at hl 0 rfl) ?_
  refine lv_iconst (v := (0 : Int32)) hx hb dX8_clear_6 (by decide) ?_
  refine q_putf (ty := .int) (wd' := wX8 k a (u2 σ 0 (upd (upd (σ 0) 0 (0 : Int32)) 1 (0 : Int32)))) C0 hW hinX8 tyX8 tyX8_ok nmX8 0 rfl rfl 1 (by decide) hf19 rfl (by decide +kernel) rfl rfl (Nat.le_of_ble_eq_true rfl) dX8_clear_7 (fX8_s1 _ _ _) ((wX8_s0 k a _ _).trans (congrArg (wX8 k a) (u2_same _ _ _ _))) (fun H locs hW => ?_)
  refine lv_aload_n hx hb dX8_clear_10 rfl (lv_at hl 0 rfl) ?_
  refine lv_iconst (v := (0 : Int32)) hx hb dX8_clear_11 (by decide) ?_
  refine q_putf (ty := .int) (wd' := wX8 k a (u2 σ 0 (upd (upd (upd (σ 0) 0 (0 : Int32)) 1 (0 : Int32)) 2 (0 : Int32)))) C0 hW hinX8 tyX8 tyX8_ok nmX8 0 rfl rfl 2 (by decide) hf22 rfl (by decide +kernel) rfl rfl (Nat.le_of_ble_eq_true rfl) dX8_clear_12 (fX8_s2 _ _ _) ((wX8_s0 k a _ _).trans (congrArg (wX8 k a) (u2_same _ _ _ _))) (fun H locs hW => ?_)
  refine lv_aload_n hx hb dX8_clear_15 rfl (lv_at hl 0 rfl) ?_
  refine lv_iconst (v := (0 : Int32)) hx hb dX8_clear_16 (by decide) ?_
  refine q_putf (ty := .int) (wd' := wX8 k a (u2 σ 0 (upd (upd (upd (upd (σ 0) 0 (0 : Int32)) 1 (0 : Int32)) 2 (0 : Int32)) 3 (0 : Int32)))) C0 hW hinX8 tyX8 tyX8_ok nmX8 0 rfl rfl 3 (by decide) hf25 rfl (by decide +kernel) rfl rfl (Nat.le_of_ble_eq_true rfl) dX8_clear_17 (fX8_s3 _ _ _) ((wX8_s0 k a _ _).trans (congrArg (wX8 k a) (u2_same _ _ _ _))) (fun H locs hW => ?_)
  refine lv_aload_n hx hb dX8_clear_20 rfl (lv_at hl 0 rfl) ?_
  refine lv_iconst (v := (0 : Int32)) hx hb dX8_clear_21 (by decide) ?_
  refine q_putf (ty := .int) (wd' := wX8 k a (u2 σ 0 (upd (upd (upd (upd (upd (σ 0) 0 (0 : Int32)) 1 (0 : Int32)) 2 (0 : Int32)) 3 (0 : Int32)) 4 (0 : Int32)))) C0 hW hinX8 tyX8 tyX8_ok nmX8 0 rfl rfl 4 (by decide) hf28 rfl (by decide +kernel) rfl rfl (Nat.le_of_ble_eq_true rfl) dX8_clear_22 (fX8_s4 _ _ _) ((wX8_s0 k a _ _).trans (congrArg (wX8 k a) (u2_same _ _ _ _))) (fun H locs hW => ?_)
  refine lv_aload_n hx hb dX8_clear_25 rfl (lv_at hl 0 rfl) ?_
  refine lv_iconst (v := (0 : Int32)) hx hb dX8_clear_26 (by decide) ?_
  refine q_putf (ty := .int) (wd' := wX8 k a (u2 σ 0 (upd (upd (upd (upd (upd (upd (σ 0) 0 (0 : Int32)) 1 (0 : Int32)) 2 (0 : Int32)) 3 (0 : Int32)) 4 (0 : Int32)) 5 (0 : Int32)))) C0 hW hinX8 tyX8 tyX8_ok nmX8 0 rfl rfl 5 (by decide) hf31 rfl (by decide +kernel) rfl rfl (Nat.le_of_ble_eq_true rfl) dX8_clear_27 (fX8_s5 _ _ _) ((wX8_s0 k a _ _).trans (congrArg (wX8 k a) (u2_same _ _ _ _))) (fun H locs hW => ?_)
  refine lv_aload_n hx hb dX8_clear_30 rfl (lv_at hl 0 rfl) ?_
  refine lv_iconst (v := (0 : Int32)) hx hb dX8_clear_31 (by decide) ?_
  refine q_putf (ty := .int) (wd' := wX8 k a (u2 σ 0 (upd (upd (upd (upd (upd (upd (upd (σ 0) 0 (0 : Int32)) 1 (0 : Int32)) 2 (0 : Int32)) 3 (0 : Int32)) 4 (0 : Int32)) 5 (0 : Int32)) 6 (0 : Int32)))) C0 hW hinX8 tyX8 tyX8_ok nmX8 0 rfl rfl 6 (by decide) hf13 rfl (by decide +kernel) rfl rfl (Nat.le_of_ble_eq_true rfl) dX8_clear_32 (fX8_s6 _ _ _) ((wX8_s0 k a _ _).trans (congrArg (wX8 k a) (u2_same _ _ _ _))) (fun H locs hW => ?_)
  refine lv_aload_n hx hb dX8_clear_35 rfl (lv_at hl 0 rfl) ?_
  refine lv_iconst (v := (0 : Int32)) hx hb dX8_clear_36 (by decide) ?_
  refine q_putf (ty := .int) (wd' := wX8 k a (u2 σ 0 (upd (upd (upd (upd (upd (upd (upd (upd (σ 0) 0 (0 : Int32)) 1 (0 : Int32)) 2 (0 : Int32)) 3 (0 : Int32)) 4 (0 : Int32)) 5 (0 : Int32)) 6 (0 : Int32)) 7 (0 : Int32)))) C0 hW hinX8 tyX8 tyX8_ok nmX8 0 rfl rfl 7 (by decide) hf7 rfl (by decide +kernel) rfl rfl (Nat.le_of_ble_eq_true rfl) dX8_clear_37 (fX8_s7 _ _ _) ((wX8_s0 k a _ _).trans (congrArg (wX8 k a) (u2_same _ _ _ _))) (fun H locs hW => ?_)
  refine lv_aload_n hx hb dX8_clear_40 rfl (lv_at hl 0 rfl) ?_
  refine lv_iconst (v := (0 : Int32)) hx hb dX8_clear_41 (by decide) ?_
  refine q_putf (ty := .int) (wd' := wX8 k a (u2 σ 0 (upd (upd (upd (upd (upd (upd (upd (upd (upd (σ 0) 0 (0 : Int32)) 1 (0 : Int32)) 2 (0 : Int32)) 3 (0 : Int32)) 4 (0 : Int32)) 5 (0 : Int32)) 6 (0 : Int32)) 7 (0 : Int32)) 8 (0 : Int32)))) C0 hW hinX8 tyX8 tyX8_ok nmX8 0 rfl rfl 8 (by decide) hf34 rfl (by decide +kernel) rfl rfl (Nat.le_of_ble_eq_true rfl) dX8_clear_42 (fX8_s8 _ _ _) ((wX8_s0 k a _ _).trans (congrArg (wX8 k a) (u2_same _ _ _ _))) (fun H locs hW => ?_)
  refine lv_aload_n hx hb dX8_clear_45 rfl (lv_at hl 0 rfl) ?_
  refine lv_iconst (v := (0 : Int32)) hx hb dX8_clear_46 (by decide) ?_
  refine q_putf (ty := .int) (wd' := wX8 k a (u2 σ 0 (upd (upd (upd (upd (upd (upd (upd (upd (upd (upd (σ 0) 0 (0 : Int32)) 1 (0 : Int32)) 2 (0 : Int32)) 3 (0 : Int32)) 4 (0 : Int32)) 5 (0 : Int32)) 6 (0 : Int32)) 7 (0 : Int32)) 8 (0 : Int32)) 9 (0 : Int32)))) C0 hW hinX8 tyX8 tyX8_ok nmX8 0 rfl rfl 9 (by decide) hf37 rfl (by decide +kernel) rfl rfl (Nat.le_of_ble_eq_true rfl) dX8_clear_47 (fX8_s9 _ _ _) ((wX8_s0 k a _ _).trans (congrArg (wX8 k a) (u2_same _ _ _ _))) (fun H locs hW => ?_)
  exact q_vret C0 hW hR dX8_clear_50
set_option maxHeartbeats 400000 in
set_option maxRecDepth 100000 in
theorem m_X8_clear (l : Launch) (D : va_G) (k : Nat → ClassId) (a : Nat → Nat) (sz : Nat) (σ : T2) (hs : S_X8_clear σ) : Met l yX8_clear wsX8_clear { frames := 0, cells := 0, slots := 0, locals := 0 } (va_Pc [.ref (a 0)] (q_B D (tyL k) (wX8 k a σ) sz)) (va_Qv (fun u => u = P_X8_clear σ) (fun u => q_E D (tyL k) (va_A (wX8 k a σ) sz) (wX8 k a u)) (va_A (wX8 k a σ) sz)) 0 0 (va_A (wX8 k a σ) sz) := by
  refine q_met [.ref (a 0)] (wX8 k a σ) sz (cc := cX8_clear) (maxL := 1) (ret := none) (by decide) rfl (Nat.le_of_ble_eq_true rfl) ?_
  intro p e s m args below meth c ls hsz C0 hW hl hin
  subst hsz
  exact b_X8_clear_b0 l D k a _ C0 _ σ  hs rfl s.heap [] ls hW (lv_sub hl [0] rfl)
theorem hin_X8_copyFrom_X8 : ∀ w ∈ u_ws RX8 TX8 10, w ∈ wsX8_copyFrom := by decide +kernel
theorem hd_X8_copyFrom : yX8_copyFrom.cls = RX8 ∧ yX8_copyFrom.cls ≠ "java/lang/invoke/MethodHandle" ∧ yX8_copyFrom.cls ≠ "java/lang/invoke/VarHandle" ∧ (parseMethodDescriptor yX8_copyFrom.desc).map (fun d => d.parameters.length) = some 1 := by decide +kernel
noncomputable def P_X8_copyFrom_b0 (σ : T2) : T2 := u2 σ 0 (upd (upd (upd (upd (upd (upd (upd (upd (upd (upd (σ 0) 0 (σ 1 0)) 1 (σ 1 1)) 2 (σ 1 2)) 3 (σ 1 3)) 4 (σ 1 4)) 5 (σ 1 5)) 6 (σ 1 6)) 7 (σ 1 7)) 8 (σ 1 8)) 9 (σ 1 9))
def S_X8_copyFrom_b0 (σ : T2) : Prop := True
theorem P_X8_copyFrom_b0_e (σ : T2) : P_X8_copyFrom_b0 σ = u2 σ 0 (upd (upd (upd (upd (upd (upd (upd (upd (upd (upd (σ 0) 0 (σ 1 0)) 1 (σ 1 1)) 2 (σ 1 2)) 3 (σ 1 3)) 4 (σ 1 4)) 5 (σ 1 5)) 6 (σ 1 6)) 7 (σ 1 7)) 8 (σ 1 8)) 9 (σ 1 9)) := rfl
theorem S_X8_copyFrom_b0_e (σ : T2) : S_X8_copyFrom_b0 σ = (True) := rfl
noncomputable def P_X8_copyFrom (σ : T2) : T2 := P_X8_copyFrom_b0 σ
def S_X8_copyFrom (σ : T2) : Prop := S_X8_copyFrom_b0 σ
set_option maxHeartbeats 400000 in
set_option maxRecDepth 100000 in
theorem b_X8_copyFrom_b0 {p : Program} {e : Env} {s : State} {m : MethodId} {args : Array Value} {below : List Frame} {meth : Method} {c : Code} (l : Launch) (D : va_G) (k : Nat → ClassId) (a : Nat → Nat) (A : Nat → Prop) (C0 : q_C p s m meth c args RX8 cX8_copyFrom 2 none wsX8_copyFrom D (tyL k) A) (R : T2) : ∀ (σ : T2), S_X8_copyFrom_b0 σ → P_X8_copyFrom_b0 σ = R → ∀ (H : Heap) (locs : List Loc) (ls : Array Slot), q_W D A s.heap (wX8_X8 k a σ) H locs → lv_has ls 2 [(0, .ref (a 0)), (1, .ref (a 1))] → W p l e { frames := 0, cells := 0, slots := 0, locals := 0 } s m args below meth c H locs 0 0 (MQ below (va_Qv (fun u => u = R) (fun u => q_E D (tyL k) A (wX8_X8 k a u)) A) args s 0 0 A) (F0 m 0 ls []) := by
  intro σ hs hR H locs ls hW hl
  rw [P_X8_copyFrom_b0_e] at hR
  rw [S_X8_copyFrom_b0_e] at hs
  obtain ⟨hx, hb, hr, hml, hts, hown, hlocks, hK, hA⟩ := id C0
  have hf7 := hts (.fieldLink RX8 7 "BeatFollower$Tally" "slipSum" "I") (by decide +kernel)
  have hf13 := hts (.fieldLink RX8 13 "BeatFollower$Tally" "slipsTold" "I") (by decide +kernel)
  have hf16 := hts (.fieldLink RX8 16 "BeatFollower$Tally" "heard" "I") (by decide +kernel)
  have hf19 := hts (.fieldLink RX8 19 "BeatFollower$Tally" "passedOver" "I") (by decide +kernel)
  have hf22 := hts (.fieldLink RX8 22 "BeatFollower$Tally" "held" "I") (by decide +kernel)
  have hf25 := hts (.fieldLink RX8 25 "BeatFollower$Tally" "locksWon" "I") (by decide +kernel)
  have hf28 := hts (.fieldLink RX8 28 "BeatFollower$Tally" "locksLost" "I") (by decide +kernel)
  have hf31 := hts (.fieldLink RX8 31 "BeatFollower$Tally" "silences" "I") (by decide +kernel)
  have hf34 := hts (.fieldLink RX8 34 "BeatFollower$Tally" "offSum" "I") (by decide +kernel)
  have hf37 := hts (.fieldLink RX8 37 "BeatFollower$Tally" "heardLocked" "I") (by decide +kernel)
  have hinX8 : ∀ w ∈ u_ws RX8 TX8 10, w ∈ wsX8_copyFrom := hin_X8_copyFrom_X8
  refine lv_aload_n hx hb dX8_copyFrom_0 rfl (lv_at hl 0 rfl) ?_
  refine lv_aload_n hx hb dX8_copyFrom_1 rfl (lv_at hl 1 rfl) ?_
  refine va_get (v := .int (σ 1 0)) (C := RX8) (T := TX8) (N := 10) hx hb hts hinX8 hown hK hW.1 1 rfl rfl 0 (by decide) hf16 (fun _ h9 => h9) rfl dX8_copyFrom_2 ?_
  refine q_putf (ty := .int) (wd' := wX8_X8 k a (u2 σ 0 (upd (σ 0) 0 (σ 1 0)))) C0 hW hinX8 tyX8 tyX8_ok nmX8 0 rfl rfl 0 (by decide) hf16 rfl (by decide +kernel) rfl rfl (Nat.le_of_ble_eq_true rfl) dX8_copyFrom_5 (fX8_s0 _ _ _) (wX8_X8_s0 k a _ _) (fun H locs hW => ?_)
  refine lv_aload_n hx hb dX8_copyFrom_8 rfl (lv_at hl 0 rfl) ?_
  refine lv_aload_n hx hb dX8_copyFrom_9 rfl (lv_at hl 1 rfl) ?_
  refine va_get (v := .int (σ 1 1)) (C := RX8) (T := TX8) (N := 10) hx hb hts hinX8 hown hK hW.1 1 rfl rfl 1 (by decide) hf19 (fun _ h9 => h9) rfl dX8_copyFrom_10 ?_
  refine q_putf (ty := .int) (wd' := wX8_X8 k a (u2 σ 0 (upd (upd (σ 0) 0 (σ 1 0)) 1 (σ 1 1)))) C0 hW hinX8 tyX8 tyX8_ok nmX8 0 rfl rfl 1 (by decide) hf19 rfl (by decide +kernel) rfl rfl (Nat.le_of_ble_eq_true rfl) dX8_copyFrom_13 (fX8_s1 _ _ _) ((wX8_X8_s0 k a _ _).trans (congrArg (wX8_X8 k a) (u2_same _ _ _ _))) (fun H locs hW => ?_)
  refine lv_aload_n hx hb dX8_copyFrom_16 rfl (lv_at hl 0 rfl) ?_
  refine lv_aload_n hx hb dX8_copyFrom_17 rfl (lv_at hl 1 rfl) ?_
  refine va_get (v := .int (σ 1 2)) (C := RX8) (T := TX8) (N := 10) hx hb hts hinX8 hown hK hW.1 1 rfl rfl 2 (by decide) hf22 (fun _ h9 => h9) rfl dX8_copyFrom_18 ?_
  refine q_putf (ty := .int) (wd' := wX8_X8 k a (u2 σ 0 (upd (upd (upd (σ 0) 0 (σ 1 0)) 1 (σ 1 1)) 2 (σ 1 2)))) C0 hW hinX8 tyX8 tyX8_ok nmX8 0 rfl rfl 2 (by decide) hf22 rfl (by decide +kernel) rfl rfl (Nat.le_of_ble_eq_true rfl) dX8_copyFrom_21 (fX8_s2 _ _ _) ((wX8_X8_s0 k a _ _).trans (congrArg (wX8_X8 k a) (u2_same _ _ _ _))) (fun H locs hW => ?_)
  refine lv_aload_n hx hb dX8_copyFrom_24 rfl (lv_at hl 0 rfl) ?_
  refine lv_aload_n hx hb dX8_copyFrom_25 rfl (lv_at hl 1 rfl) ?_
  refine va_get (v := .int (σ 1 3)) (C := RX8) (T := TX8) (N := 10) hx hb hts hinX8 hown hK hW.1 1 rfl rfl 3 (by decide) hf25 (fun _ h9 => h9) rfl dX8_copyFrom_26 ?_
  refine q_putf (ty := .int) (wd' := wX8_X8 k a (u2 σ 0 (upd (upd (upd (upd (σ 0) 0 (σ 1 0)) 1 (σ 1 1)) 2 (σ 1 2)) 3 (σ 1 3)))) C0 hW hinX8 tyX8 tyX8_ok nmX8 0 rfl rfl 3 (by decide) hf25 rfl (by decide +kernel) rfl rfl (Nat.le_of_ble_eq_true rfl) dX8_copyFrom_29 (fX8_s3 _ _ _) ((wX8_X8_s0 k a _ _).trans (congrArg (wX8_X8 k a) (u2_same _ _ _ _))) (fun H locs hW => ?_)
  refine lv_aload_n hx hb dX8_copyFrom_32 rfl (lv_at hl 0 rfl) ?_
  refine lv_aload_n hx hb dX8_copyFrom_33 rfl (lv_at hl 1 rfl) ?_
  refine va_get (v := .int (σ 1 4)) (C := RX8) (T := TX8) (N := 10) hx hb hts hinX8 hown hK hW.1 1 rfl rfl 4 (by decide) hf28 (fun _ h9 => h9) rfl dX8_copyFrom_34 ?_
  refine q_putf (ty := .int) (wd' := wX8_X8 k a (u2 σ 0 (upd (upd (upd (upd (upd (σ 0) 0 (σ 1 0)) 1 (σ 1 1)) 2 (σ 1 2)) 3 (σ 1 3)) 4 (σ 1 4)))) C0 hW hinX8 tyX8 tyX8_ok nmX8 0 rfl rfl 4 (by decide) hf28 rfl (by decide +kernel) rfl rfl (Nat.le_of_ble_eq_true rfl) dX8_copyFrom_37 (fX8_s4 _ _ _) ((wX8_X8_s0 k a _ _).trans (congrArg (wX8_X8 k a) (u2_same _ _ _ _))) (fun H locs hW => ?_)
  refine lv_aload_n hx hb dX8_copyFrom_40 rfl (lv_at hl 0 rfl) ?_
  refine lv_aload_n hx hb dX8_copyFrom_41 rfl (lv_at hl 1 rfl) ?_
  refine va_get (v := .int (σ 1 5)) (C := RX8) (T := TX8) (N := 10) hx hb hts hinX8 hown hK hW.1 1 rfl rfl 5 (by decide) hf31 (fun _ h9 => h9) rfl dX8_copyFrom_42 ?_
  refine q_putf (ty := .int) (wd' := wX8_X8 k a (u2 σ 0 (upd (upd (upd (upd (upd (upd (σ 0) 0 (σ 1 0)) 1 (σ 1 1)) 2 (σ 1 2)) 3 (σ 1 3)) 4 (σ 1 4)) 5 (σ 1 5)))) C0 hW hinX8 tyX8 tyX8_ok nmX8 0 rfl rfl 5 (by decide) hf31 rfl (by decide +kernel) rfl rfl (Nat.le_of_ble_eq_true rfl) dX8_copyFrom_45 (fX8_s5 _ _ _) ((wX8_X8_s0 k a _ _).trans (congrArg (wX8_X8 k a) (u2_same _ _ _ _))) (fun H locs hW => ?_)
  refine lv_aload_n hx hb dX8_copyFrom_48 rfl (lv_at hl 0 rfl) ?_
  refine lv_aload_n hx hb dX8_copyFrom_49 rfl (lv_at hl 1 rfl) ?_
  refine va_get (v := .int (σ 1 6)) (C := RX8) (T := TX8) (N := 10) hx hb hts hinX8 hown hK hW.1 1 rfl rfl 6 (by decide) hf13 (fun _ h9 => h9) rfl dX8_copyFrom_50 ?_
  refine q_putf (ty := .int) (wd' := wX8_X8 k a (u2 σ 0 (upd (upd (upd (upd (upd (upd (upd (σ 0) 0 (σ 1 0)) 1 (σ 1 1)) 2 (σ 1 2)) 3 (σ 1 3)) 4 (σ 1 4)) 5 (σ 1 5)) 6 (σ 1 6)))) C0 hW hinX8 tyX8 tyX8_ok nmX8 0 rfl rfl 6 (by decide) hf13 rfl (by decide +kernel) rfl rfl (Nat.le_of_ble_eq_true rfl) dX8_copyFrom_53 (fX8_s6 _ _ _) ((wX8_X8_s0 k a _ _).trans (congrArg (wX8_X8 k a) (u2_same _ _ _ _))) (fun H locs hW => ?_)
  refine lv_aload_n hx hb dX8_copyFrom_56 rfl (lv_at hl 0 rfl) ?_
  refine lv_aload_n hx hb dX8_copyFrom_57 rfl (lv_at hl 1 rfl) ?_
  refine va_get (v := .int (σ 1 7)) (C := RX8) (T := TX8) (N := 10) hx hb hts hinX8 hown hK hW.1 1 rfl rfl 7 (by decide) hf7 (fun _ h9 => h9) rfl dX8_copyFrom_58 ?_
  refine q_putf (ty := .int) (wd' := wX8_X8 k a (u2 σ 0 (upd (upd (upd (upd (upd (upd (upd (upd (σ 0) 0 (σ 1 0)) 1 (σ 1 1)) 2 (σ 1 2)) 3 (σ 1 3)) 4 (σ 1 4)) 5 (σ 1 5)) 6 (σ 1 6)) 7 (σ 1 7)))) C0 hW hinX8 tyX8 tyX8_ok nmX8 0 rfl rfl 7 (by decide) hf7 rfl (by decide +kernel) rfl rfl (Nat.le_of_ble_eq_true rfl) dX8_copyFrom_61 (fX8_s7 _ _ _) ((wX8_X8_s0 k a _ _).trans (congrArg (wX8_X8 k a) (u2_same _ _ _ _))) (fun H locs hW => ?_)
  refine lv_aload_n hx hb dX8_copyFrom_64 rfl (lv_at hl 0 rfl) ?_
  refine lv_aload_n hx hb dX8_copyFrom_65 rfl (lv_at hl 1 rfl) ?_
  refine va_get (v := .int (σ 1 8)) (C := RX8) (T := TX8) (N := 10) hx hb hts hinX8 hown hK hW.1 1 rfl rfl 8 (by decide) hf34 (fun _ h9 => h9) rfl dX8_copyFrom_66 ?_
  refine q_putf (ty := .int) (wd' := wX8_X8 k a (u2 σ 0 (upd (upd (upd (upd (upd (upd (upd (upd (upd (σ 0) 0 (σ 1 0)) 1 (σ 1 1)) 2 (σ 1 2)) 3 (σ 1 3)) 4 (σ 1 4)) 5 (σ 1 5)) 6 (σ 1 6)) 7 (σ 1 7)) 8 (σ 1 8)))) C0 hW hinX8 tyX8 tyX8_ok nmX8 0 rfl rfl 8 (by decide) hf34 rfl (by decide +kernel) rfl rfl (Nat.le_of_ble_eq_true rfl) dX8_copyFrom_69 (fX8_s8 _ _ _) ((wX8_X8_s0 k a _ _).trans (congrArg (wX8_X8 k a) (u2_same _ _ _ _))) (fun H locs hW => ?_)
  refine lv_aload_n hx hb dX8_copyFrom_72 rfl (lv_at hl 0 rfl) ?_
  refine lv_aload_n hx hb dX8_copyFrom_73 rfl (lv_at hl 1 rfl) ?_
  refine va_get (v := .int (σ 1 9)) (C := RX8) (T := TX8) (N := 10) hx hb hts hinX8 hown hK hW.1 1 rfl rfl 9 (by decide) hf37 (fun _ h9 => h9) rfl dX8_copyFrom_74 ?_
  refine q_putf (ty := .int) (wd' := wX8_X8 k a (u2 σ 0 (upd (upd (upd (upd (upd (upd (upd (upd (upd (upd (σ 0) 0 (σ 1 0)) 1 (σ 1 1)) 2 (σ 1 2)) 3 (σ 1 3)) 4 (σ 1 4)) 5 (σ 1 5)) 6 (σ 1 6)) 7 (σ 1 7)) 8 (σ 1 8)) 9 (σ 1 9)))) C0 hW hinX8 tyX8 tyX8_ok nmX8 0 rfl rfl 9 (by decide) hf37 rfl (by decide +kernel) rfl rfl (Nat.le_of_ble_eq_true rfl) dX8_copyFrom_77 (fX8_s9 _ _ _) ((wX8_X8_s0 k a _ _).trans (congrArg (wX8_X8 k a) (u2_same _ _ _ _))) (fun H locs hW => ?_)
  exact q_vret C0 hW hR dX8_copyFrom_80
set_option maxHeartbeats 400000 in
set_option maxRecDepth 100000 in
theorem m_X8_copyFrom (l : Launch) (D : va_G) (k : Nat → ClassId) (a : Nat → Nat) (sz : Nat) (σ : T2) (hs : S_X8_copyFrom σ) : Met l yX8_copyFrom wsX8_copyFrom { frames := 0, cells := 0, slots := 0, locals := 0 } (va_Pc [.ref (a 0), .ref (a 1)] (q_B D (tyL k) (wX8_X8 k a σ) sz)) (va_Qv (fun u => u = P_X8_copyFrom σ) (fun u => q_E D (tyL k) (va_A (wX8_X8 k a σ) sz) (wX8_X8 k a u)) (va_A (wX8_X8 k a σ) sz)) 0 0 (va_A (wX8_X8 k a σ) sz) := by
  refine q_met [.ref (a 0), .ref (a 1)] (wX8_X8 k a σ) sz (cc := cX8_copyFrom) (maxL := 2) (ret := none) (by decide) rfl (Nat.le_of_ble_eq_true rfl) ?_
  intro p e s m args below meth c ls hsz C0 hW hl hin
  subst hsz
  exact b_X8_copyFrom_b0 l D k a _ C0 _ σ  hs rfl s.heap [] ls hW (lv_sub hl [0, 1] rfl)
theorem hin_X5_has_X5 : ∀ w ∈ u_ws RX5 TX5 3, w ∈ wsX5_has := by decide +kernel
theorem hd_X5_has : yX5_has.cls = RX5 ∧ yX5_has.cls ≠ "java/lang/invoke/MethodHandle" ∧ yX5_has.cls ≠ "java/lang/invoke/VarHandle" ∧ (parseMethodDescriptor yX5_has.desc).map (fun d => d.parameters.length) = some 1 := by decide +kernel
noncomputable def P_X5_has_b0 (σ : T2) (v1 : Int32) : Int32 := if v1 < 0 then ((0 : Int32)) else (if (σ 0 2) ≤ v1 then ((0 : Int32)) else (if (64 : Int32) ≤ v1 then ((0 : Int32)) else ((1 : Int32))))
def S_X5_has_b0 (σ : T2) (v1 : Int32) : Prop := (v1 < 0 → (True)) ∧ (¬ (v1 < 0) → (((σ 0 2) ≤ v1 → (True)) ∧ (¬ ((σ 0 2) ≤ v1) → (((64 : Int32) ≤ v1 → (True)) ∧ (¬ ((64 : Int32) ≤ v1) → (True))))))
theorem P_X5_has_b0_e (σ : T2) (v1 : Int32) : P_X5_has_b0 σ v1 = if v1 < 0 then ((0 : Int32)) else (if (σ 0 2) ≤ v1 then ((0 : Int32)) else (if (64 : Int32) ≤ v1 then ((0 : Int32)) else ((1 : Int32)))) := rfl
theorem S_X5_has_b0_e (σ : T2) (v1 : Int32) : S_X5_has_b0 σ v1 = ((v1 < 0 → (True)) ∧ (¬ (v1 < 0) → (((σ 0 2) ≤ v1 → (True)) ∧ (¬ ((σ 0 2) ≤ v1) → (((64 : Int32) ≤ v1 → (True)) ∧ (¬ ((64 : Int32) ≤ v1) → (True))))))) := rfl
noncomputable def P_X5_has (σ : T2) (p0 : Int32) : Int32 := P_X5_has_b0 σ p0
def S_X5_has (σ : T2) (p0 : Int32) : Prop := S_X5_has_b0 σ p0
set_option maxHeartbeats 400000 in
set_option maxRecDepth 100000 in
theorem b_X5_has_b0 {p : Program} {e : Env} {s : State} {m : MethodId} {args : Array Value} {below : List Frame} {meth : Method} {c : Code} (l : Launch) (D : va_G) (k : Nat → ClassId) (a : Nat → Nat) (A : Nat → Prop) (C0 : q_C p s m meth c args RX5 cX5_has 2 (some .boolean) wsX5_has D (tyL k) A) (R : Int32) : ∀ (σ : T2) (v1 : Int32), S_X5_has_b0 σ v1 → P_X5_has_b0 σ v1 = R → ∀ (H : Heap) (locs : List Loc) (ls : Array Slot), q_W D A s.heap (wX5 k a σ) s.heap [] → lv_has ls 2 [(0, .ref (a 0)), (1, .int v1)] → W p l e { frames := 0, cells := 0, slots := 0, locals := 0 } s m args below meth c s.heap [] 0 0 (MQ below (vp_Si (fun r => r = R)) args s 0 0 (fun _ => False)) (F0 m 0 ls []) := by
  intro σ v1 hs hR H locs ls hW hl
  rw [P_X5_has_b0_e] at hR
  rw [S_X5_has_b0_e] at hs
  obtain ⟨hx, hb, hr, hml, hts, hown, hlocks, hK, hA⟩ := id C0
  have hf18 := hts (.fieldLink RX5 18 "BeatFollower$Plan" "many" "I") (by decide +kernel)
  have hinX5 : ∀ w ∈ u_ws RX5 TX5 3, w ∈ wsX5_has := hin_X5_has_X5
  refine lv_iload_n hx hb dX5_has_0 rfl (lv_at hl 1 rfl) ?_
  refine lv_if_lt (tgt := 22) hx hb dX5_has_1 (by decide) (fun c_1 => ?_) (fun c_1 => ?_)
  · have hs := hs.1 c_1
    rw [if_pos c_1] at hR
    refine lv_iconst (v := (0 : Int32)) hx hb dX5_has_22 (by decide) ?_
    exact q_zretr C0 (by decide) hR dX5_has_23
  · have hs := hs.2 c_1
    rw [if_neg c_1] at hR
    refine lv_iload_n hx hb dX5_has_4 rfl (lv_at hl 1 rfl) ?_
    refine lv_aload_n hx hb dX5_has_5 rfl (lv_at hl 0 rfl) ?_
    refine va_get (v := .int (σ 0 2)) (C := RX5) (T := TX5) (N := 3) hx hb hts hinX5 hown hK hW.1 0 rfl rfl 2 (by decide) hf18 (fun _ h9 => h9) rfl dX5_has_6 ?_
    refine lv_icmp_ge (tgt := 22) hx hb dX5_has_9 (by decide) (fun c_2 => ?_) (fun c_2 => ?_)
    · have hs := hs.1 c_2
      rw [if_pos c_2] at hR
      refine lv_iconst (v := (0 : Int32)) hx hb dX5_has_22 (by decide) ?_
      exact q_zretr C0 (by decide) hR dX5_has_23
    · have hs := hs.2 c_2
      rw [if_neg c_2] at hR
      refine lv_iload_n hx hb dX5_has_12 rfl (lv_at hl 1 rfl) ?_
      refine lv_bipush (v := (64 : Int32)) hx hb dX5_has_13 (by decide) ?_
      refine lv_icmp_ge (tgt := 22) hx hb dX5_has_15 (by decide) (fun c_3 => ?_) (fun c_3 => ?_)
      · have hs := hs.1 c_3
        rw [if_pos c_3] at hR
        refine lv_iconst (v := (0 : Int32)) hx hb dX5_has_22 (by decide) ?_
        exact q_zretr C0 (by decide) hR dX5_has_23
      · have hs := hs.2 c_3
        rw [if_neg c_3] at hR
        refine lv_iconst (v := (1 : Int32)) hx hb dX5_has_18 (by decide) ?_
        refine lv_goto (tgt := 23) hx hb dX5_has_19 (by decide) ?_
        exact q_zretr C0 (by decide) hR dX5_has_23
set_option maxHeartbeats 400000 in
set_option maxRecDepth 100000 in
theorem m_X5_has (l : Launch) (D : va_G) (k : Nat → ClassId) (a : Nat → Nat) (sz : Nat) (σ : T2) (p0 : Int32) (hs : S_X5_has σ p0) : Met l yX5_has wsX5_has { frames := 0, cells := 0, slots := 0, locals := 0 } (va_Pc [.ref (a 0), .int p0] (q_B D (tyL k) (wX5 k a σ) sz)) (vp_Si (fun r => r = P_X5_has σ p0)) 0 0 (fun _ => False) := by
  refine q_met [.ref (a 0), .int p0] (wX5 k a σ) sz (cc := cX5_has) (maxL := 2) (ret := (some .boolean)) (by decide) rfl (Nat.le_of_ble_eq_true rfl) ?_
  intro p e s m args below meth c ls hsz C0 hW hl hin
  subst hsz
  exact b_X5_has_b0 l D k a _ C0 _ σ p0 hs rfl s.heap [] ls hW (lv_sub hl [0, 1] rfl)
theorem hin_X5_timeOf_X5 : ∀ w ∈ u_ws RX5 TX5 3, w ∈ wsX5_timeOf := by decide +kernel
theorem hd_X5_timeOf : yX5_timeOf.cls = RX5 ∧ yX5_timeOf.cls ≠ "java/lang/invoke/MethodHandle" ∧ yX5_timeOf.cls ≠ "java/lang/invoke/VarHandle" ∧ (parseMethodDescriptor yX5_timeOf.desc).map (fun d => d.parameters.length) = some 1 := by decide +kernel
noncomputable def P_X5_timeOf_b0 (σ : T2) (v1 : Int32) : Int32 := if (P_X5_has σ v1) = 0 then ((0 : Int32)) else (σ 1 v1.toNatClampNeg)
def S_X5_timeOf_b0 (σ : T2) (v1 : Int32) : Prop := (S_X5_has σ v1) ∧ (((P_X5_has σ v1) = 0 → (True)) ∧ (¬ ((P_X5_has σ v1) = 0) → ((vp_in v1 64) ∧ (True))))
theorem P_X5_timeOf_b0_e (σ : T2) (v1 : Int32) : P_X5_timeOf_b0 σ v1 = if (P_X5_has σ v1) = 0 then ((0 : Int32)) else (σ 1 v1.toNatClampNeg) := rfl
theorem S_X5_timeOf_b0_e (σ : T2) (v1 : Int32) : S_X5_timeOf_b0 σ v1 = ((S_X5_has σ v1) ∧ (((P_X5_has σ v1) = 0 → (True)) ∧ (¬ ((P_X5_has σ v1) = 0) → ((vp_in v1 64) ∧ (True))))) := rfl
noncomputable def P_X5_timeOf (σ : T2) (p0 : Int32) : Int32 := P_X5_timeOf_b0 σ p0
def S_X5_timeOf (σ : T2) (p0 : Int32) : Prop := S_X5_timeOf_b0 σ p0
set_option maxHeartbeats 400000 in
set_option maxRecDepth 100000 in
theorem b_X5_timeOf_b0 {p : Program} {e : Env} {s : State} {m : MethodId} {args : Array Value} {below : List Frame} {meth : Method} {c : Code} (l : Launch) (D : va_G) (k : Nat → ClassId) (a : Nat → Nat) (A : Nat → Prop) (C0 : q_C p s m meth c args RX5 cX5_timeOf 2 (some .int) wsX5_timeOf D (tyL k) A) (R : Int32) : ∀ (σ : T2) (v1 : Int32), S_X5_timeOf_b0 σ v1 → P_X5_timeOf_b0 σ v1 = R → ∀ (H : Heap) (locs : List Loc) (ls : Array Slot), q_W D A s.heap (wX5 k a σ) s.heap [] → lv_has ls 2 [(0, .ref (a 0)), (1, .int v1)] → W p l e { frames := 1, cells := 0, slots := 0, locals := 21 } s m args below meth c s.heap [] 0 0 (MQ below (vp_Si (fun r => r = R)) args s 0 0 (fun _ => False)) (F0 m 0 ls []) := by
  intro σ v1 hs hR H locs ls hW hl
  rw [P_X5_timeOf_b0_e] at hR
  rw [S_X5_timeOf_b0_e] at hs
  obtain ⟨hx, hb, hr, hml, hts, hown, hlocks, hK, hA⟩ := id C0
  have hf9 := hts (.fieldLink RX5 9 "BeatFollower$Plan" "times" "[I") (by decide +kernel)
  have hinX5 : ∀ w ∈ u_ws RX5 TX5 3, w ∈ wsX5_timeOf := hin_X5_timeOf_X5
  refine lv_aload_n hx hb dX5_timeOf_0 rfl (lv_at hl 0 rfl) ?_
  refine lv_iload_n hx hb dX5_timeOf_1 rfl (lv_at hl 1 rfl) ?_
  have hs1 := hs.1
  have hs := hs.2
  refine q_Vi (As := [.int v1]) (rest := []) (R := P_X5_has σ v1) [0, 1, 2] [0, 1, 2, 3] 0 5 C0 hW (m_X5_has l D k a _ σ v1 hs1) (cwV 1 hts gX5_timeOf_X5_has rfl rfl rfl hd_X5_has ⟨Nat.le_of_ble_eq_true rfl, Nat.le_of_ble_eq_true rfl⟩) (by decide) (wX5_pl k a _) rfl (wX5_rec k a _) rfl hl rfl rfl (Nat.le_of_ble_eq_true rfl) dX5_timeOf_2 ⟨Nat.le_refl 0, Nat.le_refl 0⟩ ?_
  refine lv_if_eq (tgt := 17) hx hb dX5_timeOf_5 (by decide) (fun c_2 => ?_) (fun c_2 => ?_)
  · have hs := hs.1 c_2
    rw [if_pos c_2] at hR
    refine lv_iconst (v := (0 : Int32)) hx hb dX5_timeOf_17 (by decide) ?_
    exact q_iretr C0 hR dX5_timeOf_18
  · have hs := hs.2 c_2
    rw [if_neg c_2] at hR
    refine lv_aload_n hx hb dX5_timeOf_8 rfl (lv_at hl 0 rfl) ?_
    refine va_get (v := .ref (a 1)) (C := RX5) (T := TX5) (N := 3) hx hb hts hinX5 hown hK hW.1 0 rfl rfl 0 (by decide) hf9 (fun _ h9 => h9) rfl dX5_timeOf_9 ?_
    refine lv_iload_n hx hb dX5_timeOf_12 rfl (lv_at hl 1 rfl) ?_
    have hi3 := hs.1
    have hs := hs.2
    refine q_iald (v := σ 1 v1.toNatClampNeg) C0 hW 1 rfl rfl hi3 rfl rfl dX5_timeOf_13 ?_
    refine lv_goto (tgt := 18) hx hb dX5_timeOf_14 (by decide) ?_
    exact q_iretr C0 hR dX5_timeOf_18
set_option maxHeartbeats 400000 in
set_option maxRecDepth 100000 in
theorem m_X5_timeOf (l : Launch) (D : va_G) (k : Nat → ClassId) (a : Nat → Nat) (sz : Nat) (σ : T2) (p0 : Int32) (hs : S_X5_timeOf σ p0) : Met l yX5_timeOf wsX5_timeOf { frames := 1, cells := 0, slots := 0, locals := 21 } (va_Pc [.ref (a 0), .int p0] (q_B D (tyL k) (wX5 k a σ) sz)) (vp_Si (fun r => r = P_X5_timeOf σ p0)) 0 0 (fun _ => False) := by
  refine q_met [.ref (a 0), .int p0] (wX5 k a σ) sz (cc := cX5_timeOf) (maxL := 2) (ret := (some .int)) (by decide) rfl (Nat.le_of_ble_eq_true rfl) ?_
  intro p e s m args below meth c ls hsz C0 hW hl hin
  subst hsz
  exact b_X5_timeOf_b0 l D k a _ C0 _ σ p0 hs rfl s.heap [] ls hW (lv_sub hl [0, 1] rfl)
theorem hin_X5_numberOf_X5 : ∀ w ∈ u_ws RX5 TX5 3, w ∈ wsX5_numberOf := by decide +kernel
theorem hd_X5_numberOf : yX5_numberOf.cls = RX5 ∧ yX5_numberOf.cls ≠ "java/lang/invoke/MethodHandle" ∧ yX5_numberOf.cls ≠ "java/lang/invoke/VarHandle" ∧ (parseMethodDescriptor yX5_numberOf.desc).map (fun d => d.parameters.length) = some 1 := by decide +kernel
noncomputable def P_X5_numberOf_b0 (σ : T2) (v1 : Int32) : Int32 := if (P_X5_has σ v1) = 0 then ((-1 : Int32)) else (σ 2 v1.toNatClampNeg)
def S_X5_numberOf_b0 (σ : T2) (v1 : Int32) : Prop := (S_X5_has σ v1) ∧ (((P_X5_has σ v1) = 0 → (True)) ∧ (¬ ((P_X5_has σ v1) = 0) → ((vp_in v1 64) ∧ (True))))
theorem P_X5_numberOf_b0_e (σ : T2) (v1 : Int32) : P_X5_numberOf_b0 σ v1 = if (P_X5_has σ v1) = 0 then ((-1 : Int32)) else (σ 2 v1.toNatClampNeg) := rfl
theorem S_X5_numberOf_b0_e (σ : T2) (v1 : Int32) : S_X5_numberOf_b0 σ v1 = ((S_X5_has σ v1) ∧ (((P_X5_has σ v1) = 0 → (True)) ∧ (¬ ((P_X5_has σ v1) = 0) → ((vp_in v1 64) ∧ (True))))) := rfl
noncomputable def P_X5_numberOf (σ : T2) (p0 : Int32) : Int32 := P_X5_numberOf_b0 σ p0
def S_X5_numberOf (σ : T2) (p0 : Int32) : Prop := S_X5_numberOf_b0 σ p0
set_option maxHeartbeats 400000 in
set_option maxRecDepth 100000 in
theorem b_X5_numberOf_b0 {p : Program} {e : Env} {s : State} {m : MethodId} {args : Array Value} {below : List Frame} {meth : Method} {c : Code} (l : Launch) (D : va_G) (k : Nat → ClassId) (a : Nat → Nat) (A : Nat → Prop) (C0 : q_C p s m meth c args RX5 cX5_numberOf 2 (some .int) wsX5_numberOf D (tyL k) A) (R : Int32) : ∀ (σ : T2) (v1 : Int32), S_X5_numberOf_b0 σ v1 → P_X5_numberOf_b0 σ v1 = R → ∀ (H : Heap) (locs : List Loc) (ls : Array Slot), q_W D A s.heap (wX5 k a σ) s.heap [] → lv_has ls 2 [(0, .ref (a 0)), (1, .int v1)] → W p l e { frames := 1, cells := 0, slots := 0, locals := 21 } s m args below meth c s.heap [] 0 0 (MQ below (vp_Si (fun r => r = R)) args s 0 0 (fun _ => False)) (F0 m 0 ls []) := by
  intro σ v1 hs hR H locs ls hW hl
  rw [P_X5_numberOf_b0_e] at hR
  rw [S_X5_numberOf_b0_e] at hs
  obtain ⟨hx, hb, hr, hml, hts, hown, hlocks, hK, hA⟩ := id C0
  have hf15 := hts (.fieldLink RX5 15 "BeatFollower$Plan" "numbers" "[I") (by decide +kernel)
  have hinX5 : ∀ w ∈ u_ws RX5 TX5 3, w ∈ wsX5_numberOf := hin_X5_numberOf_X5
  refine lv_aload_n hx hb dX5_numberOf_0 rfl (lv_at hl 0 rfl) ?_
  refine lv_iload_n hx hb dX5_numberOf_1 rfl (lv_at hl 1 rfl) ?_
  have hs1 := hs.1
  have hs := hs.2
  refine q_Vi (As := [.int v1]) (rest := []) (R := P_X5_has σ v1) [0, 1, 2] [0, 1, 2, 3] 0 5 C0 hW (m_X5_has l D k a _ σ v1 hs1) (cwV 1 hts gX5_numberOf_X5_has rfl rfl rfl hd_X5_has ⟨Nat.le_of_ble_eq_true rfl, Nat.le_of_ble_eq_true rfl⟩) (by decide) (wX5_pl k a _) rfl (wX5_rec k a _) rfl hl rfl rfl (Nat.le_of_ble_eq_true rfl) dX5_numberOf_2 ⟨Nat.le_refl 0, Nat.le_refl 0⟩ ?_
  refine lv_if_eq (tgt := 17) hx hb dX5_numberOf_5 (by decide) (fun c_2 => ?_) (fun c_2 => ?_)
  · have hs := hs.1 c_2
    rw [if_pos c_2] at hR
    refine lv_iconst (v := (-1 : Int32)) hx hb dX5_numberOf_17 (by decide) ?_
    exact q_iretr C0 hR dX5_numberOf_18
  · have hs := hs.2 c_2
    rw [if_neg c_2] at hR
    refine lv_aload_n hx hb dX5_numberOf_8 rfl (lv_at hl 0 rfl) ?_
    refine va_get (v := .ref (a 2)) (C := RX5) (T := TX5) (N := 3) hx hb hts hinX5 hown hK hW.1 0 rfl rfl 1 (by decide) hf15 (fun _ h9 => h9) rfl dX5_numberOf_9 ?_
    refine lv_iload_n hx hb dX5_numberOf_12 rfl (lv_at hl 1 rfl) ?_
    have hi3 := hs.1
    have hs := hs.2
    refine q_iald (v := σ 2 v1.toNatClampNeg) C0 hW 2 rfl rfl hi3 rfl rfl dX5_numberOf_13 ?_
    refine lv_goto (tgt := 18) hx hb dX5_numberOf_14 (by decide) ?_
    exact q_iretr C0 hR dX5_numberOf_18
set_option maxHeartbeats 400000 in
set_option maxRecDepth 100000 in
theorem m_X5_numberOf (l : Launch) (D : va_G) (k : Nat → ClassId) (a : Nat → Nat) (sz : Nat) (σ : T2) (p0 : Int32) (hs : S_X5_numberOf σ p0) : Met l yX5_numberOf wsX5_numberOf { frames := 1, cells := 0, slots := 0, locals := 21 } (va_Pc [.ref (a 0), .int p0] (q_B D (tyL k) (wX5 k a σ) sz)) (vp_Si (fun r => r = P_X5_numberOf σ p0)) 0 0 (fun _ => False) := by
  refine q_met [.ref (a 0), .int p0] (wX5 k a σ) sz (cc := cX5_numberOf) (maxL := 2) (ret := (some .int)) (by decide) rfl (Nat.le_of_ble_eq_true rfl) ?_
  intro p e s m args below meth c ls hsz C0 hW hl hin
  subst hsz
  exact b_X5_numberOf_b0 l D k a _ C0 _ σ p0 hs rfl s.heap [] ls hW (lv_sub hl [0, 1] rfl)
theorem hin_X5_lastTime_X5 : ∀ w ∈ u_ws RX5 TX5 3, w ∈ wsX5_lastTime := by decide +kernel
theorem hd_X5_lastTime : yX5_lastTime.cls = RX5 ∧ yX5_lastTime.cls ≠ "java/lang/invoke/MethodHandle" ∧ yX5_lastTime.cls ≠ "java/lang/invoke/VarHandle" ∧ (parseMethodDescriptor yX5_lastTime.desc).map (fun d => d.parameters.length) = some 0 := by decide +kernel
noncomputable def P_X5_lastTime_b0 (σ : T2) : Int32 := P_X5_timeOf σ ((σ 0 2) - (1 : Int32))
def S_X5_lastTime_b0 (σ : T2) : Prop := (S_X5_timeOf σ ((σ 0 2) - (1 : Int32))) ∧ (True)
theorem P_X5_lastTime_b0_e (σ : T2) : P_X5_lastTime_b0 σ = P_X5_timeOf σ ((σ 0 2) - (1 : Int32)) := rfl
theorem S_X5_lastTime_b0_e (σ : T2) : S_X5_lastTime_b0 σ = ((S_X5_timeOf σ ((σ 0 2) - (1 : Int32))) ∧ (True)) := rfl
noncomputable def P_X5_lastTime (σ : T2) : Int32 := P_X5_lastTime_b0 σ
def S_X5_lastTime (σ : T2) : Prop := S_X5_lastTime_b0 σ
set_option maxHeartbeats 400000 in
set_option maxRecDepth 100000 in
theorem b_X5_lastTime_b0 {p : Program} {e : Env} {s : State} {m : MethodId} {args : Array Value} {below : List Frame} {meth : Method} {c : Code} (l : Launch) (D : va_G) (k : Nat → ClassId) (a : Nat → Nat) (A : Nat → Prop) (C0 : q_C p s m meth c args RX5 cX5_lastTime 1 (some .int) wsX5_lastTime D (tyL k) A) (R : Int32) : ∀ (σ : T2), S_X5_lastTime_b0 σ → P_X5_lastTime_b0 σ = R → ∀ (H : Heap) (locs : List Loc) (ls : Array Slot), q_W D A s.heap (wX5 k a σ) s.heap [] → lv_has ls 1 [(0, .ref (a 0))] → W p l e { frames := 2, cells := 0, slots := 0, locals := 42 } s m args below meth c s.heap [] 0 0 (MQ below (vp_Si (fun r => r = R)) args s 0 0 (fun _ => False)) (F0 m 0 ls []) := by
  intro σ hs hR H locs ls hW hl
  rw [P_X5_lastTime_b0_e] at hR
  rw [S_X5_lastTime_b0_e] at hs
  obtain ⟨hx, hb, hr, hml, hts, hown, hlocks, hK, hA⟩ := id C0
  have hf18 := hts (.fieldLink RX5 18 "BeatFollower$Plan" "many" "I") (by decide +kernel)
  have hinX5 : ∀ w ∈ u_ws RX5 TX5 3, w ∈ wsX5_lastTime := hin_X5_lastTime_X5
  refine lv_aload_n hx hb dX5_lastTime_0 rfl (lv_at hl 0 rfl) ?_
  refine lv_aload_n hx hb dX5_lastTime_1 rfl (lv_at hl 0 rfl) ?_
  refine va_get (v := .int (σ 0 2)) (C := RX5) (T := TX5) (N := 3) hx hb hts hinX5 hown hK hW.1 0 rfl rfl 2 (by decide) hf18 (fun _ h9 => h9) rfl dX5_lastTime_2 ?_
  refine lv_iconst (v := (1 : Int32)) hx hb dX5_lastTime_5 (by decide) ?_
  refine lv_isub hx hb dX5_lastTime_6 ?_
  have hs1 := hs.1
  have hs := hs.2
  refine q_Vi (As := [.int ((σ 0 2) - (1 : Int32))]) (rest := []) (R := P_X5_timeOf σ ((σ 0 2) - (1 : Int32))) [0, 1, 2] [0, 1, 2, 3] 0 5 C0 hW (m_X5_timeOf l D k a _ σ ((σ 0 2) - (1 : Int32)) hs1) (cwV 1 hts gX5_lastTime_X5_timeOf rfl rfl rfl hd_X5_timeOf ⟨Nat.le_of_ble_eq_true rfl, Nat.le_of_ble_eq_true rfl⟩) (by decide) (wX5_pl k a _) rfl (wX5_rec k a _) rfl hl rfl rfl (Nat.le_of_ble_eq_true rfl) dX5_lastTime_7 ⟨Nat.le_refl 0, Nat.le_refl 0⟩ ?_
  exact q_iretr C0 hR dX5_lastTime_10
set_option maxHeartbeats 400000 in
set_option maxRecDepth 100000 in
theorem m_X5_lastTime (l : Launch) (D : va_G) (k : Nat → ClassId) (a : Nat → Nat) (sz : Nat) (σ : T2) (hs : S_X5_lastTime σ) : Met l yX5_lastTime wsX5_lastTime { frames := 2, cells := 0, slots := 0, locals := 42 } (va_Pc [.ref (a 0)] (q_B D (tyL k) (wX5 k a σ) sz)) (vp_Si (fun r => r = P_X5_lastTime σ)) 0 0 (fun _ => False) := by
  refine q_met [.ref (a 0)] (wX5 k a σ) sz (cc := cX5_lastTime) (maxL := 1) (ret := (some .int)) (by decide) rfl (Nat.le_of_ble_eq_true rfl) ?_
  intro p e s m args below meth c ls hsz C0 hW hl hin
  subst hsz
  exact b_X5_lastTime_b0 l D k a _ C0 _ σ  hs rfl s.heap [] ls hW (lv_sub hl [0] rfl)
theorem hin_X5_nextNumber_X5 : ∀ w ∈ u_ws RX5 TX5 3, w ∈ wsX5_nextNumber := by decide +kernel
theorem hd_X5_nextNumber : yX5_nextNumber.cls = RX5 ∧ yX5_nextNumber.cls ≠ "java/lang/invoke/MethodHandle" ∧ yX5_nextNumber.cls ≠ "java/lang/invoke/VarHandle" ∧ (parseMethodDescriptor yX5_nextNumber.desc).map (fun d => d.parameters.length) = some 0 := by decide +kernel
noncomputable def P_X5_nextNumber_b0 (σ : T2) : Int32 := (P_X5_numberOf σ ((σ 0 2) - (1 : Int32))) + (1 : Int32)
def S_X5_nextNumber_b0 (σ : T2) : Prop := (S_X5_numberOf σ ((σ 0 2) - (1 : Int32))) ∧ (True)
theorem P_X5_nextNumber_b0_e (σ : T2) : P_X5_nextNumber_b0 σ = (P_X5_numberOf σ ((σ 0 2) - (1 : Int32))) + (1 : Int32) := rfl
theorem S_X5_nextNumber_b0_e (σ : T2) : S_X5_nextNumber_b0 σ = ((S_X5_numberOf σ ((σ 0 2) - (1 : Int32))) ∧ (True)) := rfl
noncomputable def P_X5_nextNumber (σ : T2) : Int32 := P_X5_nextNumber_b0 σ
def S_X5_nextNumber (σ : T2) : Prop := S_X5_nextNumber_b0 σ
set_option maxHeartbeats 400000 in
set_option maxRecDepth 100000 in
theorem b_X5_nextNumber_b0 {p : Program} {e : Env} {s : State} {m : MethodId} {args : Array Value} {below : List Frame} {meth : Method} {c : Code} (l : Launch) (D : va_G) (k : Nat → ClassId) (a : Nat → Nat) (A : Nat → Prop) (C0 : q_C p s m meth c args RX5 cX5_nextNumber 1 (some .int) wsX5_nextNumber D (tyL k) A) (R : Int32) : ∀ (σ : T2), S_X5_nextNumber_b0 σ → P_X5_nextNumber_b0 σ = R → ∀ (H : Heap) (locs : List Loc) (ls : Array Slot), q_W D A s.heap (wX5 k a σ) s.heap [] → lv_has ls 1 [(0, .ref (a 0))] → W p l e { frames := 2, cells := 0, slots := 0, locals := 42 } s m args below meth c s.heap [] 0 0 (MQ below (vp_Si (fun r => r = R)) args s 0 0 (fun _ => False)) (F0 m 0 ls []) := by
  intro σ hs hR H locs ls hW hl
  rw [P_X5_nextNumber_b0_e] at hR
  rw [S_X5_nextNumber_b0_e] at hs
  obtain ⟨hx, hb, hr, hml, hts, hown, hlocks, hK, hA⟩ := id C0
  have hf18 := hts (.fieldLink RX5 18 "BeatFollower$Plan" "many" "I") (by decide +kernel)
  have hinX5 : ∀ w ∈ u_ws RX5 TX5 3, w ∈ wsX5_nextNumber := hin_X5_nextNumber_X5
  refine lv_aload_n hx hb dX5_nextNumber_0 rfl (lv_at hl 0 rfl) ?_
  refine lv_aload_n hx hb dX5_nextNumber_1 rfl (lv_at hl 0 rfl) ?_
  refine va_get (v := .int (σ 0 2)) (C := RX5) (T := TX5) (N := 3) hx hb hts hinX5 hown hK hW.1 0 rfl rfl 2 (by decide) hf18 (fun _ h9 => h9) rfl dX5_nextNumber_2 ?_
  refine lv_iconst (v := (1 : Int32)) hx hb dX5_nextNumber_5 (by decide) ?_
  refine lv_isub hx hb dX5_nextNumber_6 ?_
  have hs1 := hs.1
  have hs := hs.2
  refine q_Vi (As := [.int ((σ 0 2) - (1 : Int32))]) (rest := []) (R := P_X5_numberOf σ ((σ 0 2) - (1 : Int32))) [0, 1, 2] [0, 1, 2, 3] 0 5 C0 hW (m_X5_numberOf l D k a _ σ ((σ 0 2) - (1 : Int32)) hs1) (cwV 1 hts gX5_nextNumber_X5_numberOf rfl rfl rfl hd_X5_numberOf ⟨Nat.le_of_ble_eq_true rfl, Nat.le_of_ble_eq_true rfl⟩) (by decide) (wX5_pl k a _) rfl (wX5_rec k a _) rfl hl rfl rfl (Nat.le_of_ble_eq_true rfl) dX5_nextNumber_7 ⟨Nat.le_refl 0, Nat.le_refl 0⟩ ?_
  refine lv_iconst (v := (1 : Int32)) hx hb dX5_nextNumber_10 (by decide) ?_
  refine lv_iadd hx hb dX5_nextNumber_11 ?_
  exact q_iretr C0 hR dX5_nextNumber_12
set_option maxHeartbeats 400000 in
set_option maxRecDepth 100000 in
theorem m_X5_nextNumber (l : Launch) (D : va_G) (k : Nat → ClassId) (a : Nat → Nat) (sz : Nat) (σ : T2) (hs : S_X5_nextNumber σ) : Met l yX5_nextNumber wsX5_nextNumber { frames := 2, cells := 0, slots := 0, locals := 42 } (va_Pc [.ref (a 0)] (q_B D (tyL k) (wX5 k a σ) sz)) (vp_Si (fun r => r = P_X5_nextNumber σ)) 0 0 (fun _ => False) := by
  refine q_met [.ref (a 0)] (wX5 k a σ) sz (cc := cX5_nextNumber) (maxL := 1) (ret := (some .int)) (by decide) rfl (Nat.le_of_ble_eq_true rfl) ?_
  intro p e s m args below meth c ls hsz C0 hW hl hin
  subst hsz
  exact b_X5_nextNumber_b0 l D k a _ C0 _ σ  hs rfl s.heap [] ls hW (lv_sub hl [0] rfl)
theorem hin_X5_canHold_X5 : ∀ w ∈ u_ws RX5 TX5 3, w ∈ wsX5_canHold := by decide +kernel
theorem hd_X5_canHold : yX5_canHold.cls = RX5 ∧ yX5_canHold.cls ≠ "java/lang/invoke/MethodHandle" ∧ yX5_canHold.cls ≠ "java/lang/invoke/VarHandle" ∧ (parseMethodDescriptor yX5_canHold.desc).map (fun d => d.parameters.length) = some 2 := by decide +kernel
noncomputable def P_X5_canHold_b0 (σ : T2) (v1 : Int32) (v2 : Int32) : Int32 := if (64 : Int32) ≤ (σ 0 2) then ((0 : Int32)) else (if (100000 : Int32) < v1 then ((0 : Int32)) else (if (1000 : Int32) < v2 then ((0 : Int32)) else ((1 : Int32))))
def S_X5_canHold_b0 (σ : T2) (v1 : Int32) (v2 : Int32) : Prop := ((64 : Int32) ≤ (σ 0 2) → (True)) ∧ (¬ ((64 : Int32) ≤ (σ 0 2)) → (((100000 : Int32) < v1 → (True)) ∧ (¬ ((100000 : Int32) < v1) → (((1000 : Int32) < v2 → (True)) ∧ (¬ ((1000 : Int32) < v2) → (True))))))
theorem P_X5_canHold_b0_e (σ : T2) (v1 : Int32) (v2 : Int32) : P_X5_canHold_b0 σ v1 v2 = if (64 : Int32) ≤ (σ 0 2) then ((0 : Int32)) else (if (100000 : Int32) < v1 then ((0 : Int32)) else (if (1000 : Int32) < v2 then ((0 : Int32)) else ((1 : Int32)))) := rfl
theorem S_X5_canHold_b0_e (σ : T2) (v1 : Int32) (v2 : Int32) : S_X5_canHold_b0 σ v1 v2 = (((64 : Int32) ≤ (σ 0 2) → (True)) ∧ (¬ ((64 : Int32) ≤ (σ 0 2)) → (((100000 : Int32) < v1 → (True)) ∧ (¬ ((100000 : Int32) < v1) → (((1000 : Int32) < v2 → (True)) ∧ (¬ ((1000 : Int32) < v2) → (True))))))) := rfl
noncomputable def P_X5_canHold (σ : T2) (p0 : Int32) (p1 : Int32) : Int32 := P_X5_canHold_b0 σ p0 p1
def S_X5_canHold (σ : T2) (p0 : Int32) (p1 : Int32) : Prop := S_X5_canHold_b0 σ p0 p1
set_option maxHeartbeats 400000 in
set_option maxRecDepth 100000 in
theorem b_X5_canHold_b0 {p : Program} {e : Env} {s : State} {m : MethodId} {args : Array Value} {below : List Frame} {meth : Method} {c : Code} (l : Launch) (D : va_G) (k : Nat → ClassId) (a : Nat → Nat) (A : Nat → Prop) (C0 : q_C p s m meth c args RX5 cX5_canHold 3 (some .boolean) wsX5_canHold D (tyL k) A) (R : Int32) : ∀ (σ : T2) (v1 : Int32) (v2 : Int32), S_X5_canHold_b0 σ v1 v2 → P_X5_canHold_b0 σ v1 v2 = R → ∀ (H : Heap) (locs : List Loc) (ls : Array Slot), q_W D A s.heap (wX5 k a σ) s.heap [] → lv_has ls 3 [(0, .ref (a 0)), (1, .int v1), (2, .int v2)] → W p l e { frames := 0, cells := 0, slots := 0, locals := 0 } s m args below meth c s.heap [] 0 0 (MQ below (vp_Si (fun r => r = R)) args s 0 0 (fun _ => False)) (F0 m 0 ls []) := by
  intro σ v1 v2 hs hR H locs ls hW hl
  rw [P_X5_canHold_b0_e] at hR
  rw [S_X5_canHold_b0_e] at hs
  obtain ⟨hx, hb, hr, hml, hts, hown, hlocks, hK, hA⟩ := id C0
  have hf18 := hts (.fieldLink RX5 18 "BeatFollower$Plan" "many" "I") (by decide +kernel)
  have hinX5 : ∀ w ∈ u_ws RX5 TX5 3, w ∈ wsX5_canHold := hin_X5_canHold_X5
  refine lv_aload_n hx hb dX5_canHold_0 rfl (lv_at hl 0 rfl) ?_
  refine va_get (v := .int (σ 0 2)) (C := RX5) (T := TX5) (N := 3) hx hb hts hinX5 hown hK hW.1 0 rfl rfl 2 (by decide) hf18 (fun _ h9 => h9) rfl dX5_canHold_1 ?_
  refine lv_bipush (v := (64 : Int32)) hx hb dX5_canHold_4 (by decide) ?_
  refine lv_icmp_ge (tgt := 26) hx hb dX5_canHold_6 (by decide) (fun c_1 => ?_) (fun c_1 => ?_)
  · have hs := hs.1 c_1
    rw [if_pos c_1] at hR
    refine lv_iconst (v := (0 : Int32)) hx hb dX5_canHold_26 (by decide) ?_
    exact q_zretr C0 (by decide) hR dX5_canHold_27
  · have hs := hs.2 c_1
    rw [if_neg c_1] at hR
    refine lv_iload_n hx hb dX5_canHold_9 rfl (lv_at hl 1 rfl) ?_
    refine lv_ldc (v := (100000 : Int32)) hx hb hown (hts (.constant RX5 33 (100000 : Int32)) (by decide +kernel)) dX5_canHold_10 ?_
    refine lv_icmp_gt (tgt := 26) hx hb dX5_canHold_12 (by decide) (fun c_2 => ?_) (fun c_2 => ?_)
    · have hs := hs.1 c_2
      rw [if_pos c_2] at hR
      refine lv_iconst (v := (0 : Int32)) hx hb dX5_canHold_26 (by decide) ?_
      exact q_zretr C0 (by decide) hR dX5_canHold_27
    · have hs := hs.2 c_2
      rw [if_neg c_2] at hR
      refine lv_iload_n hx hb dX5_canHold_15 rfl (lv_at hl 2 rfl) ?_
      refine lv_sipush (v := (1000 : Int32)) hx hb dX5_canHold_16 (by decide) ?_
      refine lv_icmp_gt (tgt := 26) hx hb dX5_canHold_19 (by decide) (fun c_3 => ?_) (fun c_3 => ?_)
      · have hs := hs.1 c_3
        rw [if_pos c_3] at hR
        refine lv_iconst (v := (0 : Int32)) hx hb dX5_canHold_26 (by decide) ?_
        exact q_zretr C0 (by decide) hR dX5_canHold_27
      · have hs := hs.2 c_3
        rw [if_neg c_3] at hR
        refine lv_iconst (v := (1 : Int32)) hx hb dX5_canHold_22 (by decide) ?_
        refine lv_goto (tgt := 27) hx hb dX5_canHold_23 (by decide) ?_
        exact q_zretr C0 (by decide) hR dX5_canHold_27
set_option maxHeartbeats 400000 in
set_option maxRecDepth 100000 in
theorem m_X5_canHold (l : Launch) (D : va_G) (k : Nat → ClassId) (a : Nat → Nat) (sz : Nat) (σ : T2) (p0 : Int32) (p1 : Int32) (hs : S_X5_canHold σ p0 p1) : Met l yX5_canHold wsX5_canHold { frames := 0, cells := 0, slots := 0, locals := 0 } (va_Pc [.ref (a 0), .int p0, .int p1] (q_B D (tyL k) (wX5 k a σ) sz)) (vp_Si (fun r => r = P_X5_canHold σ p0 p1)) 0 0 (fun _ => False) := by
  refine q_met [.ref (a 0), .int p0, .int p1] (wX5 k a σ) sz (cc := cX5_canHold) (maxL := 3) (ret := (some .boolean)) (by decide) rfl (Nat.le_of_ble_eq_true rfl) ?_
  intro p e s m args below meth c ls hsz C0 hW hl hin
  subst hsz
  exact b_X5_canHold_b0 l D k a _ C0 _ σ p0 p1 hs rfl s.heap [] ls hW (lv_sub hl [0, 1, 2] rfl)
theorem hin_X5_append_X5 : ∀ w ∈ u_ws RX5 TX5 3, w ∈ wsX5_append := by decide +kernel
theorem hd_X5_append : yX5_append.cls = RX5 ∧ yX5_append.cls ≠ "java/lang/invoke/MethodHandle" ∧ yX5_append.cls ≠ "java/lang/invoke/VarHandle" ∧ (parseMethodDescriptor yX5_append.desc).map (fun d => d.parameters.length) = some 2 := by decide +kernel
noncomputable def P_X5_append_b0 (σ : T2) (v1 : Int32) (v2 : Int32) : T2 := if (σ 0 2) < 0 then (σ) else (if (64 : Int32) ≤ (σ 0 2) then (σ) else (u2 (u2 (u2 σ 1 (upd (σ 1) ((σ 0 2).toNatClampNeg) v1)) 2 (upd (σ 2) ((σ 0 2).toNatClampNeg) v2)) 0 (upd (σ 0) 2 ((σ 0 2) + (1 : Int32)))))
def S_X5_append_b0 (σ : T2) (v1 : Int32) (v2 : Int32) : Prop := ((σ 0 2) < 0 → (True)) ∧ (¬ ((σ 0 2) < 0) → (((64 : Int32) ≤ (σ 0 2) → (True)) ∧ (¬ ((64 : Int32) ≤ (σ 0 2)) → ((vp_in (σ 0 2) 64) ∧ ((vp_in (σ 0 2) 64) ∧ (True))))))
theorem P_X5_append_b0_e (σ : T2) (v1 : Int32) (v2 : Int32) : P_X5_append_b0 σ v1 v2 = if (σ 0 2) < 0 then (σ) else (if (64 : Int32) ≤ (σ 0 2) then (σ) else (u2 (u2 (u2 σ 1 (upd (σ 1) ((σ 0 2).toNatClampNeg) v1)) 2 (upd (σ 2) ((σ 0 2).toNatClampNeg) v2)) 0 (upd (σ 0) 2 ((σ 0 2) + (1 : Int32))))) := rfl
theorem S_X5_append_b0_e (σ : T2) (v1 : Int32) (v2 : Int32) : S_X5_append_b0 σ v1 v2 = (((σ 0 2) < 0 → (True)) ∧ (¬ ((σ 0 2) < 0) → (((64 : Int32) ≤ (σ 0 2) → (True)) ∧ (¬ ((64 : Int32) ≤ (σ 0 2)) → ((vp_in (σ 0 2) 64) ∧ ((vp_in (σ 0 2) 64) ∧ (True))))))) := rfl
noncomputable def P_X5_append (σ : T2) (p0 : Int32) (p1 : Int32) : T2 := P_X5_append_b0 σ p0 p1
def S_X5_append (σ : T2) (p0 : Int32) (p1 : Int32) : Prop := S_X5_append_b0 σ p0 p1
set_option maxHeartbeats 400000 in
set_option maxRecDepth 100000 in
theorem b_X5_append_b0 {p : Program} {e : Env} {s : State} {m : MethodId} {args : Array Value} {below : List Frame} {meth : Method} {c : Code} (l : Launch) (D : va_G) (k : Nat → ClassId) (a : Nat → Nat) (A : Nat → Prop) (C0 : q_C p s m meth c args RX5 cX5_append 3 none wsX5_append D (tyL k) A) (R : T2) : ∀ (σ : T2) (v1 : Int32) (v2 : Int32), S_X5_append_b0 σ v1 v2 → P_X5_append_b0 σ v1 v2 = R → ∀ (H : Heap) (locs : List Loc) (ls : Array Slot), q_W D A s.heap (wX5 k a σ) H locs → lv_has ls 3 [(0, .ref (a 0)), (1, .int v1), (2, .int v2)] → W p l e { frames := 0, cells := 0, slots := 0, locals := 0 } s m args below meth c H locs 0 0 (MQ below (va_Qv (fun u => u = R) (fun u => q_E D (tyL k) A (wX5 k a u)) A) args s 0 0 A) (F0 m 0 ls []) := by
  intro σ v1 v2 hs hR H locs ls hW hl
  rw [P_X5_append_b0_e] at hR
  rw [S_X5_append_b0_e] at hs
  obtain ⟨hx, hb, hr, hml, hts, hown, hlocks, hK, hA⟩ := id C0
  have hf9 := hts (.fieldLink RX5 9 "BeatFollower$Plan" "times" "[I") (by decide +kernel)
  have hf15 := hts (.fieldLink RX5 15 "BeatFollower$Plan" "numbers" "[I") (by decide +kernel)
  have hf18 := hts (.fieldLink RX5 18 "BeatFollower$Plan" "many" "I") (by decide +kernel)
  have hinX5 : ∀ w ∈ u_ws RX5 TX5 3, w ∈ wsX5_append := hin_X5_append_X5
  refine lv_aload_n hx hb dX5_append_0 rfl (lv_at hl 0 rfl) ?_
  refine va_get (v := .int (σ 0 2)) (C := RX5) (T := TX5) (N := 3) hx hb hts hinX5 hown hK hW.1 0 rfl rfl 2 (by decide) hf18 (fun _ h9 => h9) rfl dX5_append_1 ?_
  refine lv_if_lt (tgt := 46) hx hb dX5_append_4 (by decide) (fun c_1 => ?_) (fun c_1 => ?_)
  · have hs := hs.1 c_1
    rw [if_pos c_1] at hR
    exact q_vret C0 hW hR dX5_append_46
  · have hs := hs.2 c_1
    rw [if_neg c_1] at hR
    refine lv_aload_n hx hb dX5_append_7 rfl (lv_at hl 0 rfl) ?_
    refine va_get (v := .int (σ 0 2)) (C := RX5) (T := TX5) (N := 3) hx hb hts hinX5 hown hK hW.1 0 rfl rfl 2 (by decide) hf18 (fun _ h9 => h9) rfl dX5_append_8 ?_
    refine lv_bipush (v := (64 : Int32)) hx hb dX5_append_11 (by decide) ?_
    refine lv_icmp_ge (tgt := 46) hx hb dX5_append_13 (by decide) (fun c_2 => ?_) (fun c_2 => ?_)
    · have hs := hs.1 c_2
      rw [if_pos c_2] at hR
      exact q_vret C0 hW hR dX5_append_46
    · have hs := hs.2 c_2
      rw [if_neg c_2] at hR
      refine lv_aload_n hx hb dX5_append_16 rfl (lv_at hl 0 rfl) ?_
      refine va_get (v := .ref (a 1)) (C := RX5) (T := TX5) (N := 3) hx hb hts hinX5 hown hK hW.1 0 rfl rfl 0 (by decide) hf9 (fun _ h9 => h9) rfl dX5_append_17 ?_
      refine lv_aload_n hx hb dX5_append_20 rfl (lv_at hl 0 rfl) ?_
      refine va_get (v := .int (σ 0 2)) (C := RX5) (T := TX5) (N := 3) hx hb hts hinX5 hown hK hW.1 0 rfl rfl 2 (by decide) hf18 (fun _ h9 => h9) rfl dX5_append_21 ?_
      refine lv_iload_n hx hb dX5_append_24 rfl (lv_at hl 1 rfl) ?_
      have hi3 := hs.1
      have hs := hs.2
      refine q_iast (f := σ 1) (wd' := wX5 k a (u2 σ 1 (upd (σ 1) ((σ 0 2).toNatClampNeg) v1))) C0 hW 1 rfl rfl hi3 rfl dX5_append_25 (wX5_s1 k a _ _) (fun H locs hW => ?_)
      refine lv_aload_n hx hb dX5_append_26 rfl (lv_at hl 0 rfl) ?_
      refine va_get (v := .ref (a 2)) (C := RX5) (T := TX5) (N := 3) hx hb hts hinX5 hown hK hW.1 0 rfl rfl 1 (by decide) hf15 (fun _ h9 => h9) rfl dX5_append_27 ?_
      refine lv_aload_n hx hb dX5_append_30 rfl (lv_at hl 0 rfl) ?_
      refine va_get (v := .int (σ 0 2)) (C := RX5) (T := TX5) (N := 3) hx hb hts hinX5 hown hK hW.1 0 rfl rfl 2 (by decide) hf18 (fun _ h9 => h9) rfl dX5_append_31 ?_
      refine lv_iload_n hx hb dX5_append_34 rfl (lv_at hl 2 rfl) ?_
      have hi4 := hs.1
      have hs := hs.2
      refine q_iast (f := σ 2) (wd' := wX5 k a (u2 (u2 σ 1 (upd (σ 1) ((σ 0 2).toNatClampNeg) v1)) 2 (upd (σ 2) ((σ 0 2).toNatClampNeg) v2))) C0 hW 2 rfl rfl hi4 rfl dX5_append_35 (wX5_s2 k a _ _) (fun H locs hW => ?_)
      refine lv_aload_n hx hb dX5_append_36 rfl (lv_at hl 0 rfl) ?_
      refine lv_dup hx hb dX5_append_37 rfl ?_
      refine va_get (v := .int (σ 0 2)) (C := RX5) (T := TX5) (N := 3) hx hb hts hinX5 hown hK hW.1 0 rfl rfl 2 (by decide) hf18 (fun _ h9 => h9) rfl dX5_append_38 ?_
      refine lv_iconst (v := (1 : Int32)) hx hb dX5_append_41 (by decide) ?_
      refine lv_iadd hx hb dX5_append_42 ?_
      refine q_putf (ty := .int) (wd' := wX5 k a (u2 (u2 (u2 σ 1 (upd (σ 1) ((σ 0 2).toNatClampNeg) v1)) 2 (upd (σ 2) ((σ 0 2).toNatClampNeg) v2)) 0 (upd (σ 0) 2 ((σ 0 2) + (1 : Int32))))) C0 hW hinX5 tyX5 tyX5_ok nmX5 0 rfl rfl 2 (by decide) hf18 rfl (by decide +kernel) rfl rfl (Nat.le_of_ble_eq_true rfl) dX5_append_43 (fX5_s2 _ _ _) (wX5_s0 k a _ _) (fun H locs hW => ?_)
      exact q_vret C0 hW hR dX5_append_46
set_option maxHeartbeats 400000 in
set_option maxRecDepth 100000 in
theorem m_X5_append (l : Launch) (D : va_G) (k : Nat → ClassId) (a : Nat → Nat) (sz : Nat) (σ : T2) (p0 : Int32) (p1 : Int32) (hs : S_X5_append σ p0 p1) : Met l yX5_append wsX5_append { frames := 0, cells := 0, slots := 0, locals := 0 } (va_Pc [.ref (a 0), .int p0, .int p1] (q_B D (tyL k) (wX5 k a σ) sz)) (va_Qv (fun u => u = P_X5_append σ p0 p1) (fun u => q_E D (tyL k) (va_A (wX5 k a σ) sz) (wX5 k a u)) (va_A (wX5 k a σ) sz)) 0 0 (va_A (wX5 k a σ) sz) := by
  refine q_met [.ref (a 0), .int p0, .int p1] (wX5 k a σ) sz (cc := cX5_append) (maxL := 3) (ret := none) (by decide) rfl (Nat.le_of_ble_eq_true rfl) ?_
  intro p e s m args below meth c ls hsz C0 hW hl hin
  subst hsz
  exact b_X5_append_b0 l D k a _ C0 _ σ p0 p1 hs rfl s.heap [] ls hW (lv_sub hl [0, 1, 2] rfl)
theorem hin_X5_copyFrom_X5 : ∀ w ∈ u_ws RX5 TX5 3, w ∈ wsX5_copyFrom := by decide +kernel
theorem hd_X5_copyFrom : yX5_copyFrom.cls = RX5 ∧ yX5_copyFrom.cls ≠ "java/lang/invoke/MethodHandle" ∧ yX5_copyFrom.cls ≠ "java/lang/invoke/VarHandle" ∧ (parseMethodDescriptor yX5_copyFrom.desc).map (fun d => d.parameters.length) = some 1 := by decide +kernel
noncomputable def P_X5_copyFrom_b0 (σ : T2) : T2 := u2 (u2 (u2 σ 1 (va_cpy (σ 4) (σ 1) 0 0 64)) 2 (va_cpy (σ 5) (σ 2) 0 0 64)) 0 (upd (σ 0) 2 (σ 3 2))
def S_X5_copyFrom_b0 (σ : T2) : Prop := True
theorem P_X5_copyFrom_b0_e (σ : T2) : P_X5_copyFrom_b0 σ = u2 (u2 (u2 σ 1 (va_cpy (σ 4) (σ 1) 0 0 64)) 2 (va_cpy (σ 5) (σ 2) 0 0 64)) 0 (upd (σ 0) 2 (σ 3 2)) := rfl
theorem S_X5_copyFrom_b0_e (σ : T2) : S_X5_copyFrom_b0 σ = (True) := rfl
noncomputable def P_X5_copyFrom (σ : T2) : T2 := P_X5_copyFrom_b0 σ
def S_X5_copyFrom (σ : T2) : Prop := S_X5_copyFrom_b0 σ
set_option maxHeartbeats 400000 in
set_option maxRecDepth 100000 in
theorem b_X5_copyFrom_b0 {p : Program} {e : Env} {s : State} {m : MethodId} {args : Array Value} {below : List Frame} {meth : Method} {c : Code} (l : Launch) (D : va_G) (k : Nat → ClassId) (a : Nat → Nat) (A : Nat → Prop) (C0 : q_C p s m meth c args RX5 cX5_copyFrom 2 none wsX5_copyFrom D (tyL k) A) (R : T2) : ∀ (σ : T2), S_X5_copyFrom_b0 σ → P_X5_copyFrom_b0 σ = R → ∀ (H : Heap) (locs : List Loc) (ls : Array Slot), q_W D A s.heap (wX5_X5 k a σ) H locs → lv_has ls 2 [(0, .ref (a 0)), (1, .ref (a 3))] → W p l e { frames := 1, cells := 0, slots := 0, locals := 40 } s m args below meth c H locs 0 0 (MQ below (va_Qv (fun u => u = R) (fun u => q_E D (tyL k) A (wX5_X5 k a u)) A) args s 0 0 A) (F0 m 0 ls []) := by
  intro σ hs hR H locs ls hW hl
  rw [P_X5_copyFrom_b0_e] at hR
  rw [S_X5_copyFrom_b0_e] at hs
  obtain ⟨hx, hb, hr, hml, hts, hown, hlocks, hK, hA⟩ := id C0
  have hf9 := hts (.fieldLink RX5 9 "BeatFollower$Plan" "times" "[I") (by decide +kernel)
  have hf15 := hts (.fieldLink RX5 15 "BeatFollower$Plan" "numbers" "[I") (by decide +kernel)
  have hf18 := hts (.fieldLink RX5 18 "BeatFollower$Plan" "many" "I") (by decide +kernel)
  have hinX5 : ∀ w ∈ u_ws RX5 TX5 3, w ∈ wsX5_copyFrom := hin_X5_copyFrom_X5
  refine lv_aload_n hx hb dX5_copyFrom_0 rfl (lv_at hl 1 rfl) ?_
  refine va_get (v := .ref (a 4)) (C := RX5) (T := TX5) (N := 3) hx hb hts hinX5 hown hK hW.1 3 rfl rfl 0 (by decide) hf9 (fun _ h9 => h9) rfl dX5_copyFrom_1 ?_
  refine lv_iconst (v := (0 : Int32)) hx hb dX5_copyFrom_4 (by decide) ?_
  refine lv_aload_n hx hb dX5_copyFrom_5 rfl (lv_at hl 0 rfl) ?_
  refine va_get (v := .ref (a 1)) (C := RX5) (T := TX5) (N := 3) hx hb hts hinX5 hown hK hW.1 0 rfl rfl 0 (by decide) hf9 (fun _ h9 => h9) rfl dX5_copyFrom_6 ?_
  refine lv_iconst (v := (0 : Int32)) hx hb dX5_copyFrom_9 (by decide) ?_
  refine lv_bipush (v := (64 : Int32)) hx hb dX5_copyFrom_10 (by decide) ?_
  refine q_cpy (f := σ 4) (g := σ 1) (kn := 64) (wd' := wX5_X5 k a (u2 σ 1 (va_cpy (σ 4) (σ 1) 0 0 64))) C0 hW 4 1 rfl rfl rfl (by rw [hml]; exact hl.1.symm) (hts (.methodLink RX5 58 arraycopyName) (by decide +kernel)) (hts (.native arraycopyName) (by decide +kernel)) (hts (.static arraycopyName) (by decide +kernel)) (hts (.initialized "java/lang/System") (by decide +kernel)) (by decide) cl_64 (Nat.le_of_ble_eq_true rfl) (Nat.le_of_ble_eq_true rfl) (Nat.le_of_ble_eq_true rfl) (Nat.le_of_ble_eq_true rfl) dX5_copyFrom_12 (wX5_X5_s1 k a _ _) (fun H locs hW => ?_)
  refine lv_aload_n hx hb dX5_copyFrom_15 rfl (lv_at hl 1 rfl) ?_
  refine va_get (v := .ref (a 5)) (C := RX5) (T := TX5) (N := 3) hx hb hts hinX5 hown hK hW.1 3 rfl rfl 1 (by decide) hf15 (fun _ h9 => h9) rfl dX5_copyFrom_16 ?_
  refine lv_iconst (v := (0 : Int32)) hx hb dX5_copyFrom_19 (by decide) ?_
  refine lv_aload_n hx hb dX5_copyFrom_20 rfl (lv_at hl 0 rfl) ?_
  refine va_get (v := .ref (a 2)) (C := RX5) (T := TX5) (N := 3) hx hb hts hinX5 hown hK hW.1 0 rfl rfl 1 (by decide) hf15 (fun _ h9 => h9) rfl dX5_copyFrom_21 ?_
  refine lv_iconst (v := (0 : Int32)) hx hb dX5_copyFrom_24 (by decide) ?_
  refine lv_bipush (v := (64 : Int32)) hx hb dX5_copyFrom_25 (by decide) ?_
  refine q_cpy (f := σ 5) (g := σ 2) (kn := 64) (wd' := wX5_X5 k a (u2 (u2 σ 1 (va_cpy (σ 4) (σ 1) 0 0 64)) 2 (va_cpy (σ 5) (σ 2) 0 0 64))) C0 hW 5 2 rfl rfl rfl (by rw [hml]; exact hl.1.symm) (hts (.methodLink RX5 58 arraycopyName) (by decide +kernel)) (hts (.native arraycopyName) (by decide +kernel)) (hts (.static arraycopyName) (by decide +kernel)) (hts (.initialized "java/lang/System") (by decide +kernel)) (by decide) cl_64 (Nat.le_of_ble_eq_true rfl) (Nat.le_of_ble_eq_true rfl) (Nat.le_of_ble_eq_true rfl) (Nat.le_of_ble_eq_true rfl) dX5_copyFrom_27 (wX5_X5_s2 k a _ _) (fun H locs hW => ?_)
  refine lv_aload_n hx hb dX5_copyFrom_30 rfl (lv_at hl 0 rfl) ?_
  refine lv_aload_n hx hb dX5_copyFrom_31 rfl (lv_at hl 1 rfl) ?_
  refine va_get (v := .int (σ 3 2)) (C := RX5) (T := TX5) (N := 3) hx hb hts hinX5 hown hK hW.1 3 rfl rfl 2 (by decide) hf18 (fun _ h9 => h9) rfl dX5_copyFrom_32 ?_
  refine q_putf (ty := .int) (wd' := wX5_X5 k a (u2 (u2 (u2 σ 1 (va_cpy (σ 4) (σ 1) 0 0 64)) 2 (va_cpy (σ 5) (σ 2) 0 0 64)) 0 (upd (σ 0) 2 (σ 3 2)))) C0 hW hinX5 tyX5 tyX5_ok nmX5 0 rfl rfl 2 (by decide) hf18 rfl (by decide +kernel) rfl rfl (Nat.le_of_ble_eq_true rfl) dX5_copyFrom_35 (fX5_s2 _ _ _) (wX5_X5_s0 k a _ _) (fun H locs hW => ?_)
  exact q_vret C0 hW hR dX5_copyFrom_38
set_option maxHeartbeats 400000 in
set_option maxRecDepth 100000 in
theorem m_X5_copyFrom (l : Launch) (D : va_G) (k : Nat → ClassId) (a : Nat → Nat) (sz : Nat) (σ : T2) (hs : S_X5_copyFrom σ) : Met l yX5_copyFrom wsX5_copyFrom { frames := 1, cells := 0, slots := 0, locals := 40 } (va_Pc [.ref (a 0), .ref (a 3)] (q_B D (tyL k) (wX5_X5 k a σ) sz)) (va_Qv (fun u => u = P_X5_copyFrom σ) (fun u => q_E D (tyL k) (va_A (wX5_X5 k a σ) sz) (wX5_X5 k a u)) (va_A (wX5_X5 k a σ) sz)) 0 0 (va_A (wX5_X5 k a σ) sz) := by
  refine q_met [.ref (a 0), .ref (a 3)] (wX5_X5 k a σ) sz (cc := cX5_copyFrom) (maxL := 2) (ret := none) (by decide) rfl (Nat.le_of_ble_eq_true rfl) ?_
  intro p e s m args below meth c ls hsz C0 hW hl hin
  subst hsz
  exact b_X5_copyFrom_b0 l D k a _ C0 _ σ  hs rfl s.heap [] ls hW (lv_sub hl [0, 1] rfl)
theorem hin_X5_copyWithout_X5 : ∀ w ∈ u_ws RX5 TX5 3, w ∈ wsX5_copyWithout := by decide +kernel
theorem hd_X5_copyWithout : yX5_copyWithout.cls = RX5 ∧ yX5_copyWithout.cls ≠ "java/lang/invoke/MethodHandle" ∧ yX5_copyWithout.cls ≠ "java/lang/invoke/VarHandle" ∧ (parseMethodDescriptor yX5_copyWithout.desc).map (fun d => d.parameters.length) = some 2 := by decide +kernel
noncomputable def P_X5_copyWithout_b34 (pk7 : T2 → Int32 → Int32 → T2) (σ : T2) (v2 : Int32) (v3 : Int32) : T2 := pk7 σ v2 (v3 + (1 : Int32))
def S_X5_copyWithout_b34 (sk7 : T2 → Int32 → Int32 → Prop) (σ : T2) (v2 : Int32) (v3 : Int32) : Prop := sk7 σ v2 (v3 + (1 : Int32))
theorem P_X5_copyWithout_b34_e (pk7 : T2 → Int32 → Int32 → T2) (σ : T2) (v2 : Int32) (v3 : Int32) : P_X5_copyWithout_b34 pk7 σ v2 v3 = pk7 σ v2 (v3 + (1 : Int32)) := rfl
theorem S_X5_copyWithout_b34_e (sk7 : T2 → Int32 → Int32 → Prop) (σ : T2) (v2 : Int32) (v3 : Int32) : S_X5_copyWithout_b34 sk7 σ v2 v3 = (sk7 σ v2 (v3 + (1 : Int32))) := rfl
noncomputable def P_X5_copyWithout_b7 (n : Nat) : T2 → Int32 → Int32 → T2 := Nat.rec (motive := fun _ => T2 → Int32 → Int32 → T2) (fun _ _ _ => (fun _ _ => 0)) (fun _ pk7 => fun σ v2 v3 => if (σ 3 2) ≤ v3 then (σ) else (if v3 = v2 then (P_X5_copyWithout_b34 pk7 σ v2 v3) else (P_X5_copyWithout_b34 pk7 (sb σ 0 3 (P_X5_append σ (P_X5_timeOf (fun j => σ (3 + j)) v3) (P_X5_numberOf (fun j => σ (3 + j)) v3))) v2 v3))) n
def S_X5_copyWithout_b7 (n : Nat) : T2 → Int32 → Int32 → Prop := Nat.rec (motive := fun _ => T2 → Int32 → Int32 → Prop) (fun _ _ _ => False) (fun _ sk7 => fun σ v2 v3 => ((σ 3 2) ≤ v3 → (True)) ∧ (¬ ((σ 3 2) ≤ v3) → ((v3 = v2 → (S_X5_copyWithout_b34 sk7 σ v2 v3)) ∧ (¬ (v3 = v2) → ((S_X5_timeOf (fun j => σ (3 + j)) v3) ∧ ((S_X5_numberOf (fun j => σ (3 + j)) v3) ∧ ((S_X5_append σ (P_X5_timeOf (fun j => σ (3 + j)) v3) (P_X5_numberOf (fun j => σ (3 + j)) v3)) ∧ (S_X5_copyWithout_b34 sk7 (sb σ 0 3 (P_X5_append σ (P_X5_timeOf (fun j => σ (3 + j)) v3) (P_X5_numberOf (fun j => σ (3 + j)) v3))) v2 v3)))))))) n
theorem P_X5_copyWithout_b7_e (n : Nat) (σ : T2) (v2 : Int32) (v3 : Int32) : P_X5_copyWithout_b7 (n + 1) σ v2 v3 = if (σ 3 2) ≤ v3 then (σ) else (if v3 = v2 then (P_X5_copyWithout_b34 (P_X5_copyWithout_b7 n) σ v2 v3) else (P_X5_copyWithout_b34 (P_X5_copyWithout_b7 n) (sb σ 0 3 (P_X5_append σ (P_X5_timeOf (fun j => σ (3 + j)) v3) (P_X5_numberOf (fun j => σ (3 + j)) v3))) v2 v3)) := rfl
theorem S_X5_copyWithout_b7_e (n : Nat) (σ : T2) (v2 : Int32) (v3 : Int32) : S_X5_copyWithout_b7 (n + 1) σ v2 v3 = (((σ 3 2) ≤ v3 → (True)) ∧ (¬ ((σ 3 2) ≤ v3) → ((v3 = v2 → (S_X5_copyWithout_b34 (S_X5_copyWithout_b7 n) σ v2 v3)) ∧ (¬ (v3 = v2) → ((S_X5_timeOf (fun j => σ (3 + j)) v3) ∧ ((S_X5_numberOf (fun j => σ (3 + j)) v3) ∧ ((S_X5_append σ (P_X5_timeOf (fun j => σ (3 + j)) v3) (P_X5_numberOf (fun j => σ (3 + j)) v3)) ∧ (S_X5_copyWithout_b34 (S_X5_copyWithout_b7 n) (sb σ 0 3 (P_X5_append σ (P_X5_timeOf (fun j => σ (3 + j)) v3) (P_X5_numberOf (fun j => σ (3 + j)) v3))) v2 v3)))))))) := rfl
noncomputable def P_X5_copyWithout_b0 (σ : T2) (v2 : Int32) : T2 := P_X5_copyWithout_b7 FU (u2 σ 0 (upd (σ 0) 2 (0 : Int32))) v2 (0 : Int32)
def S_X5_copyWithout_b0 (σ : T2) (v2 : Int32) : Prop := S_X5_copyWithout_b7 FU (u2 σ 0 (upd (σ 0) 2 (0 : Int32))) v2 (0 : Int32)
theorem P_X5_copyWithout_b0_e (σ : T2) (v2 : Int32) : P_X5_copyWithout_b0 σ v2 = P_X5_copyWithout_b7 FU (u2 σ 0 (upd (σ 0) 2 (0 : Int32))) v2 (0 : Int32) := rfl
theorem S_X5_copyWithout_b0_e (σ : T2) (v2 : Int32) : S_X5_copyWithout_b0 σ v2 = (S_X5_copyWithout_b7 FU (u2 σ 0 (upd (σ 0) 2 (0 : Int32))) v2 (0 : Int32)) := rfl
noncomputable def P_X5_copyWithout (σ : T2) (p1 : Int32) : T2 := P_X5_copyWithout_b0 σ p1
def S_X5_copyWithout (σ : T2) (p1 : Int32) : Prop := S_X5_copyWithout_b0 σ p1
set_option maxHeartbeats 400000 in
set_option maxRecDepth 100000 in
theorem b_X5_copyWithout_b34 {p : Program} {e : Env} {s : State} {m : MethodId} {args : Array Value} {below : List Frame} {meth : Method} {c : Code} (l : Launch) (D : va_G) (k : Nat → ClassId) (a : Nat → Nat) (A : Nat → Prop) (C0 : q_C p s m meth c args RX5 cX5_copyWithout 4 none wsX5_copyWithout D (tyL k) A) (R : T2) (pk7 : T2 → Int32 → Int32 → T2) (sk7 : T2 → Int32 → Int32 → Prop) (hk7 : ∀ (σ : T2) (v2 : Int32) (v3 : Int32), sk7 σ v2 v3 → pk7 σ v2 v3 = R → ∀ (H : Heap) (locs : List Loc) (ls : Array Slot), q_W D A s.heap (wX5_X5 k a σ) H locs → lv_has ls 4 [(0, .ref (a 0)), (1, .ref (a 3)), (2, .int v2), (3, .int v3)] → W p l e { frames := 2, cells := 0, slots := 0, locals := 42 } s m args below meth c H locs 0 0 (MQ below (va_Qv (fun u => u = R) (fun u => q_E D (tyL k) A (wX5_X5 k a u)) A) args s 0 0 A) (F0 m 7 ls [])) : ∀ (σ : T2) (v2 : Int32) (v3 : Int32), S_X5_copyWithout_b34 sk7 σ v2 v3 → P_X5_copyWithout_b34 pk7 σ v2 v3 = R → ∀ (H : Heap) (locs : List Loc) (ls : Array Slot), q_W D A s.heap (wX5_X5 k a σ) H locs → lv_has ls 4 [(0, .ref (a 0)), (1, .ref (a 3)), (2, .int v2), (3, .int v3)] → W p l e { frames := 2, cells := 0, slots := 0, locals := 42 } s m args below meth c H locs 0 0 (MQ below (va_Qv (fun u => u = R) (fun u => q_E D (tyL k) A (wX5_X5 k a u)) A) args s 0 0 A) (F0 m 34 ls []) := by
  intro σ v2 v3 hs hR H locs ls hW hl
  rw [P_X5_copyWithout_b34_e] at hR
  rw [S_X5_copyWithout_b34_e] at hs
  obtain ⟨hx, hb, hr, hml, hts, hown, hlocks, hK, hA⟩ := id C0
  refine lv_iinc (v := v3 + (1 : Int32)) (lv' := [(3, .int (v3 + (1 : Int32))), (0, .ref (a 0)), (1, .ref (a 3)), (2, .int v2)]) hx hb dX5_copyWithout_34 hl (k := 3) rfl rfl (by decide) rfl (fun ls hl => ?_)
  refine lv_goto (tgt := 7) hx hb dX5_copyWithout_37 (by decide) ?_
  exact hk7 σ v2 (v3 + (1 : Int32)) hs hR H locs ls hW (lv_sub hl [1, 2, 3, 0] rfl)
set_option maxHeartbeats 400000 in
set_option maxRecDepth 100000 in
theorem b_X5_copyWithout_b7 {p : Program} {e : Env} {s : State} {m : MethodId} {args : Array Value} {below : List Frame} {meth : Method} {c : Code} (l : Launch) (D : va_G) (k : Nat → ClassId) (a : Nat → Nat) (A : Nat → Prop) (C0 : q_C p s m meth c args RX5 cX5_copyWithout 4 none wsX5_copyWithout D (tyL k) A) (R : T2) : ∀ n : Nat, ∀ (σ : T2) (v2 : Int32) (v3 : Int32), S_X5_copyWithout_b7 n σ v2 v3 → P_X5_copyWithout_b7 n σ v2 v3 = R → ∀ (H : Heap) (locs : List Loc) (ls : Array Slot), q_W D A s.heap (wX5_X5 k a σ) H locs → lv_has ls 4 [(0, .ref (a 0)), (1, .ref (a 3)), (2, .int v2), (3, .int v3)] → W p l e { frames := 2, cells := 0, slots := 0, locals := 42 } s m args below meth c H locs 0 0 (MQ below (va_Qv (fun u => u = R) (fun u => q_E D (tyL k) A (wX5_X5 k a u)) A) args s 0 0 A) (F0 m 7 ls []) := by
  intro n
  induction n with
  | zero => intro σ v2 v3 hs; exact False.elim hs
  | succ n ih =>
    intro σ v2 v3 hs hR H locs ls hW hl
    rw [P_X5_copyWithout_b7_e] at hR
    rw [S_X5_copyWithout_b7_e] at hs
    obtain ⟨hx, hb, hr, hml, hts, hown, hlocks, hK, hA⟩ := id C0
    have hf18 := hts (.fieldLink RX5 18 "BeatFollower$Plan" "many" "I") (by decide +kernel)
    have hinX5 : ∀ w ∈ u_ws RX5 TX5 3, w ∈ wsX5_copyWithout := hin_X5_copyWithout_X5
    refine lv_iload_n hx hb dX5_copyWithout_7 rfl (lv_at hl 3 rfl) ?_
    refine lv_aload_n hx hb dX5_copyWithout_8 rfl (lv_at hl 1 rfl) ?_
    refine va_get (v := .int (σ 3 2)) (C := RX5) (T := TX5) (N := 3) hx hb hts hinX5 hown hK hW.1 3 rfl rfl 2 (by decide) hf18 (fun _ h9 => h9) rfl dX5_copyWithout_9 ?_
    refine lv_icmp_ge (tgt := 40) hx hb dX5_copyWithout_12 (by decide) (fun c_1 => ?_) (fun c_1 => ?_)
    · have hs := hs.1 c_1
      rw [if_pos c_1] at hR
      exact q_vret C0 hW hR dX5_copyWithout_40
    · have hs := hs.2 c_1
      rw [if_neg c_1] at hR
      refine lv_iload_n hx hb dX5_copyWithout_15 rfl (lv_at hl 3 rfl) ?_
      refine lv_iload_n hx hb dX5_copyWithout_16 rfl (lv_at hl 2 rfl) ?_
      refine lv_icmp_eq (tgt := 34) hx hb dX5_copyWithout_17 (by decide) (fun c_2 => ?_) (fun c_2 => ?_)
      · have hs := hs.1 c_2
        rw [if_pos c_2] at hR
        exact b_X5_copyWithout_b34 l D k a A C0 R _ _ ih σ v2 v3 hs hR H locs ls hW (lv_sub hl [0, 1, 2, 3] rfl)
      · have hs := hs.2 c_2
        rw [if_neg c_2] at hR
        refine lv_aload_n hx hb dX5_copyWithout_20 rfl (lv_at hl 0 rfl) ?_
        refine lv_aload_n hx hb dX5_copyWithout_21 rfl (lv_at hl 1 rfl) ?_
        refine lv_iload_n hx hb dX5_copyWithout_22 rfl (lv_at hl 3 rfl) ?_
        have hs3 := hs.1
        have hs := hs.2
        refine q_Vi (As := [.int v3]) (rest := [.ref (a 0)]) (R := P_X5_timeOf (fun j => σ (3 + j)) v3) [3, 4, 5] [0, 1, 2, 3] 3 5 C0 hW (m_X5_timeOf l D k (fun j => a (3 + j)) _ (fun j => σ (3 + j)) v3 hs3) (cwV 1 hts gX5_copyWithout_X5_timeOf rfl rfl rfl hd_X5_timeOf ⟨Nat.le_of_ble_eq_true rfl, Nat.le_of_ble_eq_true rfl⟩) (by decide) (wX5_X5_X5_3_pl k a _) rfl rfl rfl hl rfl rfl (Nat.le_of_ble_eq_true rfl) dX5_copyWithout_23 ⟨Nat.le_refl 0, Nat.le_refl 0⟩ ?_
        refine lv_aload_n hx hb dX5_copyWithout_26 rfl (lv_at hl 1 rfl) ?_
        refine lv_iload_n hx hb dX5_copyWithout_27 rfl (lv_at hl 3 rfl) ?_
        have hs4 := hs.1
        have hs := hs.2
        refine q_Vi (As := [.int v3]) (rest := [.int (P_X5_timeOf (fun j => σ (3 + j)) v3), .ref (a 0)]) (R := P_X5_numberOf (fun j => σ (3 + j)) v3) [3, 4, 5] [0, 1, 2, 3] 3 5 C0 hW (m_X5_numberOf l D k (fun j => a (3 + j)) _ (fun j => σ (3 + j)) v3 hs4) (cwV 1 hts gX5_copyWithout_X5_numberOf rfl rfl rfl hd_X5_numberOf ⟨Nat.le_of_ble_eq_true rfl, Nat.le_of_ble_eq_true rfl⟩) (by decide) (wX5_X5_X5_3_pl k a _) rfl rfl rfl hl rfl rfl (Nat.le_of_ble_eq_true rfl) dX5_copyWithout_28 ⟨Nat.le_refl 0, Nat.le_refl 0⟩ ?_
        have hs5 := hs.1
        have hs := hs.2
        refine q_Vv (As := [.int (P_X5_timeOf (fun j => σ (3 + j)) v3), .int (P_X5_numberOf (fun j => σ (3 + j)) v3)]) (rest := []) (wf := wX5 k a) (R := P_X5_append σ (P_X5_timeOf (fun j => σ (3 + j)) v3) (P_X5_numberOf (fun j => σ (3 + j)) v3)) (wd' := wX5_X5 k a (sb σ 0 3 (P_X5_append σ (P_X5_timeOf (fun j => σ (3 + j)) v3) (P_X5_numberOf (fun j => σ (3 + j)) v3)))) [0, 1, 2] [0, 1, 2, 3] 0 5 C0 hW (m_X5_append l D k a H.size σ (P_X5_timeOf (fun j => σ (3 + j)) v3) (P_X5_numberOf (fun j => σ (3 + j)) v3) hs5) (cwV 2 hts gX5_copyWithout_X5_append rfl rfl rfl hd_X5_append ⟨Nat.le_of_ble_eq_true rfl, Nat.le_of_ble_eq_true rfl⟩) (by decide) (wX5_X5_X5_0_pl k a _) rfl rfl rfl (wX5_fst k _ _ _) (wX5_X5_X5_0_pt k a _ _) hl rfl rfl (Nat.le_of_ble_eq_true rfl) dX5_copyWithout_31 ⟨Nat.le_refl 0, Nat.le_refl 0⟩ (fun H locs hW => ?_)
        exact b_X5_copyWithout_b34 l D k a A C0 R _ _ ih (sb σ 0 3 (P_X5_append σ (P_X5_timeOf (fun j => σ (3 + j)) v3) (P_X5_numberOf (fun j => σ (3 + j)) v3))) v2 v3 hs hR H locs ls hW (lv_sub hl [0, 1, 2, 3] rfl)
set_option maxHeartbeats 400000 in
set_option maxRecDepth 100000 in
theorem b_X5_copyWithout_b0 {p : Program} {e : Env} {s : State} {m : MethodId} {args : Array Value} {below : List Frame} {meth : Method} {c : Code} (l : Launch) (D : va_G) (k : Nat → ClassId) (a : Nat → Nat) (A : Nat → Prop) (C0 : q_C p s m meth c args RX5 cX5_copyWithout 4 none wsX5_copyWithout D (tyL k) A) (R : T2) : ∀ (σ : T2) (v2 : Int32), S_X5_copyWithout_b0 σ v2 → P_X5_copyWithout_b0 σ v2 = R → ∀ (H : Heap) (locs : List Loc) (ls : Array Slot), q_W D A s.heap (wX5_X5 k a σ) H locs → lv_has ls 4 [(0, .ref (a 0)), (1, .ref (a 3)), (2, .int v2)] → W p l e { frames := 2, cells := 0, slots := 0, locals := 42 } s m args below meth c H locs 0 0 (MQ below (va_Qv (fun u => u = R) (fun u => q_E D (tyL k) A (wX5_X5 k a u)) A) args s 0 0 A) (F0 m 0 ls []) := by
  intro σ v2 hs hR H locs ls hW hl
  rw [P_X5_copyWithout_b0_e] at hR
  rw [S_X5_copyWithout_b0_e] at hs
  obtain ⟨hx, hb, hr, hml, hts, hown, hlocks, hK, hA⟩ := id C0
  have hf18 := hts (.fieldLink RX5 18 "BeatFollower$Plan" "many" "I") (by decide +kernel)
  have hinX5 : ∀ w ∈ u_ws RX5 TX5 3, w ∈ wsX5_copyWithout := hin_X5_copyWithout_X5
  refine lv_aload_n hx hb dX5_copyWithout_0 rfl (lv_at hl 0 rfl) ?_
  refine lv_iconst (v := (0 : Int32)) hx hb dX5_copyWithout_1 (by decide) ?_
  refine q_putf (ty := .int) (wd' := wX5_X5 k a (u2 σ 0 (upd (σ 0) 2 (0 : Int32)))) C0 hW hinX5 tyX5 tyX5_ok nmX5 0 rfl rfl 2 (by decide) hf18 rfl (by decide +kernel) rfl rfl (Nat.le_of_ble_eq_true rfl) dX5_copyWithout_2 (fX5_s2 _ _ _) (wX5_X5_s0 k a _ _) (fun H locs hW => ?_)
  refine lv_iconst (v := (0 : Int32)) hx hb dX5_copyWithout_5 (by decide) ?_
  refine lv_istore_n (lv' := [(3, .int (0 : Int32)), (0, .ref (a 0)), (1, .ref (a 3)), (2, .int v2)]) hx hb dX5_copyWithout_6 rfl hl (by decide) rfl (fun ls hl => ?_)
  exact b_X5_copyWithout_b7 l D k a A C0 R FU (u2 σ 0 (upd (σ 0) 2 (0 : Int32))) v2 (0 : Int32) hs hR H locs ls hW (lv_sub hl [1, 2, 3, 0] rfl)
set_option maxHeartbeats 400000 in
set_option maxRecDepth 100000 in
theorem m_X5_copyWithout (l : Launch) (D : va_G) (k : Nat → ClassId) (a : Nat → Nat) (sz : Nat) (σ : T2) (p1 : Int32) (hs : S_X5_copyWithout σ p1) : Met l yX5_copyWithout wsX5_copyWithout { frames := 2, cells := 0, slots := 0, locals := 42 } (va_Pc [.ref (a 0), .ref (a 3), .int p1] (q_B D (tyL k) (wX5_X5 k a σ) sz)) (va_Qv (fun u => u = P_X5_copyWithout σ p1) (fun u => q_E D (tyL k) (va_A (wX5_X5 k a σ) sz) (wX5_X5 k a u)) (va_A (wX5_X5 k a σ) sz)) 0 0 (va_A (wX5_X5 k a σ) sz) := by
  refine q_met [.ref (a 0), .ref (a 3), .int p1] (wX5_X5 k a σ) sz (cc := cX5_copyWithout) (maxL := 4) (ret := none) (by decide) rfl (Nat.le_of_ble_eq_true rfl) ?_
  intro p e s m args below meth c ls hsz C0 hW hl hin
  subst hsz
  exact b_X5_copyWithout_b0 l D k a _ C0 _ σ p1 hs rfl s.heap [] ls hW (lv_sub hl [0, 1, 2] rfl)
theorem hin_X5_appendAll_X6 : ∀ w ∈ u_ws RX6 TX6 7, w ∈ wsX5_appendAll := by decide +kernel
theorem hd_X5_appendAll : yX5_appendAll.cls = RX5 ∧ yX5_appendAll.cls ≠ "java/lang/invoke/MethodHandle" ∧ yX5_appendAll.cls ≠ "java/lang/invoke/VarHandle" ∧ (parseMethodDescriptor yX5_appendAll.desc).map (fun d => d.parameters.length) = some 1 := by decide +kernel
noncomputable def P_X5_appendAll_b65c (pk13 : T2 → Int32 → Int32 × T2) (σ : T2) (v2 : Int32) : Int32 × T2 := pk13 σ (v2 + (1 : Int32))
def S_X5_appendAll_b65c (sk13 : T2 → Int32 → Prop) (σ : T2) (v2 : Int32) : Prop := sk13 σ (v2 + (1 : Int32))
theorem P_X5_appendAll_b65c_e (pk13 : T2 → Int32 → Int32 × T2) (σ : T2) (v2 : Int32) : P_X5_appendAll_b65c pk13 σ v2 = pk13 σ (v2 + (1 : Int32)) := rfl
theorem S_X5_appendAll_b65c_e (sk13 : T2 → Int32 → Prop) (σ : T2) (v2 : Int32) : S_X5_appendAll_b65c sk13 σ v2 = (sk13 σ (v2 + (1 : Int32))) := rfl
noncomputable def P_X5_appendAll_b46n (pk13 : T2 → Int32 → Int32 × T2) (σ : T2) (v2 : Int32) (v3 : Int32) (v4 : Int32) : Int32 × T2 := if (P_X5_canHold σ v3 v4) = 0 then (((0 : Int32), σ)) else (P_X5_appendAll_b65c pk13 (sb σ 0 3 (P_X5_append σ v3 v4)) v2)
def S_X5_appendAll_b46n (sk13 : T2 → Int32 → Prop) (σ : T2) (v2 : Int32) (v3 : Int32) (v4 : Int32) : Prop := (S_X5_canHold σ v3 v4) ∧ (((P_X5_canHold σ v3 v4) = 0 → (True)) ∧ (¬ ((P_X5_canHold σ v3 v4) = 0) → ((S_X5_append σ v3 v4) ∧ (S_X5_appendAll_b65c sk13 (sb σ 0 3 (P_X5_append σ v3 v4)) v2))))
theorem P_X5_appendAll_b46n_e (pk13 : T2 → Int32 → Int32 × T2) (σ : T2) (v2 : Int32) (v3 : Int32) (v4 : Int32) : P_X5_appendAll_b46n pk13 σ v2 v3 v4 = if (P_X5_canHold σ v3 v4) = 0 then (((0 : Int32), σ)) else (P_X5_appendAll_b65c pk13 (sb σ 0 3 (P_X5_append σ v3 v4)) v2) := rfl
theorem S_X5_appendAll_b46n_e (sk13 : T2 → Int32 → Prop) (σ : T2) (v2 : Int32) (v3 : Int32) (v4 : Int32) : S_X5_appendAll_b46n sk13 σ v2 v3 v4 = ((S_X5_canHold σ v3 v4) ∧ (((P_X5_canHold σ v3 v4) = 0 → (True)) ∧ (¬ ((P_X5_canHold σ v3 v4) = 0) → ((S_X5_append σ v3 v4) ∧ (S_X5_appendAll_b65c sk13 (sb σ 0 3 (P_X5_append σ v3 v4)) v2))))) := rfl
noncomputable def P_X5_appendAll_b33n (pk13 : T2 → Int32 → Int32 × T2) (σ : T2) (v2 : Int32) (v3 : Int32) : Int32 × T2 := P_X5_appendAll_b46n pk13 σ v2 v3 ((P_X5_nextNumber σ) + (σ 5 v2.toNatClampNeg))
def S_X5_appendAll_b33n (sk13 : T2 → Int32 → Prop) (σ : T2) (v2 : Int32) (v3 : Int32) : Prop := (S_X5_nextNumber σ ) ∧ ((vp_in v2 64) ∧ (S_X5_appendAll_b46n sk13 σ v2 v3 ((P_X5_nextNumber σ) + (σ 5 v2.toNatClampNeg))))
theorem P_X5_appendAll_b33n_e (pk13 : T2 → Int32 → Int32 × T2) (σ : T2) (v2 : Int32) (v3 : Int32) : P_X5_appendAll_b33n pk13 σ v2 v3 = P_X5_appendAll_b46n pk13 σ v2 v3 ((P_X5_nextNumber σ) + (σ 5 v2.toNatClampNeg)) := rfl
theorem S_X5_appendAll_b33n_e (sk13 : T2 → Int32 → Prop) (σ : T2) (v2 : Int32) (v3 : Int32) : S_X5_appendAll_b33n sk13 σ v2 v3 = ((S_X5_nextNumber σ ) ∧ ((vp_in v2 64) ∧ (S_X5_appendAll_b46n sk13 σ v2 v3 ((P_X5_nextNumber σ) + (σ 5 v2.toNatClampNeg))))) := rfl
noncomputable def P_X5_appendAll_b13 (n : Nat) : T2 → Int32 → Int32 × T2 := Nat.rec (motive := fun _ => T2 → Int32 → Int32 × T2) (fun _ _ => (0, fun _ _ => 0)) (fun _ pk13 => fun σ v2 => if (σ 3 2) ≤ v2 then (((1 : Int32), σ)) else (P_X5_appendAll_b33n pk13 σ v2 ((P_X5_lastTime σ) + (σ 4 v2.toNatClampNeg)))) n
def S_X5_appendAll_b13 (n : Nat) : T2 → Int32 → Prop := Nat.rec (motive := fun _ => T2 → Int32 → Prop) (fun _ _ => False) (fun _ sk13 => fun σ v2 => ((σ 3 2) ≤ v2 → (True)) ∧ (¬ ((σ 3 2) ≤ v2) → ((S_X5_lastTime σ ) ∧ ((vp_in v2 64) ∧ (S_X5_appendAll_b33n sk13 σ v2 ((P_X5_lastTime σ) + (σ 4 v2.toNatClampNeg))))))) n
theorem P_X5_appendAll_b13_e (n : Nat) (σ : T2) (v2 : Int32) : P_X5_appendAll_b13 (n + 1) σ v2 = if (σ 3 2) ≤ v2 then (((1 : Int32), σ)) else (P_X5_appendAll_b33n (P_X5_appendAll_b13 n) σ v2 ((P_X5_lastTime σ) + (σ 4 v2.toNatClampNeg))) := rfl
theorem S_X5_appendAll_b13_e (n : Nat) (σ : T2) (v2 : Int32) : S_X5_appendAll_b13 (n + 1) σ v2 = (((σ 3 2) ≤ v2 → (True)) ∧ (¬ ((σ 3 2) ≤ v2) → ((S_X5_lastTime σ ) ∧ ((vp_in v2 64) ∧ (S_X5_appendAll_b33n (S_X5_appendAll_b13 n) σ v2 ((P_X5_lastTime σ) + (σ 4 v2.toNatClampNeg))))))) := rfl
noncomputable def P_X5_appendAll_b0 (σ : T2) : Int32 × T2 := if (σ 3 2) ≤ (64 : Int32) then (P_X5_appendAll_b13 FU σ (0 : Int32)) else (((0 : Int32), σ))
def S_X5_appendAll_b0 (σ : T2) : Prop := ((σ 3 2) ≤ (64 : Int32) → (S_X5_appendAll_b13 FU σ (0 : Int32))) ∧ (¬ ((σ 3 2) ≤ (64 : Int32)) → (True))
theorem P_X5_appendAll_b0_e (σ : T2) : P_X5_appendAll_b0 σ = if (σ 3 2) ≤ (64 : Int32) then (P_X5_appendAll_b13 FU σ (0 : Int32)) else (((0 : Int32), σ)) := rfl
theorem S_X5_appendAll_b0_e (σ : T2) : S_X5_appendAll_b0 σ = (((σ 3 2) ≤ (64 : Int32) → (S_X5_appendAll_b13 FU σ (0 : Int32))) ∧ (¬ ((σ 3 2) ≤ (64 : Int32)) → (True))) := rfl
noncomputable def P_X5_appendAll (σ : T2) : Int32 × T2 := P_X5_appendAll_b0 σ
def S_X5_appendAll (σ : T2) : Prop := S_X5_appendAll_b0 σ
set_option maxHeartbeats 400000 in
set_option maxRecDepth 100000 in
theorem b_X5_appendAll_b65c {p : Program} {e : Env} {s : State} {m : MethodId} {args : Array Value} {below : List Frame} {meth : Method} {c : Code} (l : Launch) (D : va_G) (k : Nat → ClassId) (a : Nat → Nat) (A : Nat → Prop) (C0 : q_C p s m meth c args RX5 cX5_appendAll 5 (some .boolean) wsX5_appendAll D (tyL k) A) (R : Int32 × T2) (pk13 : T2 → Int32 → Int32 × T2) (sk13 : T2 → Int32 → Prop) (hk13 : ∀ (σ : T2) (v2 : Int32), sk13 σ v2 → pk13 σ v2 = R → ∀ (H : Heap) (locs : List Loc) (ls : Array Slot), q_W D A s.heap (wX5_X6 k a σ) H locs → lv_has ls 5 [(0, .ref (a 0)), (1, .ref (a 3)), (2, .int v2)] → W p l e { frames := 3, cells := 0, slots := 0, locals := 62 } s m args below meth c H locs 0 0 (MQ below (va_Qi (fun r u => (r, u) = R) (fun u => q_E D (tyL k) A (wX5_X6 k a u)) A) args s 0 0 A) (F0 m 13 ls [])) : ∀ (σ : T2) (v2 : Int32), S_X5_appendAll_b65c sk13 σ v2 → P_X5_appendAll_b65c pk13 σ v2 = R → ∀ (H : Heap) (locs : List Loc) (ls : Array Slot), q_W D A s.heap (wX5_X6 k a σ) H locs → lv_has ls 5 [(0, .ref (a 0)), (1, .ref (a 3)), (2, .int v2)] → W p l e { frames := 3, cells := 0, slots := 0, locals := 62 } s m args below meth c H locs 0 0 (MQ below (va_Qi (fun r u => (r, u) = R) (fun u => q_E D (tyL k) A (wX5_X6 k a u)) A) args s 0 0 A) (F0 m 65 ls []) := by
  intro σ v2 hs hR H locs ls hW hl
  rw [P_X5_appendAll_b65c_e] at hR
  rw [S_X5_appendAll_b65c_e] at hs
  obtain ⟨hx, hb, hr, hml, hts, hown, hlocks, hK, hA⟩ := id C0
  refine lv_iinc (v := v2 + (1 : Int32)) (lv' := [(2, .int (v2 + (1 : Int32))), (0, .ref (a 0)), (1, .ref (a 3))]) hx hb dX5_appendAll_65 hl (k := 2) rfl rfl (by decide) rfl (fun ls hl => ?_)
  refine lv_goto (tgt := 13) hx hb dX5_appendAll_68 (by decide) ?_
  exact hk13 σ (v2 + (1 : Int32)) hs hR H locs ls hW (lv_sub hl [1, 2, 0] rfl)
set_option maxHeartbeats 400000 in
set_option maxRecDepth 100000 in
theorem b_X5_appendAll_b46n {p : Program} {e : Env} {s : State} {m : MethodId} {args : Array Value} {below : List Frame} {meth : Method} {c : Code} (l : Launch) (D : va_G) (k : Nat → ClassId) (a : Nat → Nat) (A : Nat → Prop) (C0 : q_C p s m meth c args RX5 cX5_appendAll 5 (some .boolean) wsX5_appendAll D (tyL k) A) (R : Int32 × T2) (pk13 : T2 → Int32 → Int32 × T2) (sk13 : T2 → Int32 → Prop) (hk13 : ∀ (σ : T2) (v2 : Int32), sk13 σ v2 → pk13 σ v2 = R → ∀ (H : Heap) (locs : List Loc) (ls : Array Slot), q_W D A s.heap (wX5_X6 k a σ) H locs → lv_has ls 5 [(0, .ref (a 0)), (1, .ref (a 3)), (2, .int v2)] → W p l e { frames := 3, cells := 0, slots := 0, locals := 62 } s m args below meth c H locs 0 0 (MQ below (va_Qi (fun r u => (r, u) = R) (fun u => q_E D (tyL k) A (wX5_X6 k a u)) A) args s 0 0 A) (F0 m 13 ls [])) : ∀ (σ : T2) (v2 : Int32) (v3 : Int32) (v4 : Int32), S_X5_appendAll_b46n sk13 σ v2 v3 v4 → P_X5_appendAll_b46n pk13 σ v2 v3 v4 = R → ∀ (H : Heap) (locs : List Loc) (ls : Array Slot), q_W D A s.heap (wX5_X6 k a σ) H locs → lv_has ls 5 [(0, .ref (a 0)), (1, .ref (a 3)), (2, .int v2), (3, .int v3), (4, .int v4)] → W p l e { frames := 3, cells := 0, slots := 0, locals := 62 } s m args below meth c H locs 0 0 (MQ below (va_Qi (fun r u => (r, u) = R) (fun u => q_E D (tyL k) A (wX5_X6 k a u)) A) args s 0 0 A) (F0 m 46 ls []) := by
  intro σ v2 v3 v4 hs hR H locs ls hW hl
  rw [P_X5_appendAll_b46n_e] at hR
  rw [S_X5_appendAll_b46n_e] at hs
  obtain ⟨hx, hb, hr, hml, hts, hown, hlocks, hK, hA⟩ := id C0
  refine lv_aload_n hx hb dX5_appendAll_46 rfl (lv_at hl 0 rfl) ?_
  refine lv_iload_n hx hb dX5_appendAll_47 rfl (lv_at hl 3 rfl) ?_
  refine lv_iload hx hb dX5_appendAll_48 (lv_at hl 4 rfl) ?_
  have hs7 := hs.1
  have hs := hs.2
  refine q_Vi (As := [.int v3, .int v4]) (rest := []) (R := P_X5_canHold σ v3 v4) [0, 1, 2] [0, 1, 2, 3] 0 5 C0 hW (m_X5_canHold l D k a _ σ v3 v4 hs7) (cwV 2 hts gX5_appendAll_X5_canHold rfl rfl rfl hd_X5_canHold ⟨Nat.le_of_ble_eq_true rfl, Nat.le_of_ble_eq_true rfl⟩) (by decide) (wX5_X6_X5_0_pl k a _) rfl rfl rfl hl rfl rfl (Nat.le_of_ble_eq_true rfl) dX5_appendAll_50 ⟨Nat.le_refl 0, Nat.le_refl 0⟩ ?_
  refine lv_if_ne (tgt := 58) hx hb dX5_appendAll_53 (by decide) (fun c_8 => ?_) (fun c_8 => ?_)
  · have hs := hs.2 c_8
    rw [if_neg c_8] at hR
    refine lv_aload_n hx hb dX5_appendAll_58 rfl (lv_at hl 0 rfl) ?_
    refine lv_iload_n hx hb dX5_appendAll_59 rfl (lv_at hl 3 rfl) ?_
    refine lv_iload hx hb dX5_appendAll_60 (lv_at hl 4 rfl) ?_
    have hs9 := hs.1
    have hs := hs.2
    refine q_Vv (As := [.int v3, .int v4]) (rest := []) (wf := wX5 k a) (R := P_X5_append σ v3 v4) (wd' := wX5_X6 k a (sb σ 0 3 (P_X5_append σ v3 v4))) [0, 1, 2] [0, 1, 2, 3] 0 5 C0 hW (m_X5_append l D k a H.size σ v3 v4 hs9) (cwV 2 hts gX5_appendAll_X5_append rfl rfl rfl hd_X5_append ⟨Nat.le_of_ble_eq_true rfl, Nat.le_of_ble_eq_true rfl⟩) (by decide) (wX5_X6_X5_0_pl k a _) rfl rfl rfl (wX5_fst k _ _ _) (wX5_X6_X5_0_pt k a _ _) hl rfl rfl (Nat.le_of_ble_eq_true rfl) dX5_appendAll_62 ⟨Nat.le_refl 0, Nat.le_refl 0⟩ (fun H locs hW => ?_)
    exact b_X5_appendAll_b65c l D k a A C0 R pk13 sk13 hk13 (sb σ 0 3 (P_X5_append σ v3 v4)) v2 hs hR H locs ls hW (lv_sub hl [0, 1, 2] rfl)
  · have hs := hs.1 c_8
    rw [if_pos c_8] at hR
    refine lv_iconst (v := (0 : Int32)) hx hb dX5_appendAll_56 (by decide) ?_
    exact q_zret C0 (by decide) hW hR dX5_appendAll_57
set_option maxHeartbeats 400000 in
set_option maxRecDepth 100000 in
theorem b_X5_appendAll_b33n {p : Program} {e : Env} {s : State} {m : MethodId} {args : Array Value} {below : List Frame} {meth : Method} {c : Code} (l : Launch) (D : va_G) (k : Nat → ClassId) (a : Nat → Nat) (A : Nat → Prop) (C0 : q_C p s m meth c args RX5 cX5_appendAll 5 (some .boolean) wsX5_appendAll D (tyL k) A) (R : Int32 × T2) (pk13 : T2 → Int32 → Int32 × T2) (sk13 : T2 → Int32 → Prop) (hk13 : ∀ (σ : T2) (v2 : Int32), sk13 σ v2 → pk13 σ v2 = R → ∀ (H : Heap) (locs : List Loc) (ls : Array Slot), q_W D A s.heap (wX5_X6 k a σ) H locs → lv_has ls 5 [(0, .ref (a 0)), (1, .ref (a 3)), (2, .int v2)] → W p l e { frames := 3, cells := 0, slots := 0, locals := 62 } s m args below meth c H locs 0 0 (MQ below (va_Qi (fun r u => (r, u) = R) (fun u => q_E D (tyL k) A (wX5_X6 k a u)) A) args s 0 0 A) (F0 m 13 ls [])) : ∀ (σ : T2) (v2 : Int32) (v3 : Int32), S_X5_appendAll_b33n sk13 σ v2 v3 → P_X5_appendAll_b33n pk13 σ v2 v3 = R → ∀ (H : Heap) (locs : List Loc) (ls : Array Slot), q_W D A s.heap (wX5_X6 k a σ) H locs → lv_has ls 5 [(0, .ref (a 0)), (1, .ref (a 3)), (2, .int v2), (3, .int v3)] → W p l e { frames := 3, cells := 0, slots := 0, locals := 62 } s m args below meth c H locs 0 0 (MQ below (va_Qi (fun r u => (r, u) = R) (fun u => q_E D (tyL k) A (wX5_X6 k a u)) A) args s 0 0 A) (F0 m 33 ls []) := by
  intro σ v2 v3 hs hR H locs ls hW hl
  rw [P_X5_appendAll_b33n_e] at hR
  rw [S_X5_appendAll_b33n_e] at hs
  obtain ⟨hx, hb, hr, hml, hts, hown, hlocks, hK, hA⟩ := id C0
  have hf47 := hts (.fieldLink RX5 47 "BeatFollower$Reader" "misses" "[I") (by decide +kernel)
  have hinX6 : ∀ w ∈ u_ws RX6 TX6 7, w ∈ wsX5_appendAll := hin_X5_appendAll_X6
  refine lv_aload_n hx hb dX5_appendAll_33 rfl (lv_at hl 0 rfl) ?_
  have hs5 := hs.1
  have hs := hs.2
  refine q_Vi (As := []) (rest := []) (R := P_X5_nextNumber σ) [0, 1, 2] [0, 1, 2, 3] 0 5 C0 hW (m_X5_nextNumber l D k a _ σ  hs5) (cwV 0 hts gX5_appendAll_X5_nextNumber rfl rfl rfl hd_X5_nextNumber ⟨Nat.le_of_ble_eq_true rfl, Nat.le_of_ble_eq_true rfl⟩) (by decide) (wX5_X6_X5_0_pl k a _) rfl rfl rfl hl rfl rfl (Nat.le_of_ble_eq_true rfl) dX5_appendAll_34 ⟨Nat.le_refl 0, Nat.le_refl 0⟩ ?_
  refine lv_aload_n hx hb dX5_appendAll_37 rfl (lv_at hl 1 rfl) ?_
  refine va_get (v := .ref (a 5)) (C := RX6) (T := TX6) (N := 7) hx hb hts hinX6 hown hK hW.1 3 rfl rfl 1 (by decide) hf47 (fun _ h9 => h9) rfl dX5_appendAll_38 ?_
  refine lv_iload_n hx hb dX5_appendAll_41 rfl (lv_at hl 2 rfl) ?_
  have hi6 := hs.1
  have hs := hs.2
  refine q_iald (v := σ 5 v2.toNatClampNeg) C0 hW 5 rfl rfl hi6 rfl rfl dX5_appendAll_42 ?_
  refine lv_iadd hx hb dX5_appendAll_43 ?_
  refine lv_istore (lv' := [(4, .int ((P_X5_nextNumber σ) + (σ 5 v2.toNatClampNeg))), (0, .ref (a 0)), (1, .ref (a 3)), (2, .int v2), (3, .int v3)]) hx hb dX5_appendAll_44 hl (by decide) rfl (fun ls hl => ?_)
  exact b_X5_appendAll_b46n l D k a A C0 R pk13 sk13 hk13 σ v2 v3 ((P_X5_nextNumber σ) + (σ 5 v2.toNatClampNeg)) hs hR H locs ls hW (lv_sub hl [1, 2, 3, 4, 0] rfl)
set_option maxHeartbeats 400000 in
set_option maxRecDepth 100000 in
theorem b_X5_appendAll_b13 {p : Program} {e : Env} {s : State} {m : MethodId} {args : Array Value} {below : List Frame} {meth : Method} {c : Code} (l : Launch) (D : va_G) (k : Nat → ClassId) (a : Nat → Nat) (A : Nat → Prop) (C0 : q_C p s m meth c args RX5 cX5_appendAll 5 (some .boolean) wsX5_appendAll D (tyL k) A) (R : Int32 × T2) : ∀ n : Nat, ∀ (σ : T2) (v2 : Int32), S_X5_appendAll_b13 n σ v2 → P_X5_appendAll_b13 n σ v2 = R → ∀ (H : Heap) (locs : List Loc) (ls : Array Slot), q_W D A s.heap (wX5_X6 k a σ) H locs → lv_has ls 5 [(0, .ref (a 0)), (1, .ref (a 3)), (2, .int v2)] → W p l e { frames := 3, cells := 0, slots := 0, locals := 62 } s m args below meth c H locs 0 0 (MQ below (va_Qi (fun r u => (r, u) = R) (fun u => q_E D (tyL k) A (wX5_X6 k a u)) A) args s 0 0 A) (F0 m 13 ls []) := by
  intro n
  induction n with
  | zero => intro σ v2 hs; exact False.elim hs
  | succ n ih =>
    intro σ v2 hs hR H locs ls hW hl
    rw [P_X5_appendAll_b13_e] at hR
    rw [S_X5_appendAll_b13_e] at hs
    obtain ⟨hx, hb, hr, hml, hts, hown, hlocks, hK, hA⟩ := id C0
    have hf34 := hts (.fieldLink RX5 34 "BeatFollower$Reader" "many" "I") (by decide +kernel)
    have hf41 := hts (.fieldLink RX5 41 "BeatFollower$Reader" "gaps" "[I") (by decide +kernel)
    have hinX6 : ∀ w ∈ u_ws RX6 TX6 7, w ∈ wsX5_appendAll := hin_X5_appendAll_X6
    refine lv_iload_n hx hb dX5_appendAll_13 rfl (lv_at hl 2 rfl) ?_
    refine lv_aload_n hx hb dX5_appendAll_14 rfl (lv_at hl 1 rfl) ?_
    refine va_get (v := .int (σ 3 2)) (C := RX6) (T := TX6) (N := 7) hx hb hts hinX6 hown hK hW.1 3 rfl rfl 2 (by decide) hf34 (fun _ h9 => h9) rfl dX5_appendAll_15 ?_
    refine lv_icmp_ge (tgt := 71) hx hb dX5_appendAll_18 (by decide) (fun c_2 => ?_) (fun c_2 => ?_)
    · have hs := hs.1 c_2
      rw [if_pos c_2] at hR
      refine lv_iconst (v := (1 : Int32)) hx hb dX5_appendAll_71 (by decide) ?_
      exact q_zret C0 (by decide) hW hR dX5_appendAll_72
    · have hs := hs.2 c_2
      rw [if_neg c_2] at hR
      refine lv_aload_n hx hb dX5_appendAll_21 rfl (lv_at hl 0 rfl) ?_
      have hs3 := hs.1
      have hs := hs.2
      refine q_Vi (As := []) (rest := []) (R := P_X5_lastTime σ) [0, 1, 2] [0, 1, 2, 3] 0 5 C0 hW (m_X5_lastTime l D k a _ σ  hs3) (cwV 0 hts gX5_appendAll_X5_lastTime rfl rfl rfl hd_X5_lastTime ⟨Nat.le_of_ble_eq_true rfl, Nat.le_of_ble_eq_true rfl⟩) (by decide) (wX5_X6_X5_0_pl k a _) rfl rfl rfl hl rfl rfl (Nat.le_of_ble_eq_true rfl) dX5_appendAll_22 ⟨Nat.le_refl 0, Nat.le_refl 0⟩ ?_
      refine lv_aload_n hx hb dX5_appendAll_25 rfl (lv_at hl 1 rfl) ?_
      refine va_get (v := .ref (a 4)) (C := RX6) (T := TX6) (N := 7) hx hb hts hinX6 hown hK hW.1 3 rfl rfl 0 (by decide) hf41 (fun _ h9 => h9) rfl dX5_appendAll_26 ?_
      refine lv_iload_n hx hb dX5_appendAll_29 rfl (lv_at hl 2 rfl) ?_
      have hi4 := hs.1
      have hs := hs.2
      refine q_iald (v := σ 4 v2.toNatClampNeg) C0 hW 4 rfl rfl hi4 rfl rfl dX5_appendAll_30 ?_
      refine lv_iadd hx hb dX5_appendAll_31 ?_
      refine lv_istore_n (lv' := [(3, .int ((P_X5_lastTime σ) + (σ 4 v2.toNatClampNeg))), (0, .ref (a 0)), (1, .ref (a 3)), (2, .int v2)]) hx hb dX5_appendAll_32 rfl hl (by decide) rfl (fun ls hl => ?_)
      exact b_X5_appendAll_b33n l D k a A C0 R _ _ ih σ v2 ((P_X5_lastTime σ) + (σ 4 v2.toNatClampNeg)) hs hR H locs ls hW (lv_sub hl [1, 2, 3, 0] rfl)
set_option maxHeartbeats 400000 in
set_option maxRecDepth 100000 in
theorem b_X5_appendAll_b0 {p : Program} {e : Env} {s : State} {m : MethodId} {args : Array Value} {below : List Frame} {meth : Method} {c : Code} (l : Launch) (D : va_G) (k : Nat → ClassId) (a : Nat → Nat) (A : Nat → Prop) (C0 : q_C p s m meth c args RX5 cX5_appendAll 5 (some .boolean) wsX5_appendAll D (tyL k) A) (R : Int32 × T2) : ∀ (σ : T2), S_X5_appendAll_b0 σ → P_X5_appendAll_b0 σ = R → ∀ (H : Heap) (locs : List Loc) (ls : Array Slot), q_W D A s.heap (wX5_X6 k a σ) H locs → lv_has ls 5 [(0, .ref (a 0)), (1, .ref (a 3))] → W p l e { frames := 3, cells := 0, slots := 0, locals := 62 } s m args below meth c H locs 0 0 (MQ below (va_Qi (fun r u => (r, u) = R) (fun u => q_E D (tyL k) A (wX5_X6 k a u)) A) args s 0 0 A) (F0 m 0 ls []) := by
  intro σ hs hR H locs ls hW hl
  rw [P_X5_appendAll_b0_e] at hR
  rw [S_X5_appendAll_b0_e] at hs
  obtain ⟨hx, hb, hr, hml, hts, hown, hlocks, hK, hA⟩ := id C0
  have hf34 := hts (.fieldLink RX5 34 "BeatFollower$Reader" "many" "I") (by decide +kernel)
  have hinX6 : ∀ w ∈ u_ws RX6 TX6 7, w ∈ wsX5_appendAll := hin_X5_appendAll_X6
  refine lv_aload_n hx hb dX5_appendAll_0 rfl (lv_at hl 1 rfl) ?_
  refine va_get (v := .int (σ 3 2)) (C := RX6) (T := TX6) (N := 7) hx hb hts hinX6 hown hK hW.1 3 rfl rfl 2 (by decide) hf34 (fun _ h9 => h9) rfl dX5_appendAll_1 ?_
  refine lv_bipush (v := (64 : Int32)) hx hb dX5_appendAll_4 (by decide) ?_
  refine lv_icmp_le (tgt := 11) hx hb dX5_appendAll_6 (by decide) (fun c_1 => ?_) (fun c_1 => ?_)
  · have hs := hs.1 c_1
    rw [if_pos c_1] at hR
    refine lv_iconst (v := (0 : Int32)) hx hb dX5_appendAll_11 (by decide) ?_
    refine lv_istore_n (lv' := [(2, .int (0 : Int32)), (0, .ref (a 0)), (1, .ref (a 3))]) hx hb dX5_appendAll_12 rfl hl (by decide) rfl (fun ls hl => ?_)
    exact b_X5_appendAll_b13 l D k a A C0 R FU σ (0 : Int32) hs hR H locs ls hW (lv_sub hl [1, 2, 0] rfl)
  · have hs := hs.2 c_1
    rw [if_neg c_1] at hR
    refine lv_iconst (v := (0 : Int32)) hx hb dX5_appendAll_9 (by decide) ?_
    exact q_zret C0 (by decide) hW hR dX5_appendAll_10
set_option maxHeartbeats 400000 in
set_option maxRecDepth 100000 in
theorem m_X5_appendAll (l : Launch) (D : va_G) (k : Nat → ClassId) (a : Nat → Nat) (sz : Nat) (σ : T2) (hs : S_X5_appendAll σ) : Met l yX5_appendAll wsX5_appendAll { frames := 3, cells := 0, slots := 0, locals := 62 } (va_Pc [.ref (a 0), .ref (a 3)] (q_B D (tyL k) (wX5_X6 k a σ) sz)) (va_Qi (fun r u => (r, u) = P_X5_appendAll σ) (fun u => q_E D (tyL k) (va_A (wX5_X6 k a σ) sz) (wX5_X6 k a u)) (va_A (wX5_X6 k a σ) sz)) 0 0 (va_A (wX5_X6 k a σ) sz) := by
  refine q_met [.ref (a 0), .ref (a 3)] (wX5_X6 k a σ) sz (cc := cX5_appendAll) (maxL := 5) (ret := (some .boolean)) (by decide) rfl (Nat.le_of_ble_eq_true rfl) ?_
  intro p e s m args below meth c ls hsz C0 hW hl hin
  subst hsz
  exact b_X5_appendAll_b0 l D k a _ C0 _ σ  hs rfl s.heap [] ls hW (lv_sub hl [0, 1] rfl)
