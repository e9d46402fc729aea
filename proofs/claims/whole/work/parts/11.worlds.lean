def fX10 (a : Nat → Nat) (f : T1) : List Value := [.ref (a 1), .ref (a 2), .int (f 2), .int (f 3), .ref (a 3), .ref (a 4), .ref (a 5), .int (f 7), .ref (a 6), .int (f 9), .int (f 10), .int (f 11), .int (f 12), .int (f 13), .int (f 14), .int (f 15), .ref (a 7), .ref (a 8)]
theorem fX10_s2 (a : Nat → Nat) (f : T1) (v : Int32) : (fX10 a f).set 2 (.int v) = fX10 a (upd f 2 v) := rfl
theorem fX10_s3 (a : Nat → Nat) (f : T1) (v : Int32) : (fX10 a f).set 3 (.int v) = fX10 a (upd f 3 v) := rfl
theorem fX10_s7 (a : Nat → Nat) (f : T1) (v : Int32) : (fX10 a f).set 7 (.int v) = fX10 a (upd f 7 v) := rfl
theorem fX10_s9 (a : Nat → Nat) (f : T1) (v : Int32) : (fX10 a f).set 9 (.int v) = fX10 a (upd f 9 v) := rfl
theorem fX10_s10 (a : Nat → Nat) (f : T1) (v : Int32) : (fX10 a f).set 10 (.int v) = fX10 a (upd f 10 v) := rfl
theorem fX10_s11 (a : Nat → Nat) (f : T1) (v : Int32) : (fX10 a f).set 11 (.int v) = fX10 a (upd f 11 v) := rfl
theorem fX10_s12 (a : Nat → Nat) (f : T1) (v : Int32) : (fX10 a f).set 12 (.int v) = fX10 a (upd f 12 v) := rfl
theorem fX10_s13 (a : Nat → Nat) (f : T1) (v : Int32) : (fX10 a f).set 13 (.int v) = fX10 a (upd f 13 v) := rfl
theorem fX10_s14 (a : Nat → Nat) (f : T1) (v : Int32) : (fX10 a f).set 14 (.int v) = fX10 a (upd f 14 v) := rfl
theorem fX10_s15 (a : Nat → Nat) (f : T1) (v : Int32) : (fX10 a f).set 15 (.int v) = fX10 a (upd f 15 v) := rfl
def wX10 (k : Nat → ClassId) (a : Nat → Nat) (σ : T2) : va_W := [(a 0, .inr (10, fX10 a (σ 0))), (a 1, .inl (k 0, 672, .inl (σ 1))), (a 2, .inl (k 0, 4032, .inl (σ 2))), (a 3, .inl (k 0, 1344, .inl (σ 3))), (a 4, .inl (k 1, 2, .inl (σ 4))), (a 5, .inl (k 0, 672, .inl (σ 5))), (a 6, .inl (k 0, 80, .inl (σ 6))), (a 7, .inl (k 0, 65, .inl (σ 7))), (a 8, .inl (k 0, 65, .inl (σ 8)))]
theorem wX10_s0 (k : Nat → ClassId) (a : Nat → Nat) (σ : T2) (g : T1) : (wX10 k a σ).set 0 (a 0, .inr (10, fX10 a g)) = wX10 k a (u2 σ 0 g) := rfl
theorem wX10_s1 (k : Nat → ClassId) (a : Nat → Nat) (σ : T2) (g : T1) : (wX10 k a σ).set 1 (a 1, .inl (k 0, 672, .inl g)) = wX10 k a (u2 σ 1 g) := rfl
theorem wX10_s2 (k : Nat → ClassId) (a : Nat → Nat) (σ : T2) (g : T1) : (wX10 k a σ).set 2 (a 2, .inl (k 0, 4032, .inl g)) = wX10 k a (u2 σ 2 g) := rfl
theorem wX10_s3 (k : Nat → ClassId) (a : Nat → Nat) (σ : T2) (g : T1) : (wX10 k a σ).set 3 (a 3, .inl (k 0, 1344, .inl g)) = wX10 k a (u2 σ 3 g) := rfl
theorem wX10_s4 (k : Nat → ClassId) (a : Nat → Nat) (σ : T2) (g : T1) : (wX10 k a σ).set 4 (a 4, .inl (k 1, 2, .inl g)) = wX10 k a (u2 σ 4 g) := rfl
theorem wX10_s5 (k : Nat → ClassId) (a : Nat → Nat) (σ : T2) (g : T1) : (wX10 k a σ).set 5 (a 5, .inl (k 0, 672, .inl g)) = wX10 k a (u2 σ 5 g) := rfl
theorem wX10_s6 (k : Nat → ClassId) (a : Nat → Nat) (σ : T2) (g : T1) : (wX10 k a σ).set 6 (a 6, .inl (k 0, 80, .inl g)) = wX10 k a (u2 σ 6 g) := rfl
theorem wX10_s7 (k : Nat → ClassId) (a : Nat → Nat) (σ : T2) (g : T1) : (wX10 k a σ).set 7 (a 7, .inl (k 0, 65, .inl g)) = wX10 k a (u2 σ 7 g) := rfl
theorem wX10_s8 (k : Nat → ClassId) (a : Nat → Nat) (σ : T2) (g : T1) : (wX10 k a σ).set 8 (a 8, .inl (k 0, 65, .inl g)) = wX10 k a (u2 σ 8 g) := rfl
theorem wX10_pl (k : Nat → ClassId) (a : Nat → Nat) (σ : T2) : ([0, 1, 2, 3, 4, 5, 6, 7, 8] : List Nat).map (fun i => (wX10 k a σ)[i]?) = (wX10 k a σ).map some := rfl
theorem wX10_put (k : Nat → ClassId) (a : Nat → Nat) (σ τ : T2) : q_put (wX10 k a σ) [0, 1, 2, 3, 4, 5, 6, 7, 8] (wX10 k a τ) = wX10 k a τ := rfl
theorem wX10_fst (k : Nat → ClassId) (a : Nat → Nat) (σ τ : T2) : (wX10 k a τ).map Prod.fst = (wX10 k a σ).map Prod.fst := rfl
theorem wX10_rec (k : Nat → ClassId) (a : Nat → Nat) (σ : T2) : (wX10 k a σ)[0]? = some (a 0, .inr (10, fX10 a (σ 0))) := rfl
