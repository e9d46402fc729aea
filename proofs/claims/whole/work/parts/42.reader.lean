def wX6_X4 (k : Nat → ClassId) (a : Nat → Nat) (σ : T2) : va_W := [(a 0, .inr (6, fX6 a (σ 0))), (a 1, .inl (k 0, 64, .inl (σ 1))), (a 2, .inl (k 0, 64, .inl (σ 2))), (a 3, .inr (4, fX4 (fun j => a (3 + j)) (σ 3))), (a 4, .inl (k 2, 80, .inl (σ 4)))]
theorem wX6_X4_s0 (k : Nat → ClassId) (a : Nat → Nat) (σ : T2) (g : T1) : (wX6_X4 k a σ).set 0 (a 0, .inr (6, fX6 a g)) = wX6_X4 k a (u2 σ 0 g) := rfl
theorem wX6_X4_s1 (k : Nat → ClassId) (a : Nat → Nat) (σ : T2) (g : T1) : (wX6_X4 k a σ).set 1 (a 1, .inl (k 0, 64, .inl g)) = wX6_X4 k a (u2 σ 1 g) := rfl
theorem wX6_X4_s2 (k : Nat → ClassId) (a : Nat → Nat) (σ : T2) (g : T1) : (wX6_X4 k a σ).set 2 (a 2, .inl (k 0, 64, .inl g)) = wX6_X4 k a (u2 σ 2 g) := rfl
theorem wX6_X4_s3 (k : Nat → ClassId) (a : Nat → Nat) (σ : T2) (g : T1) : (wX6_X4 k a σ).set 3 (a 3, .inr (4, fX4 (fun j => a (3 + j)) g)) = wX6_X4 k a (u2 σ 3 g) := rfl
theorem wX6_X4_s4 (k : Nat → ClassId) (a : Nat → Nat) (σ : T2) (g : T1) : (wX6_X4 k a σ).set 4 (a 4, .inl (k 2, 80, .inl g)) = wX6_X4 k a (u2 σ 4 g) := rfl
theorem wX6_X4_pl (k : Nat → ClassId) (a : Nat → Nat) (σ : T2) : ([0, 1, 2, 3, 4] : List Nat).map (fun i => (wX6_X4 k a σ)[i]?) = (wX6_X4 k a σ).map some := rfl
theorem wX6_X4_put (k : Nat → ClassId) (a : Nat → Nat) (σ τ : T2) : q_put (wX6_X4 k a σ) [0, 1, 2, 3, 4] (wX6_X4 k a τ) = wX6_X4 k a τ := rfl
theorem wX6_X4_fst (k : Nat → ClassId) (a : Nat → Nat) (σ τ : T2) : (wX6_X4 k a τ).map Prod.fst = (wX6_X4 k a σ).map Prod.fst := rfl
theorem wX6_X4_rec (k : Nat → ClassId) (a : Nat → Nat) (σ : T2) : (wX6_X4 k a σ)[0]? = some (a 0, .inr (6, fX6 a (σ 0))) := rfl
def wX6 (k : Nat → ClassId) (a : Nat → Nat) (σ : T2) : va_W := [(a 0, .inr (6, fX6 a (σ 0))), (a 1, .inl (k 0, 64, .inl (σ 1))), (a 2, .inl (k 0, 64, .inl (σ 2)))]
theorem wX6_s0 (k : Nat → ClassId) (a : Nat → Nat) (σ : T2) (g : T1) : (wX6 k a σ).set 0 (a 0, .inr (6, fX6 a g)) = wX6 k a (u2 σ 0 g) := rfl
theorem wX6_s1 (k : Nat → ClassId) (a : Nat → Nat) (σ : T2) (g : T1) : (wX6 k a σ).set 1 (a 1, .inl (k 0, 64, .inl g)) = wX6 k a (u2 σ 1 g) := rfl
theorem wX6_s2 (k : Nat → ClassId) (a : Nat → Nat) (σ : T2) (g : T1) : (wX6 k a σ).set 2 (a 2, .inl (k 0, 64, .inl g)) = wX6 k a (u2 σ 2 g) := rfl
theorem wX6_pl (k : Nat → ClassId) (a : Nat → Nat) (σ : T2) : ([0, 1, 2] : List Nat).map (fun i => (wX6 k a σ)[i]?) = (wX6 k a σ).map some := rfl
theorem wX6_put (k : Nat → ClassId) (a : Nat → Nat) (σ τ : T2) : q_put (wX6 k a σ) [0, 1, 2] (wX6 k a τ) = wX6 k a τ := rfl
theorem wX6_fst (k : Nat → ClassId) (a : Nat → Nat) (σ τ : T2) : (wX6 k a τ).map Prod.fst = (wX6 k a σ).map Prod.fst := rfl
theorem wX6_rec (k : Nat → ClassId) (a : Nat → Nat) (σ : T2) : (wX6 k a σ)[0]? = some (a 0, .inr (6, fX6 a (σ 0))) := rfl
theorem wX6_X4_X4_3_pl (k : Nat → ClassId) (a : Nat → Nat) (σ : T2) : ([3, 4] : List Nat).map (fun i => (wX6_X4 k a σ)[i]?) = (wX4 k (fun j => a (3 + j)) (fun j => σ (3 + j))).map some := rfl
theorem wX6_X4_X4_3_pt (k : Nat → ClassId) (a : Nat → Nat) (σ τ : T2) : q_put (wX6_X4 k a σ) [3, 4] (wX4 k (fun j => a (3 + j)) τ) = wX6_X4 k a (sb σ 3 2 τ) := rfl
theorem wX6_X4_X6_0_pl (k : Nat → ClassId) (a : Nat → Nat) (σ : T2) : ([0, 1, 2] : List Nat).map (fun i => (wX6_X4 k a σ)[i]?) = (wX6 k a σ).map some := rfl
theorem wX6_X4_X6_0_pt (k : Nat → ClassId) (a : Nat → Nat) (σ τ : T2) : q_put (wX6_X4 k a σ) [0, 1, 2] (wX6 k a τ) = wX6_X4 k a (sb σ 0 3 τ) := rfl
theorem hin_X6_readNumber_X6 : ∀ w ∈ u_ws RX6 TX6 7, w ∈ wsX6_readNumber := by decide +kernel
theorem hd_X6_readNumber : yX6_readNumber.cls = RX6 ∧ yX6_readNumber.cls ≠ "java/lang/invoke/MethodHandle" ∧ yX6_readNumber.cls ≠ "java/lang/invoke/VarHandle" ∧ (parseMethodDescriptor yX6_readNumber.desc).map (fun d => d.parameters.length) = some 3 := by decide +kernel
noncomputable def P_X6_readNumber_b124 (σ : T2) (v2 : Int32) (v4 : Int32) : Int32 × T2 := if v2 ≤ v4 then ((v4, σ)) else (((0 : Int32), u2 σ 0 (upd (σ 0) 3 (σ 0 4))))
def S_X6_readNumber_b124 (σ : T2) (v2 : Int32) (v4 : Int32) : Prop := (v2 ≤ v4 → (True)) ∧ (¬ (v2 ≤ v4) → (True))
theorem P_X6_readNumber_b124_e (σ : T2) (v2 : Int32) (v4 : Int32) : P_X6_readNumber_b124 σ v2 v4 = if v2 ≤ v4 then ((v4, σ)) else (((0 : Int32), u2 σ 0 (upd (σ 0) 3 (σ 0 4)))) := rfl
theorem S_X6_readNumber_b124_e (σ : T2) (v2 : Int32) (v4 : Int32) : S_X6_readNumber_b124 σ v2 v4 = ((v2 ≤ v4 → (True)) ∧ (¬ (v2 ≤ v4) → (True))) := rfl
noncomputable def P_X6_readNumber_b94 (σ : T2) : Int32 × T2 := ((0 : Int32), u2 σ 0 (upd (σ 0) 3 (σ 0 4)))
def S_X6_readNumber_b94 (σ : T2) : Prop := True
theorem P_X6_readNumber_b94_e (σ : T2) : P_X6_readNumber_b94 σ = ((0 : Int32), u2 σ 0 (upd (σ 0) 3 (σ 0 4))) := rfl
theorem S_X6_readNumber_b94_e (σ : T2) : S_X6_readNumber_b94 σ = (True) := rfl
noncomputable def P_X6_readNumber_b83n (pk49 : T2 → Int32 → Int32 → Int32 → Int32 → Int32 × T2) (σ : T2) (v2 : Int32) (v3 : Int32) (v4 : Int32) (v5 : Int32) (v6 : Int32) : Int32 × T2 := if v4 = 0 then (P_X6_readNumber_b94 σ) else (if v6 ≤ v3 then (pk49 (u2 σ 0 (upd (σ 0) 4 ((σ 0 4) + (1 : Int32)))) v2 v3 v6 (v5 + (1 : Int32))) else (P_X6_readNumber_b94 σ))
def S_X6_readNumber_b83n (sk49 : T2 → Int32 → Int32 → Int32 → Int32 → Prop) (σ : T2) (v2 : Int32) (v3 : Int32) (v4 : Int32) (v5 : Int32) (v6 : Int32) : Prop := (v4 = 0 → (S_X6_readNumber_b94 σ)) ∧ (¬ (v4 = 0) → ((v6 ≤ v3 → (sk49 (u2 σ 0 (upd (σ 0) 4 ((σ 0 4) + (1 : Int32)))) v2 v3 v6 (v5 + (1 : Int32)))) ∧ (¬ (v6 ≤ v3) → (S_X6_readNumber_b94 σ))))
theorem P_X6_readNumber_b83n_e (pk49 : T2 → Int32 → Int32 → Int32 → Int32 → Int32 × T2) (σ : T2) (v2 : Int32) (v3 : Int32) (v4 : Int32) (v5 : Int32) (v6 : Int32) : P_X6_readNumber_b83n pk49 σ v2 v3 v4 v5 v6 = if v4 = 0 then (P_X6_readNumber_b94 σ) else (if v6 ≤ v3 then (pk49 (u2 σ 0 (upd (σ 0) 4 ((σ 0 4) + (1 : Int32)))) v2 v3 v6 (v5 + (1 : Int32))) else (P_X6_readNumber_b94 σ)) := rfl
theorem S_X6_readNumber_b83n_e (sk49 : T2 → Int32 → Int32 → Int32 → Int32 → Prop) (σ : T2) (v2 : Int32) (v3 : Int32) (v4 : Int32) (v5 : Int32) (v6 : Int32) : S_X6_readNumber_b83n sk49 σ v2 v3 v4 v5 v6 = ((v4 = 0 → (S_X6_readNumber_b94 σ)) ∧ (¬ (v4 = 0) → ((v6 ≤ v3 → (sk49 (u2 σ 0 (upd (σ 0) 4 ((σ 0 4) + (1 : Int32)))) v2 v3 v6 (v5 + (1 : Int32)))) ∧ (¬ (v6 ≤ v3) → (S_X6_readNumber_b94 σ))))) := rfl
noncomputable def P_X6_readNumber_b49 (n : Nat) : T2 → Int32 → Int32 → Int32 → Int32 → Int32 × T2 := Nat.rec (motive := fun _ => T2 → Int32 → Int32 → Int32 → Int32 → Int32 × T2) (fun _ _ _ _ _ => (0, fun _ _ => 0)) (fun _ pk49 => fun σ v2 v3 v4 v5 => if (80 : Int32) ≤ v5 then (P_X6_readNumber_b124 σ v2 v4) else (if (P_X4_digitAt (fun j => σ (3 + j)) (σ 0 4)) < 0 then (P_X6_readNumber_b124 σ v2 v4) else (P_X6_readNumber_b83n pk49 σ v2 v3 v4 v5 ((v4 * (10 : Int32)) + (P_X4_digitAt (fun j => σ (3 + j)) (σ 0 4)))))) n
def S_X6_readNumber_b49 (n : Nat) : T2 → Int32 → Int32 → Int32 → Int32 → Prop := Nat.rec (motive := fun _ => T2 → Int32 → Int32 → Int32 → Int32 → Prop) (fun _ _ _ _ _ => False) (fun _ sk49 => fun σ v2 v3 v4 v5 => ((80 : Int32) ≤ v5 → (S_X6_readNumber_b124 σ v2 v4)) ∧ (¬ ((80 : Int32) ≤ v5) → ((S_X4_digitAt (fun j => σ (3 + j)) (σ 0 4)) ∧ (((P_X4_digitAt (fun j => σ (3 + j)) (σ 0 4)) < 0 → (S_X6_readNumber_b124 σ v2 v4)) ∧ (¬ ((P_X4_digitAt (fun j => σ (3 + j)) (σ 0 4)) < 0) → ((S_X4_digitAt (fun j => σ (3 + j)) (σ 0 4)) ∧ (S_X6_readNumber_b83n sk49 σ v2 v3 v4 v5 ((v4 * (10 : Int32)) + (P_X4_digitAt (fun j => σ (3 + j)) (σ 0 4)))))))))) n
theorem P_X6_readNumber_b49_e (n : Nat) (σ : T2) (v2 : Int32) (v3 : Int32) (v4 : Int32) (v5 : Int32) : P_X6_readNumber_b49 (n + 1) σ v2 v3 v4 v5 = if (80 : Int32) ≤ v5 then (P_X6_readNumber_b124 σ v2 v4) else (if (P_X4_digitAt (fun j => σ (3 + j)) (σ 0 4)) < 0 then (P_X6_readNumber_b124 σ v2 v4) else (P_X6_readNumber_b83n (P_X6_readNumber_b49 n) σ v2 v3 v4 v5 ((v4 * (10 : Int32)) + (P_X4_digitAt (fun j => σ (3 + j)) (σ 0 4))))) := rfl
theorem S_X6_readNumber_b49_e (n : Nat) (σ : T2) (v2 : Int32) (v3 : Int32) (v4 : Int32) (v5 : Int32) : S_X6_readNumber_b49 (n + 1) σ v2 v3 v4 v5 = (((80 : Int32) ≤ v5 → (S_X6_readNumber_b124 σ v2 v4)) ∧ (¬ ((80 : Int32) ≤ v5) → ((S_X4_digitAt (fun j => σ (3 + j)) (σ 0 4)) ∧ (((P_X4_digitAt (fun j => σ (3 + j)) (σ 0 4)) < 0 → (S_X6_readNumber_b124 σ v2 v4)) ∧ (¬ ((P_X4_digitAt (fun j => σ (3 + j)) (σ 0 4)) < 0) → ((S_X4_digitAt (fun j => σ (3 + j)) (σ 0 4)) ∧ (S_X6_readNumber_b83n (S_X6_readNumber_b49 n) σ v2 v3 v4 v5 ((v4 * (10 : Int32)) + (P_X4_digitAt (fun j => σ (3 + j)) (σ 0 4)))))))))) := rfl
noncomputable def P_X6_readNumber_b21n (σ : T2) (v2 : Int32) (v3 : Int32) (v4 : Int32) : Int32 × T2 := if 0 ≤ v4 then (P_X6_readNumber_b49 FU (u2 σ 0 (upd (σ 0) 4 ((σ 0 4) + (1 : Int32)))) v2 v3 v4 (0 : Int32)) else (((0 : Int32), u2 σ 0 (upd (σ 0) 3 (σ 0 4))))
def S_X6_readNumber_b21n (σ : T2) (v2 : Int32) (v3 : Int32) (v4 : Int32) : Prop := (0 ≤ v4 → (S_X6_readNumber_b49 FU (u2 σ 0 (upd (σ 0) 4 ((σ 0 4) + (1 : Int32)))) v2 v3 v4 (0 : Int32))) ∧ (¬ (0 ≤ v4) → (True))
theorem P_X6_readNumber_b21n_e (σ : T2) (v2 : Int32) (v3 : Int32) (v4 : Int32) : P_X6_readNumber_b21n σ v2 v3 v4 = if 0 ≤ v4 then (P_X6_readNumber_b49 FU (u2 σ 0 (upd (σ 0) 4 ((σ 0 4) + (1 : Int32)))) v2 v3 v4 (0 : Int32)) else (((0 : Int32), u2 σ 0 (upd (σ 0) 3 (σ 0 4)))) := rfl
theorem S_X6_readNumber_b21n_e (σ : T2) (v2 : Int32) (v3 : Int32) (v4 : Int32) : S_X6_readNumber_b21n σ v2 v3 v4 = ((0 ≤ v4 → (S_X6_readNumber_b49 FU (u2 σ 0 (upd (σ 0) 4 ((σ 0 4) + (1 : Int32)))) v2 v3 v4 (0 : Int32))) ∧ (¬ (0 ≤ v4) → (True))) := rfl
noncomputable def P_X6_readNumber_b0 (σ : T2) (v2 : Int32) (v3 : Int32) : Int32 × T2 := if (σ 0 3) = (-6 : Int32) then (P_X6_readNumber_b21n σ v2 v3 (P_X4_digitAt (fun j => σ (3 + j)) (σ 0 4))) else (((0 : Int32), σ))
def S_X6_readNumber_b0 (σ : T2) (v2 : Int32) (v3 : Int32) : Prop := ((σ 0 3) = (-6 : Int32) → ((S_X4_digitAt (fun j => σ (3 + j)) (σ 0 4)) ∧ (S_X6_readNumber_b21n σ v2 v3 (P_X4_digitAt (fun j => σ (3 + j)) (σ 0 4))))) ∧ (¬ ((σ 0 3) = (-6 : Int32)) → (True))
theorem P_X6_readNumber_b0_e (σ : T2) (v2 : Int32) (v3 : Int32) : P_X6_readNumber_b0 σ v2 v3 = if (σ 0 3) = (-6 : Int32) then (P_X6_readNumber_b21n σ v2 v3 (P_X4_digitAt (fun j => σ (3 + j)) (σ 0 4))) else (((0 : Int32), σ)) := rfl
theorem S_X6_readNumber_b0_e (σ : T2) (v2 : Int32) (v3 : Int32) : S_X6_readNumber_b0 σ v2 v3 = (((σ 0 3) = (-6 : Int32) → ((S_X4_digitAt (fun j => σ (3 + j)) (σ 0 4)) ∧ (S_X6_readNumber_b21n σ v2 v3 (P_X4_digitAt (fun j => σ (3 + j)) (σ 0 4))))) ∧ (¬ ((σ 0 3) = (-6 : Int32)) → (True))) := rfl
noncomputable def P_X6_readNumber (σ : T2) (p1 : Int32) (p2 : Int32) : Int32 × T2 := P_X6_readNumber_b0 σ p1 p2
def S_X6_readNumber (σ : T2) (p1 : Int32) (p2 : Int32) : Prop := S_X6_readNumber_b0 σ p1 p2
set_option maxHeartbeats 400000 in
set_option maxRecDepth 100000 in
theorem b_X6_readNumber_b124 {p : Program} {e : Env} {s : State} {m : MethodId} {args : Array Value} {below : List Frame} {meth : Method} {c : Code} (l : Launch) (D : va_G) (k : Nat → ClassId) (a : Nat → Nat) (A : Nat → Prop) (C0 : q_C p s m meth c args RX6 cX6_readNumber 7 (some .int) wsX6_readNumber D (tyL k) A) (R : Int32 × T2) : ∀ (σ : T2) (v2 : Int32) (v4 : Int32), S_X6_readNumber_b124 σ v2 v4 → P_X6_readNumber_b124 σ v2 v4 = R → ∀ (H : Heap) (locs : List Loc) (ls : Array Slot), q_W D A s.heap (wX6_X4 k a σ) H locs → lv_has ls 7 [(0, .ref (a 0)), (2, .int v2), (4, .int v4)] → W p l e { frames := 2, cells := 0, slots := 0, locals := 43 } s m args below meth c H locs 0 0 (MQ below (va_Qi (fun r u => (r, u) = R) (fun u => q_E D (tyL k) A (wX6_X4 k a u)) A) args s 0 0 A) (F0 m 124 ls []) := by
  intro σ v2 v4 hs hR H locs ls hW hl
  rw [P_X6_readNumber_b124_e] at hR
  rw [S_X6_readNumber_b124_e] at hs
  obtain ⟨hx, hb, hr, hml, hts, hown, hlocks, hK, hA⟩ := id C0
  have hf22 := hts (.fieldLink RX6 22 "BeatFollower$Reader" "fault" "I") (by decide +kernel)
  have hf25 := hts (.fieldLink RX6 25 "BeatFollower$Reader" "place" "I") (by decide +kernel)
  have hinX6 : ∀ w ∈ u_ws RX6 TX6 7, w ∈ wsX6_readNumber := hin_X6_readNumber_X6
  refine lv_iload hx hb dX6_readNumber_124 (lv_at hl 2 rfl) ?_
  refine lv_iload_n hx hb dX6_readNumber_126 rfl (lv_at hl 1 rfl) ?_
  refine lv_icmp_ge (tgt := 140) hx hb dX6_readNumber_127 (by decide) (fun c_5 => ?_) (fun c_5 => ?_)
  · have hs := hs.1 c_5
    rw [if_pos c_5] at hR
    refine lv_iload hx hb dX6_readNumber_140 (lv_at hl 2 rfl) ?_
    exact q_iret C0 hW hR dX6_readNumber_142
  · have hs := hs.2 c_5
    rw [if_neg c_5] at hR
    refine lv_aload_n hx hb dX6_readNumber_130 rfl (lv_at hl 0 rfl) ?_
    refine lv_aload_n hx hb dX6_readNumber_131 rfl (lv_at hl 0 rfl) ?_
    refine va_get (v := .int (σ 0 4)) (C := RX6) (T := TX6) (N := 7) hx hb hts hinX6 hown hK hW.1 0 rfl rfl 4 (by decide) hf25 (fun _ h9 => h9) rfl dX6_readNumber_132 ?_
    refine q_putf (ty := .int) (wd' := wX6_X4 k a (u2 σ 0 (upd (σ 0) 3 (σ 0 4)))) C0 hW hinX6 tyX6 tyX6_ok nmX6 0 rfl rfl 3 (by decide) hf22 rfl (by decide +kernel) rfl rfl (Nat.le_of_ble_eq_true rfl) dX6_readNumber_135 (fX6_s3 _ _ _) (wX6_X4_s0 k a _ _) (fun H locs hW => ?_)
    refine lv_iconst (v := (0 : Int32)) hx hb dX6_readNumber_138 (by decide) ?_
    exact q_iret C0 hW hR dX6_readNumber_139
set_option maxHeartbeats 400000 in
set_option maxRecDepth 100000 in
theorem b_X6_readNumber_b94 {p : Program} {e : Env} {s : State} {m : MethodId} {args : Array Value} {below : List Frame} {meth : Method} {c : Code} (l : Launch) (D : va_G) (k : Nat → ClassId) (a : Nat → Nat) (A : Nat → Prop) (C0 : q_C p s m meth c args RX6 cX6_readNumber 7 (some .int) wsX6_readNumber D (tyL k) A) (R : Int32 × T2) : ∀ (σ : T2), S_X6_readNumber_b94 σ → P_X6_readNumber_b94 σ = R → ∀ (H : Heap) (locs : List Loc) (ls : Array Slot), q_W D A s.heap (wX6_X4 k a σ) H locs → lv_has ls 7 [(0, .ref (a 0))] → W p l e { frames := 2, cells := 0, slots := 0, locals := 43 } s m args below meth c H locs 0 0 (MQ below (va_Qi (fun r u => (r, u) = R) (fun u => q_E D (tyL k) A (wX6_X4 k a u)) A) args s 0 0 A) (F0 m 94 ls []) := by
  intro σ hs hR H locs ls hW hl
  rw [P_X6_readNumber_b94_e] at hR
  rw [S_X6_readNumber_b94_e] at hs
  obtain ⟨hx, hb, hr, hml, hts, hown, hlocks, hK, hA⟩ := id C0
  have hf22 := hts (.fieldLink RX6 22 "BeatFollower$Reader" "fault" "I") (by decide +kernel)
  have hf25 := hts (.fieldLink RX6 25 "BeatFollower$Reader" "place" "I") (by decide +kernel)
  have hinX6 : ∀ w ∈ u_ws RX6 TX6 7, w ∈ wsX6_readNumber := hin_X6_readNumber_X6
  refine lv_aload_n hx hb dX6_readNumber_94 rfl (lv_at hl 0 rfl) ?_
  refine lv_aload_n hx hb dX6_readNumber_95 rfl (lv_at hl 0 rfl) ?_
  refine va_get (v := .int (σ 0 4)) (C := RX6) (T := TX6) (N := 7) hx hb hts hinX6 hown hK hW.1 0 rfl rfl 4 (by decide) hf25 (fun _ h9 => h9) rfl dX6_readNumber_96 ?_
  refine q_putf (ty := .int) (wd' := wX6_X4 k a (u2 σ 0 (upd (σ 0) 3 (σ 0 4)))) C0 hW hinX6 tyX6 tyX6_ok nmX6 0 rfl rfl 3 (by decide) hf22 rfl (by decide +kernel) rfl rfl (Nat.le_of_ble_eq_true rfl) dX6_readNumber_99 (fX6_s3 _ _ _) (wX6_X4_s0 k a _ _) (fun H locs hW => ?_)
  refine lv_iconst (v := (0 : Int32)) hx hb dX6_readNumber_102 (by decide) ?_
  exact q_iret C0 hW hR dX6_readNumber_103
set_option maxHeartbeats 400000 in
set_option maxRecDepth 100000 in
theorem b_X6_readNumber_b83n {p : Program} {e : Env} {s : State} {m : MethodId} {args : Array Value} {below : List Frame} {meth : Method} {c : Code} (l : Launch) (D : va_G) (k : Nat → ClassId) (a : Nat → Nat) (A : Nat → Prop) (C0 : q_C p s m meth c args RX6 cX6_readNumber 7 (some .int) wsX6_readNumber D (tyL k) A) (R : Int32 × T2) (pk49 : T2 → Int32 → Int32 → Int32 → Int32 → Int32 × T2) (sk49 : T2 → Int32 → Int32 → Int32 → Int32 → Prop) (hk49 : ∀ (σ : T2) (v2 : Int32) (v3 : Int32) (v4 : Int32) (v5 : Int32), sk49 σ v2 v3 v4 v5 → pk49 σ v2 v3 v4 v5 = R → ∀ (H : Heap) (locs : List Loc) (ls : Array Slot), q_W D A s.heap (wX6_X4 k a σ) H locs → lv_has ls 7 [(0, .ref (a 0)), (1, .ref (a 3)), (2, .int v2), (3, .int v3), (4, .int v4), (5, .int v5)] → W p l e { frames := 2, cells := 0, slots := 0, locals := 43 } s m args below meth c H locs 0 0 (MQ below (va_Qi (fun r u => (r, u) = R) (fun u => q_E D (tyL k) A (wX6_X4 k a u)) A) args s 0 0 A) (F0 m 49 ls [])) : ∀ (σ : T2) (v2 : Int32) (v3 : Int32) (v4 : Int32) (v5 : Int32) (v6 : Int32), S_X6_readNumber_b83n sk49 σ v2 v3 v4 v5 v6 → P_X6_readNumber_b83n pk49 σ v2 v3 v4 v5 v6 = R → ∀ (H : Heap) (locs : List Loc) (ls : Array Slot), q_W D A s.heap (wX6_X4 k a σ) H locs → lv_has ls 7 [(0, .ref (a 0)), (1, .ref (a 3)), (2, .int v2), (3, .int v3), (4, .int v4), (5, .int v5), (6, .int v6)] → W p l e { frames := 2, cells := 0, slots := 0, locals := 43 } s m args below meth c H locs 0 0 (MQ below (va_Qi (fun r u => (r, u) = R) (fun u => q_E D (tyL k) A (wX6_X4 k a u)) A) args s 0 0 A) (F0 m 83 ls []) := by
  intro σ v2 v3 v4 v5 v6 hs hR H locs ls hW hl
  rw [P_X6_readNumber_b83n_e] at hR
  rw [S_X6_readNumber_b83n_e] at hs
  obtain ⟨hx, hb, hr, hml, hts, hown, hlocks, hK, hA⟩ := id C0
  have hf25 := hts (.fieldLink RX6 25 "BeatFollower$Reader" "place" "I") (by decide +kernel)
  have hinX6 : ∀ w ∈ u_ws RX6 TX6 7, w ∈ wsX6_readNumber := hin_X6_readNumber_X6
  refine lv_iload hx hb dX6_readNumber_83 (lv_at hl 4 rfl) ?_
  refine lv_if_eq (tgt := 94) hx hb dX6_readNumber_85 (by decide) (fun c_9 => ?_) (fun c_9 => ?_)
  · have hs := hs.1 c_9
    rw [if_pos c_9] at hR
    exact b_X6_readNumber_b94 l D k a A C0 R σ hs hR H locs ls hW (lv_sub hl [0] rfl)
  · have hs := hs.2 c_9
    rw [if_neg c_9] at hR
    refine lv_iload hx hb dX6_readNumber_88 (lv_at hl 6 rfl) ?_
    refine lv_iload_n hx hb dX6_readNumber_90 rfl (lv_at hl 3 rfl) ?_
    refine lv_icmp_le (tgt := 104) hx hb dX6_readNumber_91 (by decide) (fun c_10 => ?_) (fun c_10 => ?_)
    · have hs := hs.1 c_10
      rw [if_pos c_10] at hR
      refine lv_iload hx hb dX6_readNumber_104 (lv_at hl 6 rfl) ?_
      refine lv_istore (lv' := [(4, .int v6), (0, .ref (a 0)), (1, .ref (a 3)), (2, .int v2), (3, .int v3), (5, .int v5), (6, .int v6)]) hx hb dX6_readNumber_106 hl (by decide) rfl (fun ls hl => ?_)
      refine lv_aload_n hx hb dX6_readNumber_108 rfl (lv_at hl 1 rfl) ?_
      refine lv_dup hx hb dX6_readNumber_109 rfl ?_
      refine va_get (v := .int (σ 0 4)) (C := RX6) (T := TX6) (N := 7) hx hb hts hinX6 hown hK hW.1 0 rfl rfl 4 (by decide) hf25 (fun _ h9 => h9) rfl dX6_readNumber_110 ?_
      refine lv_iconst (v := (1 : Int32)) hx hb dX6_readNumber_113 (by decide) ?_
      refine lv_iadd hx hb dX6_readNumber_114 ?_
      refine q_putf (ty := .int) (wd' := wX6_X4 k a (u2 σ 0 (upd (σ 0) 4 ((σ 0 4) + (1 : Int32))))) C0 hW hinX6 tyX6 tyX6_ok nmX6 0 rfl rfl 4 (by decide) hf25 rfl (by decide +kernel) rfl rfl (Nat.le_of_ble_eq_true rfl) dX6_readNumber_115 (fX6_s4 _ _ _) (wX6_X4_s0 k a _ _) (fun H locs hW => ?_)
      refine lv_iinc (v := v5 + (1 : Int32)) (lv' := [(5, .int (v5 + (1 : Int32))), (4, .int v6), (0, .ref (a 0)), (1, .ref (a 3)), (2, .int v2), (3, .int v3), (6, .int v6)]) hx hb dX6_readNumber_118 hl (k := 5) rfl rfl (by decide) rfl (fun ls hl => ?_)
      refine lv_goto (tgt := 49) hx hb dX6_readNumber_121 (by decide) ?_
      exact hk49 (u2 σ 0 (upd (σ 0) 4 ((σ 0 4) + (1 : Int32)))) v2 v3 v6 (v5 + (1 : Int32)) hs hR H locs ls hW (lv_sub hl [2, 3, 4, 5, 1, 0] rfl)
    · have hs := hs.2 c_10
      rw [if_neg c_10] at hR
      exact b_X6_readNumber_b94 l D k a A C0 R σ hs hR H locs ls hW (lv_sub hl [0] rfl)
set_option maxHeartbeats 400000 in
set_option maxRecDepth 100000 in
theorem b_X6_readNumber_b49 {p : Program} {e : Env} {s : State} {m : MethodId} {args : Array Value} {below : List Frame} {meth : Method} {c : Code} (l : Launch) (D : va_G) (k : Nat → ClassId) (a : Nat → Nat) (A : Nat → Prop) (C0 : q_C p s m meth c args RX6 cX6_readNumber 7 (some .int) wsX6_readNumber D (tyL k) A) (R : Int32 × T2) : ∀ n : Nat, ∀ (σ : T2) (v2 : Int32) (v3 : Int32) (v4 : Int32) (v5 : Int32), S_X6_readNumber_b49 n σ v2 v3 v4 v5 → P_X6_readNumber_b49 n σ v2 v3 v4 v5 = R → ∀ (H : Heap) (locs : List Loc) (ls : Array Slot), q_W D A s.heap (wX6_X4 k a σ) H locs → lv_has ls 7 [(0, .ref (a 0)), (1, .ref (a 3)), (2, .int v2), (3, .int v3), (4, .int v4), (5, .int v5)] → W p l e { frames := 2, cells := 0, slots := 0, locals := 43 } s m args below meth c H locs 0 0 (MQ below (va_Qi (fun r u => (r, u) = R) (fun u => q_E D (tyL k) A (wX6_X4 k a u)) A) args s 0 0 A) (F0 m 49 ls []) := by
  intro n
  induction n with
  | zero => intro σ v2 v3 v4 v5 hs; exact False.elim hs
  | succ n ih =>
    intro σ v2 v3 v4 v5 hs hR H locs ls hW hl
    rw [P_X6_readNumber_b49_e] at hR
    rw [S_X6_readNumber_b49_e] at hs
    obtain ⟨hx, hb, hr, hml, hts, hown, hlocks, hK, hA⟩ := id C0
    have hf25 := hts (.fieldLink RX6 25 "BeatFollower$Reader" "place" "I") (by decide +kernel)
    have hinX6 : ∀ w ∈ u_ws RX6 TX6 7, w ∈ wsX6_readNumber := hin_X6_readNumber_X6
    refine lv_iload hx hb dX6_readNumber_49 (lv_at hl 5 rfl) ?_
    refine lv_bipush (v := (80 : Int32)) hx hb dX6_readNumber_51 (by decide) ?_
    refine lv_icmp_ge (tgt := 124) hx hb dX6_readNumber_53 (by decide) (fun c_4 => ?_) (fun c_4 => ?_)
    · have hs := hs.1 c_4
      rw [if_pos c_4] at hR
      exact b_X6_readNumber_b124 l D k a A C0 R σ v2 v4 hs hR H locs ls hW (lv_sub hl [0, 2, 4] rfl)
    · have hs := hs.2 c_4
      rw [if_neg c_4] at hR
      refine lv_aload_n hx hb dX6_readNumber_56 rfl (lv_at hl 1 rfl) ?_
      refine lv_aload_n hx hb dX6_readNumber_57 rfl (lv_at hl 0 rfl) ?_
      refine va_get (v := .int (σ 0 4)) (C := RX6) (T := TX6) (N := 7) hx hb hts hinX6 hown hK hW.1 0 rfl rfl 4 (by decide) hf25 (fun _ h9 => h9) rfl dX6_readNumber_58 ?_
      have hs6 := hs.1
      have hs := hs.2
      refine q_Vi (As := [.int (σ 0 4)]) (rest := []) (R := P_X4_digitAt (fun j => σ (3 + j)) (σ 0 4)) [3, 4] [0, 1, 2, 3] 3 4 C0 hW (m_X4_digitAt l D k (fun j => a (3 + j)) _ (fun j => σ (3 + j)) (σ 0 4) hs6) (cwV 1 hts gX6_readNumber_X4_digitAt rfl rfl rfl hd_X4_digitAt ⟨Nat.le_of_ble_eq_true rfl, Nat.le_of_ble_eq_true rfl⟩) (by decide) (wX6_X4_X4_3_pl k a _) rfl rfl rfl hl rfl rfl (Nat.le_of_ble_eq_true rfl) dX6_readNumber_61 ⟨Nat.le_refl 0, Nat.le_refl 0⟩ ?_
      refine lv_if_lt (tgt := 124) hx hb dX6_readNumber_64 (by decide) (fun c_7 => ?_) (fun c_7 => ?_)
      · have hs := hs.1 c_7
        rw [if_pos c_7] at hR
        exact b_X6_readNumber_b124 l D k a A C0 R σ v2 v4 hs hR H locs ls hW (lv_sub hl [0, 2, 4] rfl)
      · have hs := hs.2 c_7
        rw [if_neg c_7] at hR
        refine lv_iload hx hb dX6_readNumber_67 (lv_at hl 4 rfl) ?_
        refine lv_bipush (v := (10 : Int32)) hx hb dX6_readNumber_69 (by decide) ?_
        refine lv_imul hx hb dX6_readNumber_71 ?_
        refine lv_aload_n hx hb dX6_readNumber_72 rfl (lv_at hl 1 rfl) ?_
        refine lv_aload_n hx hb dX6_readNumber_73 rfl (lv_at hl 0 rfl) ?_
        refine va_get (v := .int (σ 0 4)) (C := RX6) (T := TX6) (N := 7) hx hb hts hinX6 hown hK hW.1 0 rfl rfl 4 (by decide) hf25 (fun _ h9 => h9) rfl dX6_readNumber_74 ?_
        have hs8 := hs.1
        have hs := hs.2
        refine q_Vi (As := [.int (σ 0 4)]) (rest := [.int (v4 * (10 : Int32))]) (R := P_X4_digitAt (fun j => σ (3 + j)) (σ 0 4)) [3, 4] [0, 1, 2, 3] 3 4 C0 hW (m_X4_digitAt l D k (fun j => a (3 + j)) _ (fun j => σ (3 + j)) (σ 0 4) hs8) (cwV 1 hts gX6_readNumber_X4_digitAt rfl rfl rfl hd_X4_digitAt ⟨Nat.le_of_ble_eq_true rfl, Nat.le_of_ble_eq_true rfl⟩) (by decide) (wX6_X4_X4_3_pl k a _) rfl rfl rfl hl rfl rfl (Nat.le_of_ble_eq_true rfl) dX6_readNumber_77 ⟨Nat.le_refl 0, Nat.le_refl 0⟩ ?_
        refine lv_iadd hx hb dX6_readNumber_80 ?_
        refine lv_istore (lv' := [(6, .int ((v4 * (10 : Int32)) + (P_X4_digitAt (fun j => σ (3 + j)) (σ 0 4)))), (0, .ref (a 0)), (1, .ref (a 3)), (2, .int v2), (3, .int v3), (4, .int v4), (5, .int v5)]) hx hb dX6_readNumber_81 hl (by decide) rfl (fun ls hl => ?_)
        exact b_X6_readNumber_b83n l D k a A C0 R _ _ ih σ v2 v3 v4 v5 ((v4 * (10 : Int32)) + (P_X4_digitAt (fun j => σ (3 + j)) (σ 0 4))) hs hR H locs ls hW (lv_sub hl [1, 2, 3, 4, 5, 6, 0] rfl)
set_option maxHeartbeats 400000 in
set_option maxRecDepth 100000 in
theorem b_X6_readNumber_b21n {p : Program} {e : Env} {s : State} {m : MethodId} {args : Array Value} {below : List Frame} {meth : Method} {c : Code} (l : Launch) (D : va_G) (k : Nat → ClassId) (a : Nat → Nat) (A : Nat → Prop) (C0 : q_C p s m meth c args RX6 cX6_readNumber 7 (some .int) wsX6_readNumber D (tyL k) A) (R : Int32 × T2) : ∀ (σ : T2) (v2 : Int32) (v3 : Int32) (v4 : Int32), S_X6_readNumber_b21n σ v2 v3 v4 → P_X6_readNumber_b21n σ v2 v3 v4 = R → ∀ (H : Heap) (locs : List Loc) (ls : Array Slot), q_W D A s.heap (wX6_X4 k a σ) H locs → lv_has ls 7 [(0, .ref (a 0)), (1, .ref (a 3)), (2, .int v2), (3, .int v3), (4, .int v4)] → W p l e { frames := 2, cells := 0, slots := 0, locals := 43 } s m args below meth c H locs 0 0 (MQ below (va_Qi (fun r u => (r, u) = R) (fun u => q_E D (tyL k) A (wX6_X4 k a u)) A) args s 0 0 A) (F0 m 21 ls []) := by
  intro σ v2 v3 v4 hs hR H locs ls hW hl
  rw [P_X6_readNumber_b21n_e] at hR
  rw [S_X6_readNumber_b21n_e] at hs
  obtain ⟨hx, hb, hr, hml, hts, hown, hlocks, hK, hA⟩ := id C0
  have hf22 := hts (.fieldLink RX6 22 "BeatFollower$Reader" "fault" "I") (by decide +kernel)
  have hf25 := hts (.fieldLink RX6 25 "BeatFollower$Reader" "place" "I") (by decide +kernel)
  have hinX6 : ∀ w ∈ u_ws RX6 TX6 7, w ∈ wsX6_readNumber := hin_X6_readNumber_X6
  refine lv_iload hx hb dX6_readNumber_21 (lv_at hl 4 rfl) ?_
  refine lv_if_ge (tgt := 36) hx hb dX6_readNumber_23 (by decide) (fun c_3 => ?_) (fun c_3 => ?_)
  · have hs := hs.1 c_3
    rw [if_pos c_3] at hR
    refine lv_aload_n hx hb dX6_readNumber_36 rfl (lv_at hl 0 rfl) ?_
    refine lv_dup hx hb dX6_readNumber_37 rfl ?_
    refine va_get (v := .int (σ 0 4)) (C := RX6) (T := TX6) (N := 7) hx hb hts hinX6 hown hK hW.1 0 rfl rfl 4 (by decide) hf25 (fun _ h9 => h9) rfl dX6_readNumber_38 ?_
    refine lv_iconst (v := (1 : Int32)) hx hb dX6_readNumber_41 (by decide) ?_
    refine lv_iadd hx hb dX6_readNumber_42 ?_
    refine q_putf (ty := .int) (wd' := wX6_X4 k a (u2 σ 0 (upd (σ 0) 4 ((σ 0 4) + (1 : Int32))))) C0 hW hinX6 tyX6 tyX6_ok nmX6 0 rfl rfl 4 (by decide) hf25 rfl (by decide +kernel) rfl rfl (Nat.le_of_ble_eq_true rfl) dX6_readNumber_43 (fX6_s4 _ _ _) (wX6_X4_s0 k a _ _) (fun H locs hW => ?_)
    refine lv_iconst (v := (0 : Int32)) hx hb dX6_readNumber_46 (by decide) ?_
    refine lv_istore (lv' := [(5, .int (0 : Int32)), (0, .ref (a 0)), (1, .ref (a 3)), (2, .int v2), (3, .int v3), (4, .int v4)]) hx hb dX6_readNumber_47 hl (by decide) rfl (fun ls hl => ?_)
    exact b_X6_readNumber_b49 l D k a A C0 R FU (u2 σ 0 (upd (σ 0) 4 ((σ 0 4) + (1 : Int32)))) v2 v3 v4 (0 : Int32) hs hR H locs ls hW (lv_sub hl [1, 2, 3, 4, 5, 0] rfl)
  · have hs := hs.2 c_3
    rw [if_neg c_3] at hR
    refine lv_aload_n hx hb dX6_readNumber_26 rfl (lv_at hl 0 rfl) ?_
    refine lv_aload_n hx hb dX6_readNumber_27 rfl (lv_at hl 0 rfl) ?_
    refine va_get (v := .int (σ 0 4)) (C := RX6) (T := TX6) (N := 7) hx hb hts hinX6 hown hK hW.1 0 rfl rfl 4 (by decide) hf25 (fun _ h9 => h9) rfl dX6_readNumber_28 ?_
    refine q_putf (ty := .int) (wd' := wX6_X4 k a (u2 σ 0 (upd (σ 0) 3 (σ 0 4)))) C0 hW hinX6 tyX6 tyX6_ok nmX6 0 rfl rfl 3 (by decide) hf22 rfl (by decide +kernel) rfl rfl (Nat.le_of_ble_eq_true rfl) dX6_readNumber_31 (fX6_s3 _ _ _) (wX6_X4_s0 k a _ _) (fun H locs hW => ?_)
    refine lv_iconst (v := (0 : Int32)) hx hb dX6_readNumber_34 (by decide) ?_
    exact q_iret C0 hW hR dX6_readNumber_35
set_option maxHeartbeats 400000 in
set_option maxRecDepth 100000 in
theorem b_X6_readNumber_b0 {p : Program} {e : Env} {s : State} {m : MethodId} {args : Array Value} {below : List Frame} {meth : Method} {c : Code} (l : Launch) (D : va_G) (k : Nat → ClassId) (a : Nat → Nat) (A : Nat → Prop) (C0 : q_C p s m meth c args RX6 cX6_readNumber 7 (some .int) wsX6_readNumber D (tyL k) A) (R : Int32 × T2) : ∀ (σ : T2) (v2 : Int32) (v3 : Int32), S_X6_readNumber_b0 σ v2 v3 → P_X6_readNumber_b0 σ v2 v3 = R → ∀ (H : Heap) (locs : List Loc) (ls : Array Slot), q_W D A s.heap (wX6_X4 k a σ) H locs → lv_has ls 7 [(0, .ref (a 0)), (1, .ref (a 3)), (2, .int v2), (3, .int v3)] → W p l e { frames := 2, cells := 0, slots := 0, locals := 43 } s m args below meth c H locs 0 0 (MQ below (va_Qi (fun r u => (r, u) = R) (fun u => q_E D (tyL k) A (wX6_X4 k a u)) A) args s 0 0 A) (F0 m 0 ls []) := by
  intro σ v2 v3 hs hR H locs ls hW hl
  rw [P_X6_readNumber_b0_e] at hR
  rw [S_X6_readNumber_b0_e] at hs
  obtain ⟨hx, hb, hr, hml, hts, hown, hlocks, hK, hA⟩ := id C0
  have hf22 := hts (.fieldLink RX6 22 "BeatFollower$Reader" "fault" "I") (by decide +kernel)
  have hf25 := hts (.fieldLink RX6 25 "BeatFollower$Reader" "place" "I") (by decide +kernel)
  have hinX6 : ∀ w ∈ u_ws RX6 TX6 7, w ∈ wsX6_readNumber := hin_X6_readNumber_X6
  refine lv_aload_n hx hb dX6_readNumber_0 rfl (lv_at hl 0 rfl) ?_
  refine va_get (v := .int (σ 0 3)) (C := RX6) (T := TX6) (N := 7) hx hb hts hinX6 hown hK hW.1 0 rfl rfl 3 (by decide) hf22 (fun _ h9 => h9) rfl dX6_readNumber_1 ?_
  refine lv_bipush (v := (-6 : Int32)) hx hb dX6_readNumber_4 (by decide) ?_
  refine lv_icmp_eq (tgt := 11) hx hb dX6_readNumber_6 (by decide) (fun c_1 => ?_) (fun c_1 => ?_)
  · have hs := hs.1 c_1
    rw [if_pos c_1] at hR
    refine lv_aload_n hx hb dX6_readNumber_11 rfl (lv_at hl 1 rfl) ?_
    refine lv_aload_n hx hb dX6_readNumber_12 rfl (lv_at hl 0 rfl) ?_
    refine va_get (v := .int (σ 0 4)) (C := RX6) (T := TX6) (N := 7) hx hb hts hinX6 hown hK hW.1 0 rfl rfl 4 (by decide) hf25 (fun _ h9 => h9) rfl dX6_readNumber_13 ?_
    have hs2 := hs.1
    have hs := hs.2
    refine q_Vi (As := [.int (σ 0 4)]) (rest := []) (R := P_X4_digitAt (fun j => σ (3 + j)) (σ 0 4)) [3, 4] [0, 1, 2, 3] 3 4 C0 hW (m_X4_digitAt l D k (fun j => a (3 + j)) _ (fun j => σ (3 + j)) (σ 0 4) hs2) (cwV 1 hts gX6_readNumber_X4_digitAt rfl rfl rfl hd_X4_digitAt ⟨Nat.le_of_ble_eq_true rfl, Nat.le_of_ble_eq_true rfl⟩) (by decide) (wX6_X4_X4_3_pl k a _) rfl rfl rfl hl rfl rfl (Nat.le_of_ble_eq_true rfl) dX6_readNumber_16 ⟨Nat.le_refl 0, Nat.le_refl 0⟩ ?_
    refine lv_istore (lv' := [(4, .int (P_X4_digitAt (fun j => σ (3 + j)) (σ 0 4))), (0, .ref (a 0)), (1, .ref (a 3)), (2, .int v2), (3, .int v3)]) hx hb dX6_readNumber_19 hl (by decide) rfl (fun ls hl => ?_)
    exact b_X6_readNumber_b21n l D k a A C0 R σ v2 v3 (P_X4_digitAt (fun j => σ (3 + j)) (σ 0 4)) hs hR H locs ls hW (lv_sub hl [1, 2, 3, 4, 0] rfl)
  · have hs := hs.2 c_1
    rw [if_neg c_1] at hR
    refine lv_iconst (v := (0 : Int32)) hx hb dX6_readNumber_9 (by decide) ?_
    exact q_iret C0 hW hR dX6_readNumber_10
set_option maxHeartbeats 400000 in
set_option maxRecDepth 100000 in
theorem m_X6_readNumber (l : Launch) (D : va_G) (k : Nat → ClassId) (a : Nat → Nat) (sz : Nat) (σ : T2) (p1 : Int32) (p2 : Int32) (hs : S_X6_readNumber σ p1 p2) : Met l yX6_readNumber wsX6_readNumber { frames := 2, cells := 0, slots := 0, locals := 43 } (va_Pc [.ref (a 0), .ref (a 3), .int p1, .int p2] (q_B D (tyL k) (wX6_X4 k a σ) sz)) (va_Qi (fun r u => (r, u) = P_X6_readNumber σ p1 p2) (fun u => q_E D (tyL k) (va_A (wX6_X4 k a σ) sz) (wX6_X4 k a u)) (va_A (wX6_X4 k a σ) sz)) 0 0 (va_A (wX6_X4 k a σ) sz) := by
  refine q_met [.ref (a 0), .ref (a 3), .int p1, .int p2] (wX6_X4 k a σ) sz (cc := cX6_readNumber) (maxL := 7) (ret := (some .int)) (by decide) rfl (Nat.le_of_ble_eq_true rfl) ?_
  intro p e s m args below meth c ls hsz C0 hW hl hin
  subst hsz
  exact b_X6_readNumber_b0 l D k a _ C0 _ σ p1 p2 hs rfl s.heap [] ls hW (lv_sub hl [0, 1, 2, 3] rfl)
theorem hin_X6_addBeats_X6 : ∀ w ∈ u_ws RX6 TX6 7, w ∈ wsX6_addBeats := by decide +kernel
theorem hd_X6_addBeats : yX6_addBeats.cls = RX6 ∧ yX6_addBeats.cls ≠ "java/lang/invoke/MethodHandle" ∧ yX6_addBeats.cls ≠ "java/lang/invoke/VarHandle" ∧ (parseMethodDescriptor yX6_addBeats.desc).map (fun d => d.parameters.length) = some 2 := by decide +kernel
noncomputable def P_X6_addBeats_b51 (pk2 : T2 → Int32 → Int32 → Int32 → T2) (σ : T2) (v1 : Int32) (v2 : Int32) (v3 : Int32) : T2 := pk2 (u2 σ 0 (upd (upd (upd (σ 0) 2 ((σ 0 2) + (1 : Int32))) 5 (0 : Int32)) 6 (0 : Int32))) v1 v2 (v3 + (1 : Int32))
def S_X6_addBeats_b51 (sk2 : T2 → Int32 → Int32 → Int32 → Prop) (σ : T2) (v1 : Int32) (v2 : Int32) (v3 : Int32) : Prop := sk2 (u2 σ 0 (upd (upd (upd (σ 0) 2 ((σ 0 2) + (1 : Int32))) 5 (0 : Int32)) 6 (0 : Int32))) v1 v2 (v3 + (1 : Int32))
theorem P_X6_addBeats_b51_e (pk2 : T2 → Int32 → Int32 → Int32 → T2) (σ : T2) (v1 : Int32) (v2 : Int32) (v3 : Int32) : P_X6_addBeats_b51 pk2 σ v1 v2 v3 = pk2 (u2 σ 0 (upd (upd (upd (σ 0) 2 ((σ 0 2) + (1 : Int32))) 5 (0 : Int32)) 6 (0 : Int32))) v1 v2 (v3 + (1 : Int32)) := rfl
theorem S_X6_addBeats_b51_e (sk2 : T2 → Int32 → Int32 → Int32 → Prop) (σ : T2) (v1 : Int32) (v2 : Int32) (v3 : Int32) : S_X6_addBeats_b51 sk2 σ v1 v2 v3 = (sk2 (u2 σ 0 (upd (upd (upd (σ 0) 2 ((σ 0 2) + (1 : Int32))) 5 (0 : Int32)) 6 (0 : Int32))) v1 v2 (v3 + (1 : Int32))) := rfl
noncomputable def P_X6_addBeats_b2 (n : Nat) : T2 → Int32 → Int32 → Int32 → T2 := Nat.rec (motive := fun _ => T2 → Int32 → Int32 → Int32 → T2) (fun _ _ _ _ => (fun _ _ => 0)) (fun _ pk2 => fun σ v1 v2 v3 => if v2 ≤ v3 then (σ) else (if (σ 0 2) < 0 then (P_X6_addBeats_b51 pk2 σ v1 v2 v3) else (if (64 : Int32) ≤ (σ 0 2) then (P_X6_addBeats_b51 pk2 σ v1 v2 v3) else (P_X6_addBeats_b51 pk2 (u2 (u2 σ 1 (upd (σ 1) ((σ 0 2).toNatClampNeg) (v1 + (σ 0 5)))) 2 (upd (σ 2) ((σ 0 2).toNatClampNeg) (σ 0 6))) v1 v2 v3)))) n
def S_X6_addBeats_b2 (n : Nat) : T2 → Int32 → Int32 → Int32 → Prop := Nat.rec (motive := fun _ => T2 → Int32 → Int32 → Int32 → Prop) (fun _ _ _ _ => False) (fun _ sk2 => fun σ v1 v2 v3 => (v2 ≤ v3 → (True)) ∧ (¬ (v2 ≤ v3) → (((σ 0 2) < 0 → (S_X6_addBeats_b51 sk2 σ v1 v2 v3)) ∧ (¬ ((σ 0 2) < 0) → (((64 : Int32) ≤ (σ 0 2) → (S_X6_addBeats_b51 sk2 σ v1 v2 v3)) ∧ (¬ ((64 : Int32) ≤ (σ 0 2)) → ((vp_in (σ 0 2) 64) ∧ ((vp_in (σ 0 2) 64) ∧ (S_X6_addBeats_b51 sk2 (u2 (u2 σ 1 (upd (σ 1) ((σ 0 2).toNatClampNeg) (v1 + (σ 0 5)))) 2 (upd (σ 2) ((σ 0 2).toNatClampNeg) (σ 0 6))) v1 v2 v3))))))))) n
theorem P_X6_addBeats_b2_e (n : Nat) (σ : T2) (v1 : Int32) (v2 : Int32) (v3 : Int32) : P_X6_addBeats_b2 (n + 1) σ v1 v2 v3 = if v2 ≤ v3 then (σ) else (if (σ 0 2) < 0 then (P_X6_addBeats_b51 (P_X6_addBeats_b2 n) σ v1 v2 v3) else (if (64 : Int32) ≤ (σ 0 2) then (P_X6_addBeats_b51 (P_X6_addBeats_b2 n) σ v1 v2 v3) else (P_X6_addBeats_b51 (P_X6_addBeats_b2 n) (u2 (u2 σ 1 (upd (σ 1) ((σ 0 2).toNatClampNeg) (v1 + (σ 0 5)))) 2 (upd (σ 2) ((σ 0 2).toNatClampNeg) (σ 0 6))) v1 v2 v3))) := rfl
theorem S_X6_addBeats_b2_e (n : Nat) (σ : T2) (v1 : Int32) (v2 : Int32) (v3 : Int32) : S_X6_addBeats_b2 (n + 1) σ v1 v2 v3 = ((v2 ≤ v3 → (True)) ∧ (¬ (v2 ≤ v3) → (((σ 0 2) < 0 → (S_X6_addBeats_b51 (S_X6_addBeats_b2 n) σ v1 v2 v3)) ∧ (¬ ((σ 0 2) < 0) → (((64 : Int32) ≤ (σ 0 2) → (S_X6_addBeats_b51 (S_X6_addBeats_b2 n) σ v1 v2 v3)) ∧ (¬ ((64 : Int32) ≤ (σ 0 2)) → ((vp_in (σ 0 2) 64) ∧ ((vp_in (σ 0 2) 64) ∧ (S_X6_addBeats_b51 (S_X6_addBeats_b2 n) (u2 (u2 σ 1 (upd (σ 1) ((σ 0 2).toNatClampNeg) (v1 + (σ 0 5)))) 2 (upd (σ 2) ((σ 0 2).toNatClampNeg) (σ 0 6))) v1 v2 v3))))))))) := rfl
noncomputable def P_X6_addBeats_b0 (σ : T2) (v1 : Int32) (v2 : Int32) : T2 := P_X6_addBeats_b2 FU σ v1 v2 (0 : Int32)
def S_X6_addBeats_b0 (σ : T2) (v1 : Int32) (v2 : Int32) : Prop := S_X6_addBeats_b2 FU σ v1 v2 (0 : Int32)
theorem P_X6_addBeats_b0_e (σ : T2) (v1 : Int32) (v2 : Int32) : P_X6_addBeats_b0 σ v1 v2 = P_X6_addBeats_b2 FU σ v1 v2 (0 : Int32) := rfl
theorem S_X6_addBeats_b0_e (σ : T2) (v1 : Int32) (v2 : Int32) : S_X6_addBeats_b0 σ v1 v2 = (S_X6_addBeats_b2 FU σ v1 v2 (0 : Int32)) := rfl
noncomputable def P_X6_addBeats (σ : T2) (p0 : Int32) (p1 : Int32) : T2 := P_X6_addBeats_b0 σ p0 p1
def S_X6_addBeats (σ : T2) (p0 : Int32) (p1 : Int32) : Prop := S_X6_addBeats_b0 σ p0 p1
set_option maxHeartbeats 400000 in
set_option maxRecDepth 100000 in
theorem b_X6_addBeats_b51 {p : Program} {e : Env} {s : State} {m : MethodId} {args : Array Value} {below : List Frame} {meth : Method} {c : Code} (l : Launch) (D : va_G) (k : Nat → ClassId) (a : Nat → Nat) (A : Nat → Prop) (C0 : q_C p s m meth c args RX6 cX6_addBeats 4 none wsX6_addBeats D (tyL k) A) (R : T2) (pk2 : T2 → Int32 → Int32 → Int32 → T2) (sk2 : T2 → Int32 → Int32 → Int32 → Prop) (hk2 : ∀ (σ : T2) (v1 : Int32) (v2 : Int32) (v3 : Int32), sk2 σ v1 v2 v3 → pk2 σ v1 v2 v3 = R → ∀ (H : Heap) (locs : List Loc) (ls : Array Slot), q_W D A s.heap (wX6 k a σ) H locs → lv_has ls 4 [(0, .ref (a 0)), (1, .int v1), (2, .int v2), (3, .int v3)] → W p l e { frames := 0, cells := 0, slots := 0, locals := 0 } s m args below meth c H locs 0 0 (MQ below (va_Qv (fun u => u = R) (fun u => q_E D (tyL k) A (wX6 k a u)) A) args s 0 0 A) (F0 m 2 ls [])) : ∀ (σ : T2) (v1 : Int32) (v2 : Int32) (v3 : Int32), S_X6_addBeats_b51 sk2 σ v1 v2 v3 → P_X6_addBeats_b51 pk2 σ v1 v2 v3 = R → ∀ (H : Heap) (locs : List Loc) (ls : Array Slot), q_W D A s.heap (wX6 k a σ) H locs → lv_has ls 4 [(0, .ref (a 0)), (1, .int v1), (2, .int v2), (3, .int v3)] → W p l e { frames := 0, cells := 0, slots := 0, locals := 0 } s m args below meth c H locs 0 0 (MQ below (va_Qv (fun u => u = R) (fun u => q_E D (tyL k) A (wX6 k a u)) A) args s 0 0 A) (F0 m 51 ls []) := by
  intro σ v1 v2 v3 hs hR H locs ls hW hl
  rw [P_X6_addBeats_b51_e] at hR
  rw [S_X6_addBeats_b51_e] at hs
  obtain ⟨hx, hb, hr, hml, hts, hown, hlocks, hK, hA⟩ := id C0
  have hf18 := hts (.fieldLink RX6 18 "BeatFollower$Reader" "many" "I") (by decide +kernel)
  have hf28 := hts (.fieldLink RX6 28 "BeatFollower$Reader" "laid" "I") (by decide +kernel)
  have hf31 := hts (.fieldLink RX6 31 "BeatFollower$Reader" "missed" "I") (by decide +kernel)
  have hinX6 : ∀ w ∈ u_ws RX6 TX6 7, w ∈ wsX6_addBeats := hin_X6_addBeats_X6
  refine lv_aload_n hx hb dX6_addBeats_51 rfl (lv_at hl 0 rfl) ?_
  refine lv_dup hx hb dX6_addBeats_52 rfl ?_
  refine va_get (v := .int (σ 0 2)) (C := RX6) (T := TX6) (N := 7) hx hb hts hinX6 hown hK hW.1 0 rfl rfl 2 (by decide) hf18 (fun _ h9 => h9) rfl dX6_addBeats_53 ?_
  refine lv_iconst (v := (1 : Int32)) hx hb dX6_addBeats_56 (by decide) ?_
  refine lv_iadd hx hb dX6_addBeats_57 ?_
  refine q_putf (ty := .int) (wd' := wX6 k a (u2 σ 0 (upd (σ 0) 2 ((σ 0 2) + (1 : Int32))))) C0 hW hinX6 tyX6 tyX6_ok nmX6 0 rfl rfl 2 (by decide) hf18 rfl (by decide +kernel) rfl rfl (Nat.le_of_ble_eq_true rfl) dX6_addBeats_58 (fX6_s2 _ _ _) (wX6_s0 k a _ _) (fun H locs hW => ?_)
  refine lv_aload_n hx hb dX6_addBeats_61 rfl (lv_at hl 0 rfl) ?_
  refine lv_iconst (v := (0 : Int32)) hx hb dX6_addBeats_62 (by decide) ?_
  refine q_putf (ty := .int) (wd' := wX6 k a (u2 σ 0 (upd (upd (σ 0) 2 ((σ 0 2) + (1 : Int32))) 5 (0 : Int32)))) C0 hW hinX6 tyX6 tyX6_ok nmX6 0 rfl rfl 5 (by decide) hf28 rfl (by decide +kernel) rfl rfl (Nat.le_of_ble_eq_true rfl) dX6_addBeats_63 (fX6_s5 _ _ _) ((wX6_s0 k a _ _).trans (congrArg (wX6 k a) (u2_same _ _ _ _))) (fun H locs hW => ?_)
  refine lv_aload_n hx hb dX6_addBeats_66 rfl (lv_at hl 0 rfl) ?_
  refine lv_iconst (v := (0 : Int32)) hx hb dX6_addBeats_67 (by decide) ?_
  refine q_putf (ty := .int) (wd' := wX6 k a (u2 σ 0 (upd (upd (upd (σ 0) 2 ((σ 0 2) + (1 : Int32))) 5 (0 : Int32)) 6 (0 : Int32)))) C0 hW hinX6 tyX6 tyX6_ok nmX6 0 rfl rfl 6 (by decide) hf31 rfl (by decide +kernel) rfl rfl (Nat.le_of_ble_eq_true rfl) dX6_addBeats_68 (fX6_s6 _ _ _) ((wX6_s0 k a _ _).trans (congrArg (wX6 k a) (u2_same _ _ _ _))) (fun H locs hW => ?_)
  refine lv_iinc (v := v3 + (1 : Int32)) (lv' := [(3, .int (v3 + (1 : Int32))), (0, .ref (a 0)), (1, .int v1), (2, .int v2)]) hx hb dX6_addBeats_71 hl (k := 3) rfl rfl (by decide) rfl (fun ls hl => ?_)
  refine lv_goto (tgt := 2) hx hb dX6_addBeats_74 (by decide) ?_
  exact hk2 (u2 σ 0 (upd (upd (upd (σ 0) 2 ((σ 0 2) + (1 : Int32))) 5 (0 : Int32)) 6 (0 : Int32))) v1 v2 (v3 + (1 : Int32)) hs hR H locs ls hW (lv_sub hl [1, 2, 3, 0] rfl)
set_option maxHeartbeats 400000 in
set_option maxRecDepth 100000 in
theorem b_X6_addBeats_b2 {p : Program} {e : Env} {s : State} {m : MethodId} {args : Array Value} {below : List Frame} {meth : Method} {c : Code} (l : Launch) (D : va_G) (k : Nat → ClassId) (a : Nat → Nat) (A : Nat → Prop) (C0 : q_C p s m meth c args RX6 cX6_addBeats 4 none wsX6_addBeats D (tyL k) A) (R : T2) : ∀ n : Nat, ∀ (σ : T2) (v1 : Int32) (v2 : Int32) (v3 : Int32), S_X6_addBeats_b2 n σ v1 v2 v3 → P_X6_addBeats_b2 n σ v1 v2 v3 = R → ∀ (H : Heap) (locs : List Loc) (ls : Array Slot), q_W D A s.heap (wX6 k a σ) H locs → lv_has ls 4 [(0, .ref (a 0)), (1, .int v1), (2, .int v2), (3, .int v3)] → W p l e { frames := 0, cells := 0, slots := 0, locals := 0 } s m args below meth c H locs 0 0 (MQ below (va_Qv (fun u => u = R) (fun u => q_E D (tyL k) A (wX6 k a u)) A) args s 0 0 A) (F0 m 2 ls []) := by
  intro n
  induction n with
  | zero => intro σ v1 v2 v3 hs; exact False.elim hs
  | succ n ih =>
    intro σ v1 v2 v3 hs hR H locs ls hW hl
    rw [P_X6_addBeats_b2_e] at hR
    rw [S_X6_addBeats_b2_e] at hs
    obtain ⟨hx, hb, hr, hml, hts, hown, hlocks, hK, hA⟩ := id C0
    have hf9 := hts (.fieldLink RX6 9 "BeatFollower$Reader" "gaps" "[I") (by decide +kernel)
    have hf15 := hts (.fieldLink RX6 15 "BeatFollower$Reader" "misses" "[I") (by decide +kernel)
    have hf18 := hts (.fieldLink RX6 18 "BeatFollower$Reader" "many" "I") (by decide +kernel)
    have hf28 := hts (.fieldLink RX6 28 "BeatFollower$Reader" "laid" "I") (by decide +kernel)
    have hf31 := hts (.fieldLink RX6 31 "BeatFollower$Reader" "missed" "I") (by decide +kernel)
    have hinX6 : ∀ w ∈ u_ws RX6 TX6 7, w ∈ wsX6_addBeats := hin_X6_addBeats_X6
    refine lv_iload_n hx hb dX6_addBeats_2 rfl (lv_at hl 3 rfl) ?_
    refine lv_iload_n hx hb dX6_addBeats_3 rfl (lv_at hl 2 rfl) ?_
    refine lv_icmp_ge (tgt := 77) hx hb dX6_addBeats_4 (by decide) (fun c_1 => ?_) (fun c_1 => ?_)
    · have hs := hs.1 c_1
      rw [if_pos c_1] at hR
      exact q_vret C0 hW hR dX6_addBeats_77
    · have hs := hs.2 c_1
      rw [if_neg c_1] at hR
      refine lv_aload_n hx hb dX6_addBeats_7 rfl (lv_at hl 0 rfl) ?_
      refine va_get (v := .int (σ 0 2)) (C := RX6) (T := TX6) (N := 7) hx hb hts hinX6 hown hK hW.1 0 rfl rfl 2 (by decide) hf18 (fun _ h9 => h9) rfl dX6_addBeats_8 ?_
      refine lv_if_lt (tgt := 51) hx hb dX6_addBeats_11 (by decide) (fun c_2 => ?_) (fun c_2 => ?_)
      · have hs := hs.1 c_2
        rw [if_pos c_2] at hR
        exact b_X6_addBeats_b51 l D k a A C0 R _ _ ih σ v1 v2 v3 hs hR H locs ls hW (lv_sub hl [0, 1, 2, 3] rfl)
      · have hs := hs.2 c_2
        rw [if_neg c_2] at hR
        refine lv_aload_n hx hb dX6_addBeats_14 rfl (lv_at hl 0 rfl) ?_
        refine va_get (v := .int (σ 0 2)) (C := RX6) (T := TX6) (N := 7) hx hb hts hinX6 hown hK hW.1 0 rfl rfl 2 (by decide) hf18 (fun _ h9 => h9) rfl dX6_addBeats_15 ?_
        refine lv_bipush (v := (64 : Int32)) hx hb dX6_addBeats_18 (by decide) ?_
        refine lv_icmp_ge (tgt := 51) hx hb dX6_addBeats_20 (by decide) (fun c_3 => ?_) (fun c_3 => ?_)
        · have hs := hs.1 c_3
          rw [if_pos c_3] at hR
          exact b_X6_addBeats_b51 l D k a A C0 R _ _ ih σ v1 v2 v3 hs hR H locs ls hW (lv_sub hl [0, 1, 2, 3] rfl)
        · have hs := hs.2 c_3
          rw [if_neg c_3] at hR
          refine lv_aload_n hx hb dX6_addBeats_23 rfl (lv_at hl 0 rfl) ?_
          refine va_get (v := .ref (a 1)) (C := RX6) (T := TX6) (N := 7) hx hb hts hinX6 hown hK hW.1 0 rfl rfl 0 (by decide) hf9 (fun _ h9 => h9) rfl dX6_addBeats_24 ?_
          refine lv_aload_n hx hb dX6_addBeats_27 rfl (lv_at hl 0 rfl) ?_
          refine va_get (v := .int (σ 0 2)) (C := RX6) (T := TX6) (N := 7) hx hb hts hinX6 hown hK hW.1 0 rfl rfl 2 (by decide) hf18 (fun _ h9 => h9) rfl dX6_addBeats_28 ?_
          refine lv_iload_n hx hb dX6_addBeats_31 rfl (lv_at hl 1 rfl) ?_
          refine lv_aload_n hx hb dX6_addBeats_32 rfl (lv_at hl 0 rfl) ?_
          refine va_get (v := .int (σ 0 5)) (C := RX6) (T := TX6) (N := 7) hx hb hts hinX6 hown hK hW.1 0 rfl rfl 5 (by decide) hf28 (fun _ h9 => h9) rfl dX6_addBeats_33 ?_
          refine lv_iadd hx hb dX6_addBeats_36 ?_
          have hi4 := hs.1
          have hs := hs.2
          refine q_iast (f := σ 1) (wd' := wX6 k a (u2 σ 1 (upd (σ 1) ((σ 0 2).toNatClampNeg) (v1 + (σ 0 5))))) C0 hW 1 rfl rfl hi4 rfl dX6_addBeats_37 (wX6_s1 k a _ _) (fun H locs hW => ?_)
          refine lv_aload_n hx hb dX6_addBeats_38 rfl (lv_at hl 0 rfl) ?_
          refine va_get (v := .ref (a 2)) (C := RX6) (T := TX6) (N := 7) hx hb hts hinX6 hown hK hW.1 0 rfl rfl 1 (by decide) hf15 (fun _ h9 => h9) rfl dX6_addBeats_39 ?_
          refine lv_aload_n hx hb dX6_addBeats_42 rfl (lv_at hl 0 rfl) ?_
          refine va_get (v := .int (σ 0 2)) (C := RX6) (T := TX6) (N := 7) hx hb hts hinX6 hown hK hW.1 0 rfl rfl 2 (by decide) hf18 (fun _ h9 => h9) rfl dX6_addBeats_43 ?_
          refine lv_aload_n hx hb dX6_addBeats_46 rfl (lv_at hl 0 rfl) ?_
          refine va_get (v := .int (σ 0 6)) (C := RX6) (T := TX6) (N := 7) hx hb hts hinX6 hown hK hW.1 0 rfl rfl 6 (by decide) hf31 (fun _ h9 => h9) rfl dX6_addBeats_47 ?_
          have hi5 := hs.1
          have hs := hs.2
          refine q_iast (f := σ 2) (wd' := wX6 k a (u2 (u2 σ 1 (upd (σ 1) ((σ 0 2).toNatClampNeg) (v1 + (σ 0 5)))) 2 (upd (σ 2) ((σ 0 2).toNatClampNeg) (σ 0 6)))) C0 hW 2 rfl rfl hi5 rfl dX6_addBeats_50 (wX6_s2 k a _ _) (fun H locs hW => ?_)
          exact b_X6_addBeats_b51 l D k a A C0 R _ _ ih (u2 (u2 σ 1 (upd (σ 1) ((σ 0 2).toNatClampNeg) (v1 + (σ 0 5)))) 2 (upd (σ 2) ((σ 0 2).toNatClampNeg) (σ 0 6))) v1 v2 v3 hs hR H locs ls hW (lv_sub hl [0, 1, 2, 3] rfl)
set_option maxHeartbeats 400000 in
set_option maxRecDepth 100000 in
theorem b_X6_addBeats_b0 {p : Program} {e : Env} {s : State} {m : MethodId} {args : Array Value} {below : List Frame} {meth : Method} {c : Code} (l : Launch) (D : va_G) (k : Nat → ClassId) (a : Nat → Nat) (A : Nat → Prop) (C0 : q_C p s m meth c args RX6 cX6_addBeats 4 none wsX6_addBeats D (tyL k) A) (R : T2) : ∀ (σ : T2) (v1 : Int32) (v2 : Int32), S_X6_addBeats_b0 σ v1 v2 → P_X6_addBeats_b0 σ v1 v2 = R → ∀ (H : Heap) (locs : List Loc) (ls : Array Slot), q_W D A s.heap (wX6 k a σ) H locs → lv_has ls 4 [(0, .ref (a 0)), (1, .int v1), (2, .int v2)] → W p l e { frames := 0, cells := 0, slots := 0, locals := 0 } s m args below meth c H locs 0 0 (MQ below (va_Qv (fun u => u = R) (fun u => q_E D (tyL k) A (wX6 k a u)) A) args s 0 0 A) (F0 m 0 ls []) := by
  intro σ v1 v2 hs hR H locs ls hW hl
  rw [P_X6_addBeats_b0_e] at hR
  rw [S_X6_addBeats_b0_e] at hs
  obtain ⟨hx, hb, hr, hml, hts, hown, hlocks, hK, hA⟩ := id C0
  refine lv_iconst (v := (0 : Int32)) hx hb dX6_addBeats_0 (by decide) ?_
  refine lv_istore_n (lv' := [(3, .int (0 : Int32)), (0, .ref (a 0)), (1, .int v1), (2, .int v2)]) hx hb dX6_addBeats_1 rfl hl (by decide) rfl (fun ls hl => ?_)
  exact b_X6_addBeats_b2 l D k a A C0 R FU σ v1 v2 (0 : Int32) hs hR H locs ls hW (lv_sub hl [1, 2, 3, 0] rfl)
set_option maxHeartbeats 400000 in
set_option maxRecDepth 100000 in
theorem m_X6_addBeats (l : Launch) (D : va_G) (k : Nat → ClassId) (a : Nat → Nat) (sz : Nat) (σ : T2) (p0 : Int32) (p1 : Int32) (hs : S_X6_addBeats σ p0 p1) : Met l yX6_addBeats wsX6_addBeats { frames := 0, cells := 0, slots := 0, locals := 0 } (va_Pc [.ref (a 0), .int p0, .int p1] (q_B D (tyL k) (wX6 k a σ) sz)) (va_Qv (fun u => u = P_X6_addBeats σ p0 p1) (fun u => q_E D (tyL k) (va_A (wX6 k a σ) sz) (wX6 k a u)) (va_A (wX6 k a σ) sz)) 0 0 (va_A (wX6 k a σ) sz) := by
  refine q_met [.ref (a 0), .int p0, .int p1] (wX6 k a σ) sz (cc := cX6_addBeats) (maxL := 4) (ret := none) (by decide) rfl (Nat.le_of_ble_eq_true rfl) ?_
  intro p e s m args below meth c ls hsz C0 hW hl hin
  subst hsz
  exact b_X6_addBeats_b0 l D k a _ C0 _ σ p0 p1 hs rfl s.heap [] ls hW (lv_sub hl [0, 1, 2] rfl)
theorem hin_X6_readBeats_X6 : ∀ w ∈ u_ws RX6 TX6 7, w ∈ wsX6_readBeats := by decide +kernel
theorem hd_X6_readBeats : yX6_readBeats.cls = RX6 ∧ yX6_readBeats.cls ≠ "java/lang/invoke/MethodHandle" ∧ yX6_readBeats.cls ≠ "java/lang/invoke/VarHandle" ∧ (parseMethodDescriptor yX6_readBeats.desc).map (fun d => d.parameters.length) = some 1 := by decide +kernel
noncomputable def P_X6_readBeats_b68c (pk16 : T2 → Int32 → T2) (σ : T2) (v2 : Int32) : T2 := pk16 σ (v2 + (1 : Int32))
def S_X6_readBeats_b68c (sk16 : T2 → Int32 → Prop) (σ : T2) (v2 : Int32) : Prop := sk16 σ (v2 + (1 : Int32))
theorem P_X6_readBeats_b68c_e (pk16 : T2 → Int32 → T2) (σ : T2) (v2 : Int32) : P_X6_readBeats_b68c pk16 σ v2 = pk16 σ (v2 + (1 : Int32)) := rfl
theorem S_X6_readBeats_b68c_e (sk16 : T2 → Int32 → Prop) (σ : T2) (v2 : Int32) : S_X6_readBeats_b68c sk16 σ v2 = (sk16 σ (v2 + (1 : Int32))) := rfl
noncomputable def P_X6_readBeats_b64c (pk16 : T2 → Int32 → T2) (σ : T2) (v2 : Int32) (t0 : Int32) : T2 := P_X6_readBeats_b68c pk16 (sb σ 0 3 (P_X6_addBeats σ t0 (1 : Int32))) v2
def S_X6_readBeats_b64c (sk16 : T2 → Int32 → Prop) (σ : T2) (v2 : Int32) (t0 : Int32) : Prop := (S_X6_addBeats σ t0 (1 : Int32)) ∧ (S_X6_readBeats_b68c sk16 (sb σ 0 3 (P_X6_addBeats σ t0 (1 : Int32))) v2)
theorem P_X6_readBeats_b64c_e (pk16 : T2 → Int32 → T2) (σ : T2) (v2 : Int32) (t0 : Int32) : P_X6_readBeats_b64c pk16 σ v2 t0 = P_X6_readBeats_b68c pk16 (sb σ 0 3 (P_X6_addBeats σ t0 (1 : Int32))) v2 := rfl
theorem S_X6_readBeats_b64c_e (sk16 : T2 → Int32 → Prop) (σ : T2) (v2 : Int32) (t0 : Int32) : S_X6_readBeats_b64c sk16 σ v2 t0 = ((S_X6_addBeats σ t0 (1 : Int32)) ∧ (S_X6_readBeats_b68c sk16 (sb σ 0 3 (P_X6_addBeats σ t0 (1 : Int32))) v2)) := rfl
noncomputable def P_X6_readBeats_b16 (n : Nat) : T2 → Int32 → T2 := Nat.rec (motive := fun _ => T2 → Int32 → T2) (fun _ _ => (fun _ _ => 0)) (fun _ pk16 => fun σ v2 => if (80 : Int32) ≤ v2 then (σ) else (if (σ 0 3) = (-6 : Int32) then (if (P_X4_signAt (fun j => σ (3 + j)) (σ 0 4)) = (44 : Int32) then (P_X6_readBeats_b64c pk16 ((P_X6_readNumber (u2 σ 0 (upd (σ 0) 4 ((σ 0 4) + (1 : Int32)))) (1 : Int32) (999 : Int32)).2) v2 ((P_X6_readNumber (u2 σ 0 (upd (σ 0) 4 ((σ 0 4) + (1 : Int32)))) (1 : Int32) (999 : Int32)).1)) else (σ)) else (σ))) n
def S_X6_readBeats_b16 (n : Nat) : T2 → Int32 → Prop := Nat.rec (motive := fun _ => T2 → Int32 → Prop) (fun _ _ => False) (fun _ sk16 => fun σ v2 => ((80 : Int32) ≤ v2 → (True)) ∧ (¬ ((80 : Int32) ≤ v2) → (((σ 0 3) = (-6 : Int32) → ((S_X4_signAt (fun j => σ (3 + j)) (σ 0 4)) ∧ (((P_X4_signAt (fun j => σ (3 + j)) (σ 0 4)) = (44 : Int32) → ((S_X6_readNumber (u2 σ 0 (upd (σ 0) 4 ((σ 0 4) + (1 : Int32)))) (1 : Int32) (999 : Int32)) ∧ (S_X6_readBeats_b64c sk16 ((P_X6_readNumber (u2 σ 0 (upd (σ 0) 4 ((σ 0 4) + (1 : Int32)))) (1 : Int32) (999 : Int32)).2) v2 ((P_X6_readNumber (u2 σ 0 (upd (σ 0) 4 ((σ 0 4) + (1 : Int32)))) (1 : Int32) (999 : Int32)).1)))) ∧ (¬ ((P_X4_signAt (fun j => σ (3 + j)) (σ 0 4)) = (44 : Int32)) → (True))))) ∧ (¬ ((σ 0 3) = (-6 : Int32)) → (True))))) n
theorem P_X6_readBeats_b16_e (n : Nat) (σ : T2) (v2 : Int32) : P_X6_readBeats_b16 (n + 1) σ v2 = if (80 : Int32) ≤ v2 then (σ) else (if (σ 0 3) = (-6 : Int32) then (if (P_X4_signAt (fun j => σ (3 + j)) (σ 0 4)) = (44 : Int32) then (P_X6_readBeats_b64c (P_X6_readBeats_b16 n) ((P_X6_readNumber (u2 σ 0 (upd (σ 0) 4 ((σ 0 4) + (1 : Int32)))) (1 : Int32) (999 : Int32)).2) v2 ((P_X6_readNumber (u2 σ 0 (upd (σ 0) 4 ((σ 0 4) + (1 : Int32)))) (1 : Int32) (999 : Int32)).1)) else (σ)) else (σ)) := rfl
theorem S_X6_readBeats_b16_e (n : Nat) (σ : T2) (v2 : Int32) : S_X6_readBeats_b16 (n + 1) σ v2 = (((80 : Int32) ≤ v2 → (True)) ∧ (¬ ((80 : Int32) ≤ v2) → (((σ 0 3) = (-6 : Int32) → ((S_X4_signAt (fun j => σ (3 + j)) (σ 0 4)) ∧ (((P_X4_signAt (fun j => σ (3 + j)) (σ 0 4)) = (44 : Int32) → ((S_X6_readNumber (u2 σ 0 (upd (σ 0) 4 ((σ 0 4) + (1 : Int32)))) (1 : Int32) (999 : Int32)) ∧ (S_X6_readBeats_b64c (S_X6_readBeats_b16 n) ((P_X6_readNumber (u2 σ 0 (upd (σ 0) 4 ((σ 0 4) + (1 : Int32)))) (1 : Int32) (999 : Int32)).2) v2 ((P_X6_readNumber (u2 σ 0 (upd (σ 0) 4 ((σ 0 4) + (1 : Int32)))) (1 : Int32) (999 : Int32)).1)))) ∧ (¬ ((P_X4_signAt (fun j => σ (3 + j)) (σ 0 4)) = (44 : Int32)) → (True))))) ∧ (¬ ((σ 0 3) = (-6 : Int32)) → (True))))) := rfl
noncomputable def P_X6_readBeats_b14c (σ : T2) : T2 := P_X6_readBeats_b16 FU σ (0 : Int32)
def S_X6_readBeats_b14c (σ : T2) : Prop := S_X6_readBeats_b16 FU σ (0 : Int32)
theorem P_X6_readBeats_b14c_e (σ : T2) : P_X6_readBeats_b14c σ = P_X6_readBeats_b16 FU σ (0 : Int32) := rfl
theorem S_X6_readBeats_b14c_e (σ : T2) : S_X6_readBeats_b14c σ = (S_X6_readBeats_b16 FU σ (0 : Int32)) := rfl
noncomputable def P_X6_readBeats_b10c (σ : T2) (t0 : Int32) : T2 := P_X6_readBeats_b14c (sb σ 0 3 (P_X6_addBeats σ t0 (1 : Int32)))
def S_X6_readBeats_b10c (σ : T2) (t0 : Int32) : Prop := (S_X6_addBeats σ t0 (1 : Int32)) ∧ (S_X6_readBeats_b14c (sb σ 0 3 (P_X6_addBeats σ t0 (1 : Int32))))
theorem P_X6_readBeats_b10c_e (σ : T2) (t0 : Int32) : P_X6_readBeats_b10c σ t0 = P_X6_readBeats_b14c (sb σ 0 3 (P_X6_addBeats σ t0 (1 : Int32))) := rfl
theorem S_X6_readBeats_b10c_e (σ : T2) (t0 : Int32) : S_X6_readBeats_b10c σ t0 = ((S_X6_addBeats σ t0 (1 : Int32)) ∧ (S_X6_readBeats_b14c (sb σ 0 3 (P_X6_addBeats σ t0 (1 : Int32))))) := rfl
noncomputable def P_X6_readBeats_b0 (σ : T2) : T2 := P_X6_readBeats_b10c ((P_X6_readNumber σ (1 : Int32) (999 : Int32)).2) ((P_X6_readNumber σ (1 : Int32) (999 : Int32)).1)
def S_X6_readBeats_b0 (σ : T2) : Prop := (S_X6_readNumber σ (1 : Int32) (999 : Int32)) ∧ (S_X6_readBeats_b10c ((P_X6_readNumber σ (1 : Int32) (999 : Int32)).2) ((P_X6_readNumber σ (1 : Int32) (999 : Int32)).1))
theorem P_X6_readBeats_b0_e (σ : T2) : P_X6_readBeats_b0 σ = P_X6_readBeats_b10c ((P_X6_readNumber σ (1 : Int32) (999 : Int32)).2) ((P_X6_readNumber σ (1 : Int32) (999 : Int32)).1) := rfl
theorem S_X6_readBeats_b0_e (σ : T2) : S_X6_readBeats_b0 σ = ((S_X6_readNumber σ (1 : Int32) (999 : Int32)) ∧ (S_X6_readBeats_b10c ((P_X6_readNumber σ (1 : Int32) (999 : Int32)).2) ((P_X6_readNumber σ (1 : Int32) (999 : Int32)).1))) := rfl
noncomputable def P_X6_readBeats (σ : T2) : T2 := P_X6_readBeats_b0 σ
def S_X6_readBeats (σ : T2) : Prop := S_X6_readBeats_b0 σ
set_option maxHeartbeats 400000 in
set_option maxRecDepth 100000 in
theorem b_X6_readBeats_b68c {p : Program} {e : Env} {s : State} {m : MethodId} {args : Array Value} {below : List Frame} {meth : Method} {c : Code} (l : Launch) (D : va_G) (k : Nat → ClassId) (a : Nat → Nat) (A : Nat → Prop) (C0 : q_C p s m meth c args RX6 cX6_readBeats 3 none wsX6_readBeats D (tyL k) A) (R : T2) (pk16 : T2 → Int32 → T2) (sk16 : T2 → Int32 → Prop) (hk16 : ∀ (σ : T2) (v2 : Int32), sk16 σ v2 → pk16 σ v2 = R → ∀ (H : Heap) (locs : List Loc) (ls : Array Slot), q_W D A s.heap (wX6_X4 k a σ) H locs → lv_has ls 3 [(0, .ref (a 0)), (1, .ref (a 3)), (2, .int v2)] → W p l e { frames := 3, cells := 0, slots := 0, locals := 69 } s m args below meth c H locs 0 0 (MQ below (va_Qv (fun u => u = R) (fun u => q_E D (tyL k) A (wX6_X4 k a u)) A) args s 0 0 A) (F0 m 16 ls [])) : ∀ (σ : T2) (v2 : Int32), S_X6_readBeats_b68c sk16 σ v2 → P_X6_readBeats_b68c pk16 σ v2 = R → ∀ (H : Heap) (locs : List Loc) (ls : Array Slot), q_W D A s.heap (wX6_X4 k a σ) H locs → lv_has ls 3 [(0, .ref (a 0)), (1, .ref (a 3)), (2, .int v2)] → W p l e { frames := 3, cells := 0, slots := 0, locals := 69 } s m args below meth c H locs 0 0 (MQ below (va_Qv (fun u => u = R) (fun u => q_E D (tyL k) A (wX6_X4 k a u)) A) args s 0 0 A) (F0 m 68 ls []) := by
  intro σ v2 hs hR H locs ls hW hl
  rw [P_X6_readBeats_b68c_e] at hR
  rw [S_X6_readBeats_b68c_e] at hs
  obtain ⟨hx, hb, hr, hml, hts, hown, hlocks, hK, hA⟩ := id C0
  refine lv_iinc (v := v2 + (1 : Int32)) (lv' := [(2, .int (v2 + (1 : Int32))), (0, .ref (a 0)), (1, .ref (a 3))]) hx hb dX6_readBeats_68 hl (k := 2) rfl rfl (by decide) rfl (fun ls hl => ?_)
  refine lv_goto (tgt := 16) hx hb dX6_readBeats_71 (by decide) ?_
  exact hk16 σ (v2 + (1 : Int32)) hs hR H locs ls hW (lv_sub hl [1, 2, 0] rfl)
set_option maxHeartbeats 400000 in
set_option maxRecDepth 100000 in
theorem b_X6_readBeats_b64c {p : Program} {e : Env} {s : State} {m : MethodId} {args : Array Value} {below : List Frame} {meth : Method} {c : Code} (l : Launch) (D : va_G) (k : Nat → ClassId) (a : Nat → Nat) (A : Nat → Prop) (C0 : q_C p s m meth c args RX6 cX6_readBeats 3 none wsX6_readBeats D (tyL k) A) (R : T2) (pk16 : T2 → Int32 → T2) (sk16 : T2 → Int32 → Prop) (hk16 : ∀ (σ : T2) (v2 : Int32), sk16 σ v2 → pk16 σ v2 = R → ∀ (H : Heap) (locs : List Loc) (ls : Array Slot), q_W D A s.heap (wX6_X4 k a σ) H locs → lv_has ls 3 [(0, .ref (a 0)), (1, .ref (a 3)), (2, .int v2)] → W p l e { frames := 3, cells := 0, slots := 0, locals := 69 } s m args below meth c H locs 0 0 (MQ below (va_Qv (fun u => u = R) (fun u => q_E D (tyL k) A (wX6_X4 k a u)) A) args s 0 0 A) (F0 m 16 ls [])) : ∀ (σ : T2) (v2 : Int32) (t0 : Int32), S_X6_readBeats_b64c sk16 σ v2 t0 → P_X6_readBeats_b64c pk16 σ v2 t0 = R → ∀ (H : Heap) (locs : List Loc) (ls : Array Slot), q_W D A s.heap (wX6_X4 k a σ) H locs → lv_has ls 3 [(0, .ref (a 0)), (1, .ref (a 3)), (2, .int v2)] → W p l e { frames := 3, cells := 0, slots := 0, locals := 69 } s m args below meth c H locs 0 0 (MQ below (va_Qv (fun u => u = R) (fun u => q_E D (tyL k) A (wX6_X4 k a u)) A) args s 0 0 A) (F0 m 64 ls [.int t0, .ref (a 0)]) := by
  intro σ v2 t0 hs hR H locs ls hW hl
  rw [P_X6_readBeats_b64c_e] at hR
  rw [S_X6_readBeats_b64c_e] at hs
  obtain ⟨hx, hb, hr, hml, hts, hown, hlocks, hK, hA⟩ := id C0
  refine lv_iconst (v := (1 : Int32)) hx hb dX6_readBeats_64 (by decide) ?_
  have hs8 := hs.1
  have hs := hs.2
  refine q_Vv (As := [.int t0, .int (1 : Int32)]) (rest := []) (wf := wX6 k a) (R := P_X6_addBeats σ t0 (1 : Int32)) (wd' := wX6_X4 k a (sb σ 0 3 (P_X6_addBeats σ t0 (1 : Int32)))) [0, 1, 2] [0, 1, 2, 3] 0 6 C0 hW (m_X6_addBeats l D k a H.size σ t0 (1 : Int32) hs8) (cwV 2 hts gX6_readBeats_X6_addBeats rfl rfl rfl hd_X6_addBeats ⟨Nat.le_of_ble_eq_true rfl, Nat.le_of_ble_eq_true rfl⟩) (by decide) (wX6_X4_X6_0_pl k a _) rfl rfl rfl (wX6_fst k _ _ _) (wX6_X4_X6_0_pt k a _ _) hl rfl rfl (Nat.le_of_ble_eq_true rfl) dX6_readBeats_65 ⟨Nat.le_refl 0, Nat.le_refl 0⟩ (fun H locs hW => ?_)
  exact b_X6_readBeats_b68c l D k a A C0 R pk16 sk16 hk16 (sb σ 0 3 (P_X6_addBeats σ t0 (1 : Int32))) v2 hs hR H locs ls hW (lv_sub hl [0, 1, 2] rfl)
set_option maxHeartbeats 400000 in
set_option maxRecDepth 100000 in
theorem b_X6_readBeats_b16 {p : Program} {e : Env} {s : State} {m : MethodId} {args : Array Value} {below : List Frame} {meth : Method} {c : Code} (l : Launch) (D : va_G) (k : Nat → ClassId) (a : Nat → Nat) (A : Nat → Prop) (C0 : q_C p s m meth c args RX6 cX6_readBeats 3 none wsX6_readBeats D (tyL k) A) (R : T2) : ∀ n : Nat, ∀ (σ : T2) (v2 : Int32), S_X6_readBeats_b16 n σ v2 → P_X6_readBeats_b16 n σ v2 = R → ∀ (H : Heap) (locs : List Loc) (ls : Array Slot), q_W D A s.heap (wX6_X4 k a σ) H locs → lv_has ls 3 [(0, .ref (a 0)), (1, .ref (a 3)), (2, .int v2)] → W p l e { frames := 3, cells := 0, slots := 0, locals := 69 } s m args below meth c H locs 0 0 (MQ below (va_Qv (fun u => u = R) (fun u => q_E D (tyL k) A (wX6_X4 k a u)) A) args s 0 0 A) (F0 m 16 ls []) := by
  intro n
  induction n with
  | zero => intro σ v2 hs; exact False.elim hs
  | succ n ih =>
    intro σ v2 hs hR H locs ls hW hl
    rw [P_X6_readBeats_b16_e] at hR
    rw [S_X6_readBeats_b16_e] at hs
    obtain ⟨hx, hb, hr, hml, hts, hown, hlocks, hK, hA⟩ := id C0
    have hf22 := hts (.fieldLink RX6 22 "BeatFollower$Reader" "fault" "I") (by decide +kernel)
    have hf25 := hts (.fieldLink RX6 25 "BeatFollower$Reader" "place" "I") (by decide +kernel)
    have hinX6 : ∀ w ∈ u_ws RX6 TX6 7, w ∈ wsX6_readBeats := hin_X6_readBeats_X6
    refine lv_iload_n hx hb dX6_readBeats_16 rfl (lv_at hl 2 rfl) ?_
    refine lv_bipush (v := (80 : Int32)) hx hb dX6_readBeats_17 (by decide) ?_
    refine lv_icmp_ge (tgt := 74) hx hb dX6_readBeats_19 (by decide) (fun c_3 => ?_) (fun c_3 => ?_)
    · have hs := hs.1 c_3
      rw [if_pos c_3] at hR
      exact q_vret C0 hW hR dX6_readBeats_74
    · have hs := hs.2 c_3
      rw [if_neg c_3] at hR
      refine lv_aload_n hx hb dX6_readBeats_22 rfl (lv_at hl 0 rfl) ?_
      refine va_get (v := .int (σ 0 3)) (C := RX6) (T := TX6) (N := 7) hx hb hts hinX6 hown hK hW.1 0 rfl rfl 3 (by decide) hf22 (fun _ h9 => h9) rfl dX6_readBeats_23 ?_
      refine lv_bipush (v := (-6 : Int32)) hx hb dX6_readBeats_26 (by decide) ?_
      refine lv_icmp_ne (tgt := 74) hx hb dX6_readBeats_28 (by decide) (fun c_4 => ?_) (fun c_4 => ?_)
      · have hs := hs.2 c_4
        rw [if_neg c_4] at hR
        exact q_vret C0 hW hR dX6_readBeats_74
      · have hs := hs.1 c_4
        rw [if_pos c_4] at hR
        refine lv_aload_n hx hb dX6_readBeats_31 rfl (lv_at hl 1 rfl) ?_
        refine lv_aload_n hx hb dX6_readBeats_32 rfl (lv_at hl 0 rfl) ?_
        refine va_get (v := .int (σ 0 4)) (C := RX6) (T := TX6) (N := 7) hx hb hts hinX6 hown hK hW.1 0 rfl rfl 4 (by decide) hf25 (fun _ h9 => h9) rfl dX6_readBeats_33 ?_
        have hs5 := hs.1
        have hs := hs.2
        refine q_Vi (As := [.int (σ 0 4)]) (rest := []) (R := P_X4_signAt (fun j => σ (3 + j)) (σ 0 4)) [3, 4] [0, 1, 2, 3] 3 4 C0 hW (m_X4_signAt l D k (fun j => a (3 + j)) _ (fun j => σ (3 + j)) (σ 0 4) hs5) (cwV 1 hts gX6_readBeats_X4_signAt rfl rfl rfl hd_X4_signAt ⟨Nat.le_of_ble_eq_true rfl, Nat.le_of_ble_eq_true rfl⟩) (by decide) (wX6_X4_X4_3_pl k a _) rfl rfl rfl hl rfl rfl (Nat.le_of_ble_eq_true rfl) dX6_readBeats_36 ⟨Nat.le_refl 0, Nat.le_refl 0⟩ ?_
        refine lv_bipush (v := (44 : Int32)) hx hb dX6_readBeats_39 (by decide) ?_
        refine lv_icmp_ne (tgt := 74) hx hb dX6_readBeats_41 (by decide) (fun c_6 => ?_) (fun c_6 => ?_)
        · have hs := hs.2 c_6
          rw [if_neg c_6] at hR
          exact q_vret C0 hW hR dX6_readBeats_74
        · have hs := hs.1 c_6
          rw [if_pos c_6] at hR
          refine lv_aload_n hx hb dX6_readBeats_44 rfl (lv_at hl 0 rfl) ?_
          refine lv_dup hx hb dX6_readBeats_45 rfl ?_
          refine va_get (v := .int (σ 0 4)) (C := RX6) (T := TX6) (N := 7) hx hb hts hinX6 hown hK hW.1 0 rfl rfl 4 (by decide) hf25 (fun _ h9 => h9) rfl dX6_readBeats_46 ?_
          refine lv_iconst (v := (1 : Int32)) hx hb dX6_readBeats_49 (by decide) ?_
          refine lv_iadd hx hb dX6_readBeats_50 ?_
          refine q_putf (ty := .int) (wd' := wX6_X4 k a (u2 σ 0 (upd (σ 0) 4 ((σ 0 4) + (1 : Int32))))) C0 hW hinX6 tyX6 tyX6_ok nmX6 0 rfl rfl 4 (by decide) hf25 rfl (by decide +kernel) rfl rfl (Nat.le_of_ble_eq_true rfl) dX6_readBeats_51 (fX6_s4 _ _ _) (wX6_X4_s0 k a _ _) (fun H locs hW => ?_)
          refine lv_aload_n hx hb dX6_readBeats_54 rfl (lv_at hl 0 rfl) ?_
          refine lv_aload_n hx hb dX6_readBeats_55 rfl (lv_at hl 0 rfl) ?_
          refine lv_aload_n hx hb dX6_readBeats_56 rfl (lv_at hl 1 rfl) ?_
          refine lv_iconst (v := (1 : Int32)) hx hb dX6_readBeats_57 (by decide) ?_
          refine lv_sipush (v := (999 : Int32)) hx hb dX6_readBeats_58 (by decide) ?_
          have hs7 := hs.1
          have hs := hs.2
          refine q_Viw (As := [.ref (a 3), .int (1 : Int32), .int (999 : Int32)]) (rest := [.ref (a 0)]) (wf := wX6_X4 k a) (R := P_X6_readNumber (u2 σ 0 (upd (σ 0) 4 ((σ 0 4) + (1 : Int32)))) (1 : Int32) (999 : Int32)) (wd' := wX6_X4 k a ((P_X6_readNumber (u2 σ 0 (upd (σ 0) 4 ((σ 0 4) + (1 : Int32)))) (1 : Int32) (999 : Int32)).2)) [0, 1, 2, 3, 4] [0, 1, 2, 3] 0 6 C0 hW (m_X6_readNumber l D k a H.size (u2 σ 0 (upd (σ 0) 4 ((σ 0 4) + (1 : Int32)))) (1 : Int32) (999 : Int32) hs7) (cwV 3 hts gX6_readBeats_X6_readNumber rfl rfl rfl hd_X6_readNumber ⟨Nat.le_of_ble_eq_true rfl, Nat.le_of_ble_eq_true rfl⟩) (by decide) (wX6_X4_pl k a _) rfl (wX6_X4_rec k a _) rfl (wX6_X4_fst k a _ _) (wX6_X4_put k a _ _) hl rfl rfl (Nat.le_of_ble_eq_true rfl) dX6_readBeats_61 ⟨Nat.le_refl 0, Nat.le_refl 0⟩ (fun H locs hW => ?_)
          exact b_X6_readBeats_b64c l D k a A C0 R _ _ ih ((P_X6_readNumber (u2 σ 0 (upd (σ 0) 4 ((σ 0 4) + (1 : Int32)))) (1 : Int32) (999 : Int32)).2) v2 ((P_X6_readNumber (u2 σ 0 (upd (σ 0) 4 ((σ 0 4) + (1 : Int32)))) (1 : Int32) (999 : Int32)).1) hs hR H locs ls hW (lv_sub hl [0, 1, 2] rfl)
set_option maxHeartbeats 400000 in
set_option maxRecDepth 100000 in
theorem b_X6_readBeats_b14c {p : Program} {e : Env} {s : State} {m : MethodId} {args : Array Value} {below : List Frame} {meth : Method} {c : Code} (l : Launch) (D : va_G) (k : Nat → ClassId) (a : Nat → Nat) (A : Nat → Prop) (C0 : q_C p s m meth c args RX6 cX6_readBeats 3 none wsX6_readBeats D (tyL k) A) (R : T2) : ∀ (σ : T2), S_X6_readBeats_b14c σ → P_X6_readBeats_b14c σ = R → ∀ (H : Heap) (locs : List Loc) (ls : Array Slot), q_W D A s.heap (wX6_X4 k a σ) H locs → lv_has ls 3 [(0, .ref (a 0)), (1, .ref (a 3))] → W p l e { frames := 3, cells := 0, slots := 0, locals := 69 } s m args below meth c H locs 0 0 (MQ below (va_Qv (fun u => u = R) (fun u => q_E D (tyL k) A (wX6_X4 k a u)) A) args s 0 0 A) (F0 m 14 ls []) := by
  intro σ hs hR H locs ls hW hl
  rw [P_X6_readBeats_b14c_e] at hR
  rw [S_X6_readBeats_b14c_e] at hs
  obtain ⟨hx, hb, hr, hml, hts, hown, hlocks, hK, hA⟩ := id C0
  refine lv_iconst (v := (0 : Int32)) hx hb dX6_readBeats_14 (by decide) ?_
  refine lv_istore_n (lv' := [(2, .int (0 : Int32)), (0, .ref (a 0)), (1, .ref (a 3))]) hx hb dX6_readBeats_15 rfl hl (by decide) rfl (fun ls hl => ?_)
  exact b_X6_readBeats_b16 l D k a A C0 R FU σ (0 : Int32) hs hR H locs ls hW (lv_sub hl [1, 2, 0] rfl)
set_option maxHeartbeats 400000 in
set_option maxRecDepth 100000 in
theorem b_X6_readBeats_b10c {p : Program} {e : Env} {s : State} {m : MethodId} {args : Array Value} {below : List Frame} {meth : Method} {c : Code} (l : Launch) (D : va_G) (k : Nat → ClassId) (a : Nat → Nat) (A : Nat → Prop) (C0 : q_C p s m meth c args RX6 cX6_readBeats 3 none wsX6_readBeats D (tyL k) A) (R : T2) : ∀ (σ : T2) (t0 : Int32), S_X6_readBeats_b10c σ t0 → P_X6_readBeats_b10c σ t0 = R → ∀ (H : Heap) (locs : List Loc) (ls : Array Slot), q_W D A s.heap (wX6_X4 k a σ) H locs → lv_has ls 3 [(0, .ref (a 0)), (1, .ref (a 3))] → W p l e { frames := 3, cells := 0, slots := 0, locals := 69 } s m args below meth c H locs 0 0 (MQ below (va_Qv (fun u => u = R) (fun u => q_E D (tyL k) A (wX6_X4 k a u)) A) args s 0 0 A) (F0 m 10 ls [.int t0, .ref (a 0)]) := by
  intro σ t0 hs hR H locs ls hW hl
  rw [P_X6_readBeats_b10c_e] at hR
  rw [S_X6_readBeats_b10c_e] at hs
  obtain ⟨hx, hb, hr, hml, hts, hown, hlocks, hK, hA⟩ := id C0
  refine lv_iconst (v := (1 : Int32)) hx hb dX6_readBeats_10 (by decide) ?_
  have hs2 := hs.1
  have hs := hs.2
  refine q_Vv (As := [.int t0, .int (1 : Int32)]) (rest := []) (wf := wX6 k a) (R := P_X6_addBeats σ t0 (1 : Int32)) (wd' := wX6_X4 k a (sb σ 0 3 (P_X6_addBeats σ t0 (1 : Int32)))) [0, 1, 2] [0, 1, 2, 3] 0 6 C0 hW (m_X6_addBeats l D k a H.size σ t0 (1 : Int32) hs2) (cwV 2 hts gX6_readBeats_X6_addBeats rfl rfl rfl hd_X6_addBeats ⟨Nat.le_of_ble_eq_true rfl, Nat.le_of_ble_eq_true rfl⟩) (by decide) (wX6_X4_X6_0_pl k a _) rfl rfl rfl (wX6_fst k _ _ _) (wX6_X4_X6_0_pt k a _ _) hl rfl rfl (Nat.le_of_ble_eq_true rfl) dX6_readBeats_11 ⟨Nat.le_refl 0, Nat.le_refl 0⟩ (fun H locs hW => ?_)
  exact b_X6_readBeats_b14c l D k a A C0 R (sb σ 0 3 (P_X6_addBeats σ t0 (1 : Int32))) hs hR H locs ls hW (lv_sub hl [0, 1] rfl)
set_option maxHeartbeats 400000 in
set_option maxRecDepth 100000 in
theorem b_X6_readBeats_b0 {p : Program} {e : Env} {s : State} {m : MethodId} {args : Array Value} {below : List Frame} {meth : Method} {c : Code} (l : Launch) (D : va_G) (k : Nat → ClassId) (a : Nat → Nat) (A : Nat → Prop) (C0 : q_C p s m meth c args RX6 cX6_readBeats 3 none wsX6_readBeats D (tyL k) A) (R : T2) : ∀ (σ : T2), S_X6_readBeats_b0 σ → P_X6_readBeats_b0 σ = R → ∀ (H : Heap) (locs : List Loc) (ls : Array Slot), q_W D A s.heap (wX6_X4 k a σ) H locs → lv_has ls 3 [(0, .ref (a 0)), (1, .ref (a 3))] → W p l e { frames := 3, cells := 0, slots := 0, locals := 69 } s m args below meth c H locs 0 0 (MQ below (va_Qv (fun u => u = R) (fun u => q_E D (tyL k) A (wX6_X4 k a u)) A) args s 0 0 A) (F0 m 0 ls []) := by
  intro σ hs hR H locs ls hW hl
  rw [P_X6_readBeats_b0_e] at hR
  rw [S_X6_readBeats_b0_e] at hs
  obtain ⟨hx, hb, hr, hml, hts, hown, hlocks, hK, hA⟩ := id C0
  refine lv_aload_n hx hb dX6_readBeats_0 rfl (lv_at hl 0 rfl) ?_
  refine lv_aload_n hx hb dX6_readBeats_1 rfl (lv_at hl 0 rfl) ?_
  refine lv_aload_n hx hb dX6_readBeats_2 rfl (lv_at hl 1 rfl) ?_
  refine lv_iconst (v := (1 : Int32)) hx hb dX6_readBeats_3 (by decide) ?_
  refine lv_sipush (v := (999 : Int32)) hx hb dX6_readBeats_4 (by decide) ?_
  have hs1 := hs.1
  have hs := hs.2
  refine q_Viw (As := [.ref (a 3), .int (1 : Int32), .int (999 : Int32)]) (rest := [.ref (a 0)]) (wf := wX6_X4 k a) (R := P_X6_readNumber σ (1 : Int32) (999 : Int32)) (wd' := wX6_X4 k a ((P_X6_readNumber σ (1 : Int32) (999 : Int32)).2)) [0, 1, 2, 3, 4] [0, 1, 2, 3] 0 6 C0 hW (m_X6_readNumber l D k a H.size σ (1 : Int32) (999 : Int32) hs1) (cwV 3 hts gX6_readBeats_X6_readNumber rfl rfl rfl hd_X6_readNumber ⟨Nat.le_of_ble_eq_true rfl, Nat.le_of_ble_eq_true rfl⟩) (by decide) (wX6_X4_pl k a _) rfl (wX6_X4_rec k a _) rfl (wX6_X4_fst k a _ _) (wX6_X4_put k a _ _) hl rfl rfl (Nat.le_of_ble_eq_true rfl) dX6_readBeats_7 ⟨Nat.le_refl 0, Nat.le_refl 0⟩ (fun H locs hW => ?_)
  exact b_X6_readBeats_b10c l D k a A C0 R ((P_X6_readNumber σ (1 : Int32) (999 : Int32)).2) ((P_X6_readNumber σ (1 : Int32) (999 : Int32)).1) hs hR H locs ls hW (lv_sub hl [0, 1] rfl)
set_option maxHeartbeats 400000 in
set_option maxRecDepth 100000 in
theorem m_X6_readBeats (l : Launch) (D : va_G) (k : Nat → ClassId) (a : Nat → Nat) (sz : Nat) (σ : T2) (hs : S_X6_readBeats σ) : Met l yX6_readBeats wsX6_readBeats { frames := 3, cells := 0, slots := 0, locals := 69 } (va_Pc [.ref (a 0), .ref (a 3)] (q_B D (tyL k) (wX6_X4 k a σ) sz)) (va_Qv (fun u => u = P_X6_readBeats σ) (fun u => q_E D (tyL k) (va_A (wX6_X4 k a σ) sz) (wX6_X4 k a u)) (va_A (wX6_X4 k a σ) sz)) 0 0 (va_A (wX6_X4 k a σ) sz) := by
  refine q_met [.ref (a 0), .ref (a 3)] (wX6_X4 k a σ) sz (cc := cX6_readBeats) (maxL := 3) (ret := none) (by decide) rfl (Nat.le_of_ble_eq_true rfl) ?_
  intro p e s m args below meth c ls hsz C0 hW hl hin
  subst hsz
  exact b_X6_readBeats_b0 l D k a _ C0 _ σ  hs rfl s.heap [] ls hW (lv_sub hl [0, 1] rfl)
theorem hin_X6_readSign_X6 : ∀ w ∈ u_ws RX6 TX6 7, w ∈ wsX6_readSign := by decide +kernel
theorem hd_X6_readSign : yX6_readSign.cls = RX6 ∧ yX6_readSign.cls ≠ "java/lang/invoke/MethodHandle" ∧ yX6_readSign.cls ≠ "java/lang/invoke/VarHandle" ∧ (parseMethodDescriptor yX6_readSign.desc).map (fun d => d.parameters.length) = some 2 := by decide +kernel
noncomputable def P_X6_readSign_b0 (σ : T2) (v2 : Int32) : T2 := if (σ 0 3) = (-6 : Int32) then (if (P_X4_signAt (fun j => σ (3 + j)) (σ 0 4)) = v2 then (u2 σ 0 (upd (σ 0) 4 ((σ 0 4) + (1 : Int32)))) else (u2 σ 0 (upd (σ 0) 3 (σ 0 4)))) else (σ)
def S_X6_readSign_b0 (σ : T2) (v2 : Int32) : Prop := ((σ 0 3) = (-6 : Int32) → ((S_X4_signAt (fun j => σ (3 + j)) (σ 0 4)) ∧ (((P_X4_signAt (fun j => σ (3 + j)) (σ 0 4)) = v2 → (True)) ∧ (¬ ((P_X4_signAt (fun j => σ (3 + j)) (σ 0 4)) = v2) → (True))))) ∧ (¬ ((σ 0 3) = (-6 : Int32)) → (True))
theorem P_X6_readSign_b0_e (σ : T2) (v2 : Int32) : P_X6_readSign_b0 σ v2 = if (σ 0 3) = (-6 : Int32) then (if (P_X4_signAt (fun j => σ (3 + j)) (σ 0 4)) = v2 then (u2 σ 0 (upd (σ 0) 4 ((σ 0 4) + (1 : Int32)))) else (u2 σ 0 (upd (σ 0) 3 (σ 0 4)))) else (σ) := rfl
theorem S_X6_readSign_b0_e (σ : T2) (v2 : Int32) : S_X6_readSign_b0 σ v2 = (((σ 0 3) = (-6 : Int32) → ((S_X4_signAt (fun j => σ (3 + j)) (σ 0 4)) ∧ (((P_X4_signAt (fun j => σ (3 + j)) (σ 0 4)) = v2 → (True)) ∧ (¬ ((P_X4_signAt (fun j => σ (3 + j)) (σ 0 4)) = v2) → (True))))) ∧ (¬ ((σ 0 3) = (-6 : Int32)) → (True))) := rfl
noncomputable def P_X6_readSign (σ : T2) (p1 : Int32) : T2 := P_X6_readSign_b0 σ p1
def S_X6_readSign (σ : T2) (p1 : Int32) : Prop := S_X6_readSign_b0 σ p1
set_option maxHeartbeats 400000 in
set_option maxRecDepth 100000 in
theorem b_X6_readSign_b0 {p : Program} {e : Env} {s : State} {m : MethodId} {args : Array Value} {below : List Frame} {meth : Method} {c : Code} (l : Launch) (D : va_G) (k : Nat → ClassId) (a : Nat → Nat) (A : Nat → Prop) (C0 : q_C p s m meth c args RX6 cX6_readSign 3 none wsX6_readSign D (tyL k) A) (R : T2) : ∀ (σ : T2) (v2 : Int32), S_X6_readSign_b0 σ v2 → P_X6_readSign_b0 σ v2 = R → ∀ (H : Heap) (locs : List Loc) (ls : Array Slot), q_W D A s.heap (wX6_X4 k a σ) H locs → lv_has ls 3 [(0, .ref (a 0)), (1, .ref (a 3)), (2, .int v2)] → W p l e { frames := 1, cells := 0, slots := 0, locals := 21 } s m args below meth c H locs 0 0 (MQ below (va_Qv (fun u => u = R) (fun u => q_E D (tyL k) A (wX6_X4 k a u)) A) args s 0 0 A) (F0 m 0 ls []) := by
  intro σ v2 hs hR H locs ls hW hl
  rw [P_X6_readSign_b0_e] at hR
  rw [S_X6_readSign_b0_e] at hs
  obtain ⟨hx, hb, hr, hml, hts, hown, hlocks, hK, hA⟩ := id C0
  have hf22 := hts (.fieldLink RX6 22 "BeatFollower$Reader" "fault" "I") (by decide +kernel)
  have hf25 := hts (.fieldLink RX6 25 "BeatFollower$Reader" "place" "I") (by decide +kernel)
  have hinX6 : ∀ w ∈ u_ws RX6 TX6 7, w ∈ wsX6_readSign := hin_X6_readSign_X6
  refine lv_aload_n hx hb dX6_readSign_0 rfl (lv_at hl 0 rfl) ?_
  refine va_get (v := .int (σ 0 3)) (C := RX6) (T := TX6) (N := 7) hx hb hts hinX6 hown hK hW.1 0 rfl rfl 3 (by decide) hf22 (fun _ h9 => h9) rfl dX6_readSign_1 ?_
  refine lv_bipush (v := (-6 : Int32)) hx hb dX6_readSign_4 (by decide) ?_
  refine lv_icmp_eq (tgt := 10) hx hb dX6_readSign_6 (by decide) (fun c_1 => ?_) (fun c_1 => ?_)
  · have hs := hs.1 c_1
    rw [if_pos c_1] at hR
    refine lv_aload_n hx hb dX6_readSign_10 rfl (lv_at hl 1 rfl) ?_
    refine lv_aload_n hx hb dX6_readSign_11 rfl (lv_at hl 0 rfl) ?_
    refine va_get (v := .int (σ 0 4)) (C := RX6) (T := TX6) (N := 7) hx hb hts hinX6 hown hK hW.1 0 rfl rfl 4 (by decide) hf25 (fun _ h9 => h9) rfl dX6_readSign_12 ?_
    have hs2 := hs.1
    have hs := hs.2
    refine q_Vi (As := [.int (σ 0 4)]) (rest := []) (R := P_X4_signAt (fun j => σ (3 + j)) (σ 0 4)) [3, 4] [0, 1, 2, 3] 3 4 C0 hW (m_X4_signAt l D k (fun j => a (3 + j)) _ (fun j => σ (3 + j)) (σ 0 4) hs2) (cwV 1 hts gX6_readSign_X4_signAt rfl rfl rfl hd_X4_signAt ⟨Nat.le_of_ble_eq_true rfl, Nat.le_of_ble_eq_true rfl⟩) (by decide) (wX6_X4_X4_3_pl k a _) rfl rfl rfl hl rfl rfl (Nat.le_of_ble_eq_true rfl) dX6_readSign_15 ⟨Nat.le_refl 0, Nat.le_refl 0⟩ ?_
    refine lv_iload_n hx hb dX6_readSign_18 rfl (lv_at hl 2 rfl) ?_
    refine lv_icmp_ne (tgt := 35) hx hb dX6_readSign_19 (by decide) (fun c_3 => ?_) (fun c_3 => ?_)
    · have hs := hs.2 c_3
      rw [if_neg c_3] at hR
      refine lv_aload_n hx hb dX6_readSign_35 rfl (lv_at hl 0 rfl) ?_
      refine lv_aload_n hx hb dX6_readSign_36 rfl (lv_at hl 0 rfl) ?_
      refine va_get (v := .int (σ 0 4)) (C := RX6) (T := TX6) (N := 7) hx hb hts hinX6 hown hK hW.1 0 rfl rfl 4 (by decide) hf25 (fun _ h9 => h9) rfl dX6_readSign_37 ?_
      refine q_putf (ty := .int) (wd' := wX6_X4 k a (u2 σ 0 (upd (σ 0) 3 (σ 0 4)))) C0 hW hinX6 tyX6 tyX6_ok nmX6 0 rfl rfl 3 (by decide) hf22 rfl (by decide +kernel) rfl rfl (Nat.le_of_ble_eq_true rfl) dX6_readSign_40 (fX6_s3 _ _ _) (wX6_X4_s0 k a _ _) (fun H locs hW => ?_)
      exact q_vret C0 hW hR dX6_readSign_43
    · have hs := hs.1 c_3
      rw [if_pos c_3] at hR
      refine lv_aload_n hx hb dX6_readSign_22 rfl (lv_at hl 0 rfl) ?_
      refine lv_dup hx hb dX6_readSign_23 rfl ?_
      refine va_get (v := .int (σ 0 4)) (C := RX6) (T := TX6) (N := 7) hx hb hts hinX6 hown hK hW.1 0 rfl rfl 4 (by decide) hf25 (fun _ h9 => h9) rfl dX6_readSign_24 ?_
      refine lv_iconst (v := (1 : Int32)) hx hb dX6_readSign_27 (by decide) ?_
      refine lv_iadd hx hb dX6_readSign_28 ?_
      refine q_putf (ty := .int) (wd' := wX6_X4 k a (u2 σ 0 (upd (σ 0) 4 ((σ 0 4) + (1 : Int32))))) C0 hW hinX6 tyX6 tyX6_ok nmX6 0 rfl rfl 4 (by decide) hf25 rfl (by decide +kernel) rfl rfl (Nat.le_of_ble_eq_true rfl) dX6_readSign_29 (fX6_s4 _ _ _) (wX6_X4_s0 k a _ _) (fun H locs hW => ?_)
      refine lv_goto (tgt := 43) hx hb dX6_readSign_32 (by decide) ?_
      exact q_vret C0 hW hR dX6_readSign_43
  · have hs := hs.2 c_1
    rw [if_neg c_1] at hR
    exact q_vret C0 hW hR dX6_readSign_9
set_option maxHeartbeats 400000 in
set_option maxRecDepth 100000 in
theorem m_X6_readSign (l : Launch) (D : va_G) (k : Nat → ClassId) (a : Nat → Nat) (sz : Nat) (σ : T2) (p1 : Int32) (hs : S_X6_readSign σ p1) : Met l yX6_readSign wsX6_readSign { frames := 1, cells := 0, slots := 0, locals := 21 } (va_Pc [.ref (a 0), .ref (a 3), .int p1] (q_B D (tyL k) (wX6_X4 k a σ) sz)) (va_Qv (fun u => u = P_X6_readSign σ p1) (fun u => q_E D (tyL k) (va_A (wX6_X4 k a σ) sz) (wX6_X4 k a u)) (va_A (wX6_X4 k a σ) sz)) 0 0 (va_A (wX6_X4 k a σ) sz) := by
  refine q_met [.ref (a 0), .ref (a 3), .int p1] (wX6_X4 k a σ) sz (cc := cX6_readSign) (maxL := 3) (ret := none) (by decide) rfl (Nat.le_of_ble_eq_true rfl) ?_
  intro p e s m args below meth c ls hsz C0 hW hl hin
  subst hsz
  exact b_X6_readSign_b0 l D k a _ C0 _ σ p1 hs rfl s.heap [] ls hW (lv_sub hl [0, 1, 2] rfl)
theorem hd_X6_readEvenBeats : yX6_readEvenBeats.cls = RX6 ∧ yX6_readEvenBeats.cls ≠ "java/lang/invoke/MethodHandle" ∧ yX6_readEvenBeats.cls ≠ "java/lang/invoke/VarHandle" ∧ (parseMethodDescriptor yX6_readEvenBeats.desc).map (fun d => d.parameters.length) = some 1 := by decide +kernel
noncomputable def P_X6_readEvenBeats_b27c (σ : T2) (t0 : Int32) (t1 : Int32) : T2 := sb σ 0 3 (P_X6_addBeats σ t1 t0)
def S_X6_readEvenBeats_b27c (σ : T2) (t0 : Int32) (t1 : Int32) : Prop := (S_X6_addBeats σ t1 t0) ∧ (True)
theorem P_X6_readEvenBeats_b27c_e (σ : T2) (t0 : Int32) (t1 : Int32) : P_X6_readEvenBeats_b27c σ t0 t1 = sb σ 0 3 (P_X6_addBeats σ t1 t0) := rfl
theorem S_X6_readEvenBeats_b27c_e (σ : T2) (t0 : Int32) (t1 : Int32) : S_X6_readEvenBeats_b27c σ t0 t1 = ((S_X6_addBeats σ t1 t0) ∧ (True)) := rfl
noncomputable def P_X6_readEvenBeats_b17c (σ : T2) (v2 : Int32) : T2 := P_X6_readEvenBeats_b27c ((P_X6_readNumber σ (2 : Int32) (40 : Int32)).2) ((P_X6_readNumber σ (2 : Int32) (40 : Int32)).1) v2
def S_X6_readEvenBeats_b17c (σ : T2) (v2 : Int32) : Prop := (S_X6_readNumber σ (2 : Int32) (40 : Int32)) ∧ (S_X6_readEvenBeats_b27c ((P_X6_readNumber σ (2 : Int32) (40 : Int32)).2) ((P_X6_readNumber σ (2 : Int32) (40 : Int32)).1) v2)
theorem P_X6_readEvenBeats_b17c_e (σ : T2) (v2 : Int32) : P_X6_readEvenBeats_b17c σ v2 = P_X6_readEvenBeats_b27c ((P_X6_readNumber σ (2 : Int32) (40 : Int32)).2) ((P_X6_readNumber σ (2 : Int32) (40 : Int32)).1) v2 := rfl
theorem S_X6_readEvenBeats_b17c_e (σ : T2) (v2 : Int32) : S_X6_readEvenBeats_b17c σ v2 = ((S_X6_readNumber σ (2 : Int32) (40 : Int32)) ∧ (S_X6_readEvenBeats_b27c ((P_X6_readNumber σ (2 : Int32) (40 : Int32)).2) ((P_X6_readNumber σ (2 : Int32) (40 : Int32)).1) v2)) := rfl
noncomputable def P_X6_readEvenBeats_b9c (σ : T2) (t0 : Int32) : T2 := P_X6_readEvenBeats_b17c (P_X6_readSign σ (42 : Int32)) t0
def S_X6_readEvenBeats_b9c (σ : T2) (t0 : Int32) : Prop := (S_X6_readSign σ (42 : Int32)) ∧ (S_X6_readEvenBeats_b17c (P_X6_readSign σ (42 : Int32)) t0)
theorem P_X6_readEvenBeats_b9c_e (σ : T2) (t0 : Int32) : P_X6_readEvenBeats_b9c σ t0 = P_X6_readEvenBeats_b17c (P_X6_readSign σ (42 : Int32)) t0 := rfl
theorem S_X6_readEvenBeats_b9c_e (σ : T2) (t0 : Int32) : S_X6_readEvenBeats_b9c σ t0 = ((S_X6_readSign σ (42 : Int32)) ∧ (S_X6_readEvenBeats_b17c (P_X6_readSign σ (42 : Int32)) t0)) := rfl
noncomputable def P_X6_readEvenBeats_b0 (σ : T2) : T2 := P_X6_readEvenBeats_b9c ((P_X6_readNumber σ (1 : Int32) (999 : Int32)).2) ((P_X6_readNumber σ (1 : Int32) (999 : Int32)).1)
def S_X6_readEvenBeats_b0 (σ : T2) : Prop := (S_X6_readNumber σ (1 : Int32) (999 : Int32)) ∧ (S_X6_readEvenBeats_b9c ((P_X6_readNumber σ (1 : Int32) (999 : Int32)).2) ((P_X6_readNumber σ (1 : Int32) (999 : Int32)).1))
theorem P_X6_readEvenBeats_b0_e (σ : T2) : P_X6_readEvenBeats_b0 σ = P_X6_readEvenBeats_b9c ((P_X6_readNumber σ (1 : Int32) (999 : Int32)).2) ((P_X6_readNumber σ (1 : Int32) (999 : Int32)).1) := rfl
theorem S_X6_readEvenBeats_b0_e (σ : T2) : S_X6_readEvenBeats_b0 σ = ((S_X6_readNumber σ (1 : Int32) (999 : Int32)) ∧ (S_X6_readEvenBeats_b9c ((P_X6_readNumber σ (1 : Int32) (999 : Int32)).2) ((P_X6_readNumber σ (1 : Int32) (999 : Int32)).1))) := rfl
noncomputable def P_X6_readEvenBeats (σ : T2) : T2 := P_X6_readEvenBeats_b0 σ
def S_X6_readEvenBeats (σ : T2) : Prop := S_X6_readEvenBeats_b0 σ
set_option maxHeartbeats 400000 in
set_option maxRecDepth 100000 in
theorem b_X6_readEvenBeats_b27c {p : Program} {e : Env} {s : State} {m : MethodId} {args : Array Value} {below : List Frame} {meth : Method} {c : Code} (l : Launch) (D : va_G) (k : Nat → ClassId) (a : Nat → Nat) (A : Nat → Prop) (C0 : q_C p s m meth c args RX6 cX6_readEvenBeats 3 none wsX6_readEvenBeats D (tyL k) A) (R : T2) : ∀ (σ : T2) (t0 : Int32) (t1 : Int32), S_X6_readEvenBeats_b27c σ t0 t1 → P_X6_readEvenBeats_b27c σ t0 t1 = R → ∀ (H : Heap) (locs : List Loc) (ls : Array Slot), q_W D A s.heap (wX6_X4 k a σ) H locs → lv_has ls 3 [] → W p l e { frames := 3, cells := 0, slots := 0, locals := 69 } s m args below meth c H locs 0 0 (MQ below (va_Qv (fun u => u = R) (fun u => q_E D (tyL k) A (wX6_X4 k a u)) A) args s 0 0 A) (F0 m 27 ls [.int t0, .int t1, .ref (a 0)]) := by
  intro σ t0 t1 hs hR H locs ls hW hl
  rw [P_X6_readEvenBeats_b27c_e] at hR
  rw [S_X6_readEvenBeats_b27c_e] at hs
  obtain ⟨hx, hb, hr, hml, hts, hown, hlocks, hK, hA⟩ := id C0
  have hs4 := hs.1
  have hs := hs.2
  refine q_Vv (As := [.int t1, .int t0]) (rest := []) (wf := wX6 k a) (R := P_X6_addBeats σ t1 t0) (wd' := wX6_X4 k a (sb σ 0 3 (P_X6_addBeats σ t1 t0))) [0, 1, 2] [0, 1, 2, 3] 0 6 C0 hW (m_X6_addBeats l D k a H.size σ t1 t0 hs4) (cwV 2 hts gX6_readEvenBeats_X6_addBeats rfl rfl rfl hd_X6_addBeats ⟨Nat.le_of_ble_eq_true rfl, Nat.le_of_ble_eq_true rfl⟩) (by decide) (wX6_X4_X6_0_pl k a _) rfl rfl rfl (wX6_fst k _ _ _) (wX6_X4_X6_0_pt k a _ _) hl rfl rfl (Nat.le_of_ble_eq_true rfl) dX6_readEvenBeats_27 ⟨Nat.le_refl 0, Nat.le_refl 0⟩ (fun H locs hW => ?_)
  exact q_vret C0 hW hR dX6_readEvenBeats_30
set_option maxHeartbeats 400000 in
set_option maxRecDepth 100000 in
theorem b_X6_readEvenBeats_b17c {p : Program} {e : Env} {s : State} {m : MethodId} {args : Array Value} {below : List Frame} {meth : Method} {c : Code} (l : Launch) (D : va_G) (k : Nat → ClassId) (a : Nat → Nat) (A : Nat → Prop) (C0 : q_C p s m meth c args RX6 cX6_readEvenBeats 3 none wsX6_readEvenBeats D (tyL k) A) (R : T2) : ∀ (σ : T2) (v2 : Int32), S_X6_readEvenBeats_b17c σ v2 → P_X6_readEvenBeats_b17c σ v2 = R → ∀ (H : Heap) (locs : List Loc) (ls : Array Slot), q_W D A s.heap (wX6_X4 k a σ) H locs → lv_has ls 3 [(0, .ref (a 0)), (1, .ref (a 3)), (2, .int v2)] → W p l e { frames := 3, cells := 0, slots := 0, locals := 69 } s m args below meth c H locs 0 0 (MQ below (va_Qv (fun u => u = R) (fun u => q_E D (tyL k) A (wX6_X4 k a u)) A) args s 0 0 A) (F0 m 17 ls []) := by
  intro σ v2 hs hR H locs ls hW hl
  rw [P_X6_readEvenBeats_b17c_e] at hR
  rw [S_X6_readEvenBeats_b17c_e] at hs
  obtain ⟨hx, hb, hr, hml, hts, hown, hlocks, hK, hA⟩ := id C0
  refine lv_aload_n hx hb dX6_readEvenBeats_17 rfl (lv_at hl 0 rfl) ?_
  refine lv_iload_n hx hb dX6_readEvenBeats_18 rfl (lv_at hl 2 rfl) ?_
  refine lv_aload_n hx hb dX6_readEvenBeats_19 rfl (lv_at hl 0 rfl) ?_
  refine lv_aload_n hx hb dX6_readEvenBeats_20 rfl (lv_at hl 1 rfl) ?_
  refine lv_iconst (v := (2 : Int32)) hx hb dX6_readEvenBeats_21 (by decide) ?_
  refine lv_bipush (v := (40 : Int32)) hx hb dX6_readEvenBeats_22 (by decide) ?_
  have hs3 := hs.1
  have hs := hs.2
  refine q_Viw (As := [.ref (a 3), .int (2 : Int32), .int (40 : Int32)]) (rest := [.int v2, .ref (a 0)]) (wf := wX6_X4 k a) (R := P_X6_readNumber σ (2 : Int32) (40 : Int32)) (wd' := wX6_X4 k a ((P_X6_readNumber σ (2 : Int32) (40 : Int32)).2)) [0, 1, 2, 3, 4] [0, 1, 2, 3] 0 6 C0 hW (m_X6_readNumber l D k a H.size σ (2 : Int32) (40 : Int32) hs3) (cwV 3 hts gX6_readEvenBeats_X6_readNumber rfl rfl rfl hd_X6_readNumber ⟨Nat.le_of_ble_eq_true rfl, Nat.le_of_ble_eq_true rfl⟩) (by decide) (wX6_X4_pl k a _) rfl (wX6_X4_rec k a _) rfl (wX6_X4_fst k a _ _) (wX6_X4_put k a _ _) hl rfl rfl (Nat.le_of_ble_eq_true rfl) dX6_readEvenBeats_24 ⟨Nat.le_refl 0, Nat.le_refl 0⟩ (fun H locs hW => ?_)
  exact b_X6_readEvenBeats_b27c l D k a A C0 R ((P_X6_readNumber σ (2 : Int32) (40 : Int32)).2) ((P_X6_readNumber σ (2 : Int32) (40 : Int32)).1) v2 hs hR H locs ls hW (lv_sub hl [] rfl)
set_option maxHeartbeats 400000 in
set_option maxRecDepth 100000 in
theorem b_X6_readEvenBeats_b9c {p : Program} {e : Env} {s : State} {m : MethodId} {args : Array Value} {below : List Frame} {meth : Method} {c : Code} (l : Launch) (D : va_G) (k : Nat → ClassId) (a : Nat → Nat) (A : Nat → Prop) (C0 : q_C p s m meth c args RX6 cX6_readEvenBeats 3 none wsX6_readEvenBeats D (tyL k) A) (R : T2) : ∀ (σ : T2) (t0 : Int32), S_X6_readEvenBeats_b9c σ t0 → P_X6_readEvenBeats_b9c σ t0 = R → ∀ (H : Heap) (locs : List Loc) (ls : Array Slot), q_W D A s.heap (wX6_X4 k a σ) H locs → lv_has ls 3 [(0, .ref (a 0)), (1, .ref (a 3))] → W p l e { frames := 3, cells := 0, slots := 0, locals := 69 } s m args below meth c H locs 0 0 (MQ below (va_Qv (fun u => u = R) (fun u => q_E D (tyL k) A (wX6_X4 k a u)) A) args s 0 0 A) (F0 m 9 ls [.int t0]) := by
  intro σ t0 hs hR H locs ls hW hl
  rw [P_X6_readEvenBeats_b9c_e] at hR
  rw [S_X6_readEvenBeats_b9c_e] at hs
  obtain ⟨hx, hb, hr, hml, hts, hown, hlocks, hK, hA⟩ := id C0
  refine lv_istore_n (lv' := [(2, .int t0), (0, .ref (a 0)), (1, .ref (a 3))]) hx hb dX6_readEvenBeats_9 rfl hl (by decide) rfl (fun ls hl => ?_)
  refine lv_aload_n hx hb dX6_readEvenBeats_10 rfl (lv_at hl 1 rfl) ?_
  refine lv_aload_n hx hb dX6_readEvenBeats_11 rfl (lv_at hl 2 rfl) ?_
  refine lv_bipush (v := (42 : Int32)) hx hb dX6_readEvenBeats_12 (by decide) ?_
  have hs2 := hs.1
  have hs := hs.2
  refine q_Vv (As := [.ref (a 3), .int (42 : Int32)]) (rest := []) (wf := wX6_X4 k a) (R := P_X6_readSign σ (42 : Int32)) (wd' := wX6_X4 k a (P_X6_readSign σ (42 : Int32))) [0, 1, 2, 3, 4] [0, 1, 2, 3] 0 6 C0 hW (m_X6_readSign l D k a H.size σ (42 : Int32) hs2) (cwV 2 hts gX6_readEvenBeats_X6_readSign rfl rfl rfl hd_X6_readSign ⟨Nat.le_of_ble_eq_true rfl, Nat.le_of_ble_eq_true rfl⟩) (by decide) (wX6_X4_pl k a _) rfl (wX6_X4_rec k a _) rfl (wX6_X4_fst k a _ _) (wX6_X4_put k a _ _) hl rfl rfl (Nat.le_of_ble_eq_true rfl) dX6_readEvenBeats_14 ⟨Nat.le_refl 0, Nat.le_refl 0⟩ (fun H locs hW => ?_)
  exact b_X6_readEvenBeats_b17c l D k a A C0 R (P_X6_readSign σ (42 : Int32)) t0 hs hR H locs ls hW (lv_sub hl [1, 2, 0] rfl)
set_option maxHeartbeats 400000 in
set_option maxRecDepth 100000 in
theorem b_X6_readEvenBeats_b0 {p : Program} {e : Env} {s : State} {m : MethodId} {args : Array Value} {below : List Frame} {meth : Method} {c : Code} (l : Launch) (D : va_G) (k : Nat → ClassId) (a : Nat → Nat) (A : Nat → Prop) (C0 : q_C p s m meth c args RX6 cX6_readEvenBeats 3 none wsX6_readEvenBeats D (tyL k) A) (R : T2) : ∀ (σ : T2), S_X6_readEvenBeats_b0 σ → P_X6_readEvenBeats_b0 σ = R → ∀ (H : Heap) (locs : List Loc) (ls : Array Slot), q_W D A s.heap (wX6_X4 k a σ) H locs → lv_has ls 3 [(0, .ref (a 0)), (1, .ref (a 3))] → W p l e { frames := 3, cells := 0, slots := 0, locals := 69 } s m args below meth c H locs 0 0 (MQ below (va_Qv (fun u => u = R) (fun u => q_E D (tyL k) A (wX6_X4 k a u)) A) args s 0 0 A) (F0 m 0 ls []) := by
  intro σ hs hR H locs ls hW hl
  rw [P_X6_readEvenBeats_b0_e] at hR
  rw [S_X6_readEvenBeats_b0_e] at hs
  obtain ⟨hx, hb, hr, hml, hts, hown, hlocks, hK, hA⟩ := id C0
  refine lv_aload_n hx hb dX6_readEvenBeats_0 rfl (lv_at hl 0 rfl) ?_
  refine lv_aload_n hx hb dX6_readEvenBeats_1 rfl (lv_at hl 1 rfl) ?_
  refine lv_iconst (v := (1 : Int32)) hx hb dX6_readEvenBeats_2 (by decide) ?_
  refine lv_sipush (v := (999 : Int32)) hx hb dX6_readEvenBeats_3 (by decide) ?_
  have hs1 := hs.1
  have hs := hs.2
  refine q_Viw (As := [.ref (a 3), .int (1 : Int32), .int (999 : Int32)]) (rest := []) (wf := wX6_X4 k a) (R := P_X6_readNumber σ (1 : Int32) (999 : Int32)) (wd' := wX6_X4 k a ((P_X6_readNumber σ (1 : Int32) (999 : Int32)).2)) [0, 1, 2, 3, 4] [0, 1, 2, 3] 0 6 C0 hW (m_X6_readNumber l D k a H.size σ (1 : Int32) (999 : Int32) hs1) (cwV 3 hts gX6_readEvenBeats_X6_readNumber rfl rfl rfl hd_X6_readNumber ⟨Nat.le_of_ble_eq_true rfl, Nat.le_of_ble_eq_true rfl⟩) (by decide) (wX6_X4_pl k a _) rfl (wX6_X4_rec k a _) rfl (wX6_X4_fst k a _ _) (wX6_X4_put k a _ _) hl rfl rfl (Nat.le_of_ble_eq_true rfl) dX6_readEvenBeats_6 ⟨Nat.le_refl 0, Nat.le_refl 0⟩ (fun H locs hW => ?_)
  exact b_X6_readEvenBeats_b9c l D k a A C0 R ((P_X6_readNumber σ (1 : Int32) (999 : Int32)).2) ((P_X6_readNumber σ (1 : Int32) (999 : Int32)).1) hs hR H locs ls hW (lv_sub hl [0, 1] rfl)
set_option maxHeartbeats 400000 in
set_option maxRecDepth 100000 in
theorem m_X6_readEvenBeats (l : Launch) (D : va_G) (k : Nat → ClassId) (a : Nat → Nat) (sz : Nat) (σ : T2) (hs : S_X6_readEvenBeats σ) : Met l yX6_readEvenBeats wsX6_readEvenBeats { frames := 3, cells := 0, slots := 0, locals := 69 } (va_Pc [.ref (a 0), .ref (a 3)] (q_B D (tyL k) (wX6_X4 k a σ) sz)) (va_Qv (fun u => u = P_X6_readEvenBeats σ) (fun u => q_E D (tyL k) (va_A (wX6_X4 k a σ) sz) (wX6_X4 k a u)) (va_A (wX6_X4 k a σ) sz)) 0 0 (va_A (wX6_X4 k a σ) sz) := by
  refine q_met [.ref (a 0), .ref (a 3)] (wX6_X4 k a σ) sz (cc := cX6_readEvenBeats) (maxL := 3) (ret := none) (by decide) rfl (Nat.le_of_ble_eq_true rfl) ?_
  intro p e s m args below meth c ls hsz C0 hW hl hin
  subst hsz
  exact b_X6_readEvenBeats_b0 l D k a _ C0 _ σ  hs rfl s.heap [] ls hW (lv_sub hl [0, 1] rfl)
theorem hin_X6_readPart_X6 : ∀ w ∈ u_ws RX6 TX6 7, w ∈ wsX6_readPart := by decide +kernel
theorem hd_X6_readPart : yX6_readPart.cls = RX6 ∧ yX6_readPart.cls ≠ "java/lang/invoke/MethodHandle" ∧ yX6_readPart.cls ≠ "java/lang/invoke/VarHandle" ∧ (parseMethodDescriptor yX6_readPart.desc).map (fun d => d.parameters.length) = some 1 := by decide +kernel
noncomputable def P_X6_readPart_b77c (σ : T2) : T2 := σ
def S_X6_readPart_b77c (σ : T2) : Prop := True
theorem P_X6_readPart_b77c_e (σ : T2) : P_X6_readPart_b77c σ = σ := rfl
theorem S_X6_readPart_b77c_e (σ : T2) : S_X6_readPart_b77c σ = (True) := rfl
noncomputable def P_X6_readPart_b85c (σ : T2) : T2 := σ
def S_X6_readPart_b85c (σ : T2) : Prop := True
theorem P_X6_readPart_b85c_e (σ : T2) : P_X6_readPart_b85c σ = σ := rfl
theorem S_X6_readPart_b85c_e (σ : T2) : S_X6_readPart_b85c σ = (True) := rfl
noncomputable def P_X6_readPart_b122c (σ : T2) (t0 : Int32) (t1 : Int32) : T2 := u2 σ 0 (upd (σ 0) 5 (t1 + t0))
def S_X6_readPart_b122c (σ : T2) (t0 : Int32) (t1 : Int32) : Prop := True
theorem P_X6_readPart_b122c_e (σ : T2) (t0 : Int32) (t1 : Int32) : P_X6_readPart_b122c σ t0 t1 = u2 σ 0 (upd (σ 0) 5 (t1 + t0)) := rfl
theorem S_X6_readPart_b122c_e (σ : T2) (t0 : Int32) (t1 : Int32) : S_X6_readPart_b122c σ t0 t1 = (True) := rfl
noncomputable def P_X6_readPart_b101c (σ : T2) (t0 : Int32) (t1 : Int32) : T2 := u2 σ 0 (upd (σ 0) 6 (t1 + t0))
def S_X6_readPart_b101c (σ : T2) (t0 : Int32) (t1 : Int32) : Prop := True
theorem P_X6_readPart_b101c_e (σ : T2) (t0 : Int32) (t1 : Int32) : P_X6_readPart_b101c σ t0 t1 = u2 σ 0 (upd (σ 0) 6 (t1 + t0)) := rfl
theorem S_X6_readPart_b101c_e (σ : T2) (t0 : Int32) (t1 : Int32) : S_X6_readPart_b101c σ t0 t1 = (True) := rfl
noncomputable def P_X6_readPart_b0 (σ : T2) : T2 := if (σ 0 3) = (-6 : Int32) then (if (P_X4_signAt (fun j => σ (3 + j)) (σ 0 4)) = (98 : Int32) then (P_X6_readPart_b77c (P_X6_readBeats (u2 σ 0 (upd (σ 0) 4 ((σ 0 4) + (1 : Int32)))))) else (if (P_X4_signAt (fun j => σ (3 + j)) (σ 0 4)) = (101 : Int32) then (P_X6_readPart_b85c (P_X6_readEvenBeats (u2 σ 0 (upd (σ 0) 4 ((σ 0 4) + (1 : Int32)))))) else (if (P_X4_signAt (fun j => σ (3 + j)) (σ 0 4)) = (108 : Int32) then (P_X6_readPart_b122c ((P_X6_readNumber (u2 σ 0 (upd (σ 0) 4 ((σ 0 4) + (1 : Int32)))) (1 : Int32) (9999 : Int32)).2) ((P_X6_readNumber (u2 σ 0 (upd (σ 0) 4 ((σ 0 4) + (1 : Int32)))) (1 : Int32) (9999 : Int32)).1) (σ 0 5)) else (if (P_X4_signAt (fun j => σ (3 + j)) (σ 0 4)) = (109 : Int32) then (P_X6_readPart_b101c ((P_X6_readNumber (u2 σ 0 (upd (σ 0) 4 ((σ 0 4) + (1 : Int32)))) (1 : Int32) (99 : Int32)).2) ((P_X6_readNumber (u2 σ 0 (upd (σ 0) 4 ((σ 0 4) + (1 : Int32)))) (1 : Int32) (99 : Int32)).1) (σ 0 6)) else (u2 σ 0 (upd (upd (σ 0) 4 ((σ 0 4) + (1 : Int32))) 3 (((σ 0 4) + (1 : Int32)) - (1 : Int32)))))))) else (σ)
def S_X6_readPart_b0 (σ : T2) : Prop := ((σ 0 3) = (-6 : Int32) → ((S_X4_signAt (fun j => σ (3 + j)) (σ 0 4)) ∧ (((P_X4_signAt (fun j => σ (3 + j)) (σ 0 4)) = (98 : Int32) → ((S_X6_readBeats (u2 σ 0 (upd (σ 0) 4 ((σ 0 4) + (1 : Int32)))) ) ∧ (S_X6_readPart_b77c (P_X6_readBeats (u2 σ 0 (upd (σ 0) 4 ((σ 0 4) + (1 : Int32)))))))) ∧ (¬ ((P_X4_signAt (fun j => σ (3 + j)) (σ 0 4)) = (98 : Int32)) → (((P_X4_signAt (fun j => σ (3 + j)) (σ 0 4)) = (101 : Int32) → ((S_X6_readEvenBeats (u2 σ 0 (upd (σ 0) 4 ((σ 0 4) + (1 : Int32)))) ) ∧ (S_X6_readPart_b85c (P_X6_readEvenBeats (u2 σ 0 (upd (σ 0) 4 ((σ 0 4) + (1 : Int32)))))))) ∧ (¬ ((P_X4_signAt (fun j => σ (3 + j)) (σ 0 4)) = (101 : Int32)) → (((P_X4_signAt (fun j => σ (3 + j)) (σ 0 4)) = (108 : Int32) → ((S_X6_readNumber (u2 σ 0 (upd (σ 0) 4 ((σ 0 4) + (1 : Int32)))) (1 : Int32) (9999 : Int32)) ∧ (S_X6_readPart_b122c ((P_X6_readNumber (u2 σ 0 (upd (σ 0) 4 ((σ 0 4) + (1 : Int32)))) (1 : Int32) (9999 : Int32)).2) ((P_X6_readNumber (u2 σ 0 (upd (σ 0) 4 ((σ 0 4) + (1 : Int32)))) (1 : Int32) (9999 : Int32)).1) (σ 0 5)))) ∧ (¬ ((P_X4_signAt (fun j => σ (3 + j)) (σ 0 4)) = (108 : Int32)) → (((P_X4_signAt (fun j => σ (3 + j)) (σ 0 4)) = (109 : Int32) → ((S_X6_readNumber (u2 σ 0 (upd (σ 0) 4 ((σ 0 4) + (1 : Int32)))) (1 : Int32) (99 : Int32)) ∧ (S_X6_readPart_b101c ((P_X6_readNumber (u2 σ 0 (upd (σ 0) 4 ((σ 0 4) + (1 : Int32)))) (1 : Int32) (99 : Int32)).2) ((P_X6_readNumber (u2 σ 0 (upd (σ 0) 4 ((σ 0 4) + (1 : Int32)))) (1 : Int32) (99 : Int32)).1) (σ 0 6)))) ∧ (¬ ((P_X4_signAt (fun j => σ (3 + j)) (σ 0 4)) = (109 : Int32)) → (True))))))))))) ∧ (¬ ((σ 0 3) = (-6 : Int32)) → (True))
theorem P_X6_readPart_b0_e (σ : T2) : P_X6_readPart_b0 σ = if (σ 0 3) = (-6 : Int32) then (if (P_X4_signAt (fun j => σ (3 + j)) (σ 0 4)) = (98 : Int32) then (P_X6_readPart_b77c (P_X6_readBeats (u2 σ 0 (upd (σ 0) 4 ((σ 0 4) + (1 : Int32)))))) else (if (P_X4_signAt (fun j => σ (3 + j)) (σ 0 4)) = (101 : Int32) then (P_X6_readPart_b85c (P_X6_readEvenBeats (u2 σ 0 (upd (σ 0) 4 ((σ 0 4) + (1 : Int32)))))) else (if (P_X4_signAt (fun j => σ (3 + j)) (σ 0 4)) = (108 : Int32) then (P_X6_readPart_b122c ((P_X6_readNumber (u2 σ 0 (upd (σ 0) 4 ((σ 0 4) + (1 : Int32)))) (1 : Int32) (9999 : Int32)).2) ((P_X6_readNumber (u2 σ 0 (upd (σ 0) 4 ((σ 0 4) + (1 : Int32)))) (1 : Int32) (9999 : Int32)).1) (σ 0 5)) else (if (P_X4_signAt (fun j => σ (3 + j)) (σ 0 4)) = (109 : Int32) then (P_X6_readPart_b101c ((P_X6_readNumber (u2 σ 0 (upd (σ 0) 4 ((σ 0 4) + (1 : Int32)))) (1 : Int32) (99 : Int32)).2) ((P_X6_readNumber (u2 σ 0 (upd (σ 0) 4 ((σ 0 4) + (1 : Int32)))) (1 : Int32) (99 : Int32)).1) (σ 0 6)) else (u2 σ 0 (upd (upd (σ 0) 4 ((σ 0 4) + (1 : Int32))) 3 (((σ 0 4) + (1 : Int32)) - (1 : Int32)))))))) else (σ) := rfl
theorem S_X6_readPart_b0_e (σ : T2) : S_X6_readPart_b0 σ = (((σ 0 3) = (-6 : Int32) → ((S_X4_signAt (fun j => σ (3 + j)) (σ 0 4)) ∧ (((P_X4_signAt (fun j => σ (3 + j)) (σ 0 4)) = (98 : Int32) → ((S_X6_readBeats (u2 σ 0 (upd (σ 0) 4 ((σ 0 4) + (1 : Int32)))) ) ∧ (S_X6_readPart_b77c (P_X6_readBeats (u2 σ 0 (upd (σ 0) 4 ((σ 0 4) + (1 : Int32)))))))) ∧ (¬ ((P_X4_signAt (fun j => σ (3 + j)) (σ 0 4)) = (98 : Int32)) → (((P_X4_signAt (fun j => σ (3 + j)) (σ 0 4)) = (101 : Int32) → ((S_X6_readEvenBeats (u2 σ 0 (upd (σ 0) 4 ((σ 0 4) + (1 : Int32)))) ) ∧ (S_X6_readPart_b85c (P_X6_readEvenBeats (u2 σ 0 (upd (σ 0) 4 ((σ 0 4) + (1 : Int32)))))))) ∧ (¬ ((P_X4_signAt (fun j => σ (3 + j)) (σ 0 4)) = (101 : Int32)) → (((P_X4_signAt (fun j => σ (3 + j)) (σ 0 4)) = (108 : Int32) → ((S_X6_readNumber (u2 σ 0 (upd (σ 0) 4 ((σ 0 4) + (1 : Int32)))) (1 : Int32) (9999 : Int32)) ∧ (S_X6_readPart_b122c ((P_X6_readNumber (u2 σ 0 (upd (σ 0) 4 ((σ 0 4) + (1 : Int32)))) (1 : Int32) (9999 : Int32)).2) ((P_X6_readNumber (u2 σ 0 (upd (σ 0) 4 ((σ 0 4) + (1 : Int32)))) (1 : Int32) (9999 : Int32)).1) (σ 0 5)))) ∧ (¬ ((P_X4_signAt (fun j => σ (3 + j)) (σ 0 4)) = (108 : Int32)) → (((P_X4_signAt (fun j => σ (3 + j)) (σ 0 4)) = (109 : Int32) → ((S_X6_readNumber (u2 σ 0 (upd (σ 0) 4 ((σ 0 4) + (1 : Int32)))) (1 : Int32) (99 : Int32)) ∧ (S_X6_readPart_b101c ((P_X6_readNumber (u2 σ 0 (upd (σ 0) 4 ((σ 0 4) + (1 : Int32)))) (1 : Int32) (99 : Int32)).2) ((P_X6_readNumber (u2 σ 0 (upd (σ 0) 4 ((σ 0 4) + (1 : Int32)))) (1 : Int32) (99 : Int32)).1) (σ 0 6)))) ∧ (¬ ((P_X4_signAt (fun j => σ (3 + j)) (σ 0 4)) = (109 : Int32)) → (True))))))))))) ∧ (¬ ((σ 0 3) = (-6 : Int32)) → (True))) := rfl
noncomputable def P_X6_readPart (σ : T2) : T2 := P_X6_readPart_b0 σ
def S_X6_readPart (σ : T2) : Prop := S_X6_readPart_b0 σ
set_option maxHeartbeats 400000 in
set_option maxRecDepth 100000 in
theorem b_X6_readPart_b77c {p : Program} {e : Env} {s : State} {m : MethodId} {args : Array Value} {below : List Frame} {meth : Method} {c : Code} (l : Launch) (D : va_G) (k : Nat → ClassId) (a : Nat → Nat) (A : Nat → Prop) (C0 : q_C p s m meth c args RX6 cX6_readPart 3 none wsX6_readPart D (tyL k) A) (R : T2) : ∀ (σ : T2), S_X6_readPart_b77c σ → P_X6_readPart_b77c σ = R → ∀ (H : Heap) (locs : List Loc) (ls : Array Slot), q_W D A s.heap (wX6_X4 k a σ) H locs → lv_has ls 3 [] → W p l e { frames := 4, cells := 0, slots := 0, locals := 91 } s m args below meth c H locs 0 0 (MQ below (va_Qv (fun u => u = R) (fun u => q_E D (tyL k) A (wX6_X4 k a u)) A) args s 0 0 A) (F0 m 77 ls []) := by
  intro σ hs hR H locs ls hW hl
  rw [P_X6_readPart_b77c_e] at hR
  rw [S_X6_readPart_b77c_e] at hs
  obtain ⟨hx, hb, hr, hml, hts, hown, hlocks, hK, hA⟩ := id C0
  refine lv_goto (tgt := 139) hx hb dX6_readPart_77 (by decide) ?_
  exact q_vret C0 hW hR dX6_readPart_139
set_option maxHeartbeats 400000 in
set_option maxRecDepth 100000 in
theorem b_X6_readPart_b85c {p : Program} {e : Env} {s : State} {m : MethodId} {args : Array Value} {below : List Frame} {meth : Method} {c : Code} (l : Launch) (D : va_G) (k : Nat → ClassId) (a : Nat → Nat) (A : Nat → Prop) (C0 : q_C p s m meth c args RX6 cX6_readPart 3 none wsX6_readPart D (tyL k) A) (R : T2) : ∀ (σ : T2), S_X6_readPart_b85c σ → P_X6_readPart_b85c σ = R → ∀ (H : Heap) (locs : List Loc) (ls : Array Slot), q_W D A s.heap (wX6_X4 k a σ) H locs → lv_has ls 3 [] → W p l e { frames := 4, cells := 0, slots := 0, locals := 91 } s m args below meth c H locs 0 0 (MQ below (va_Qv (fun u => u = R) (fun u => q_E D (tyL k) A (wX6_X4 k a u)) A) args s 0 0 A) (F0 m 85 ls []) := by
  intro σ hs hR H locs ls hW hl
  rw [P_X6_readPart_b85c_e] at hR
  rw [S_X6_readPart_b85c_e] at hs
  obtain ⟨hx, hb, hr, hml, hts, hown, hlocks, hK, hA⟩ := id C0
  refine lv_goto (tgt := 139) hx hb dX6_readPart_85 (by decide) ?_
  exact q_vret C0 hW hR dX6_readPart_139
set_option maxHeartbeats 400000 in
set_option maxRecDepth 100000 in
theorem b_X6_readPart_b122c {p : Program} {e : Env} {s : State} {m : MethodId} {args : Array Value} {below : List Frame} {meth : Method} {c : Code} (l : Launch) (D : va_G) (k : Nat → ClassId) (a : Nat → Nat) (A : Nat → Prop) (C0 : q_C p s m meth c args RX6 cX6_readPart 3 none wsX6_readPart D (tyL k) A) (R : T2) : ∀ (σ : T2) (t0 : Int32) (t1 : Int32), S_X6_readPart_b122c σ t0 t1 → P_X6_readPart_b122c σ t0 t1 = R → ∀ (H : Heap) (locs : List Loc) (ls : Array Slot), q_W D A s.heap (wX6_X4 k a σ) H locs → lv_has ls 3 [] → W p l e { frames := 4, cells := 0, slots := 0, locals := 91 } s m args below meth c H locs 0 0 (MQ below (va_Qv (fun u => u = R) (fun u => q_E D (tyL k) A (wX6_X4 k a u)) A) args s 0 0 A) (F0 m 122 ls [.int t0, .int t1, .ref (a 0)]) := by
  intro σ t0 t1 hs hR H locs ls hW hl
  rw [P_X6_readPart_b122c_e] at hR
  rw [S_X6_readPart_b122c_e] at hs
  obtain ⟨hx, hb, hr, hml, hts, hown, hlocks, hK, hA⟩ := id C0
  have hf28 := hts (.fieldLink RX6 28 "BeatFollower$Reader" "laid" "I") (by decide +kernel)
  have hinX6 : ∀ w ∈ u_ws RX6 TX6 7, w ∈ wsX6_readPart := hin_X6_readPart_X6
  refine lv_iadd hx hb dX6_readPart_122 ?_
  refine q_putf (ty := .int) (wd' := wX6_X4 k a (u2 σ 0 (upd (σ 0) 5 (t1 + t0)))) C0 hW hinX6 tyX6 tyX6_ok nmX6 0 rfl rfl 5 (by decide) hf28 rfl (by decide +kernel) rfl rfl (Nat.le_of_ble_eq_true rfl) dX6_readPart_123 (fX6_s5 _ _ _) (wX6_X4_s0 k a _ _) (fun H locs hW => ?_)
  refine lv_goto (tgt := 139) hx hb dX6_readPart_126 (by decide) ?_
  exact q_vret C0 hW hR dX6_readPart_139
set_option maxHeartbeats 400000 in
set_option maxRecDepth 100000 in
theorem b_X6_readPart_b101c {p : Program} {e : Env} {s : State} {m : MethodId} {args : Array Value} {below : List Frame} {meth : Method} {c : Code} (l : Launch) (D : va_G) (k : Nat → ClassId) (a : Nat → Nat) (A : Nat → Prop) (C0 : q_C p s m meth c args RX6 cX6_readPart 3 none wsX6_readPart D (tyL k) A) (R : T2) : ∀ (σ : T2) (t0 : Int32) (t1 : Int32), S_X6_readPart_b101c σ t0 t1 → P_X6_readPart_b101c σ t0 t1 = R → ∀ (H : Heap) (locs : List Loc) (ls : Array Slot), q_W D A s.heap (wX6_X4 k a σ) H locs → lv_has ls 3 [] → W p l e { frames := 4, cells := 0, slots := 0, locals := 91 } s m args below meth c H locs 0 0 (MQ below (va_Qv (fun u => u = R) (fun u => q_E D (tyL k) A (wX6_X4 k a u)) A) args s 0 0 A) (F0 m 101 ls [.int t0, .int t1, .ref (a 0)]) := by
  intro σ t0 t1 hs hR H locs ls hW hl
  rw [P_X6_readPart_b101c_e] at hR
  rw [S_X6_readPart_b101c_e] at hs
  obtain ⟨hx, hb, hr, hml, hts, hown, hlocks, hK, hA⟩ := id C0
  have hf31 := hts (.fieldLink RX6 31 "BeatFollower$Reader" "missed" "I") (by decide +kernel)
  have hinX6 : ∀ w ∈ u_ws RX6 TX6 7, w ∈ wsX6_readPart := hin_X6_readPart_X6
  refine lv_iadd hx hb dX6_readPart_101 ?_
  refine q_putf (ty := .int) (wd' := wX6_X4 k a (u2 σ 0 (upd (σ 0) 6 (t1 + t0)))) C0 hW hinX6 tyX6 tyX6_ok nmX6 0 rfl rfl 6 (by decide) hf31 rfl (by decide +kernel) rfl rfl (Nat.le_of_ble_eq_true rfl) dX6_readPart_102 (fX6_s6 _ _ _) (wX6_X4_s0 k a _ _) (fun H locs hW => ?_)
  refine lv_goto (tgt := 139) hx hb dX6_readPart_105 (by decide) ?_
  exact q_vret C0 hW hR dX6_readPart_139
set_option maxHeartbeats 400000 in
set_option maxRecDepth 100000 in
theorem b_X6_readPart_b0 {p : Program} {e : Env} {s : State} {m : MethodId} {args : Array Value} {below : List Frame} {meth : Method} {c : Code} (l : Launch) (D : va_G) (k : Nat → ClassId) (a : Nat → Nat) (A : Nat → Prop) (C0 : q_C p s m meth c args RX6 cX6_readPart 3 none wsX6_readPart D (tyL k) A) (R : T2) : ∀ (σ : T2), S_X6_readPart_b0 σ → P_X6_readPart_b0 σ = R → ∀ (H : Heap) (locs : List Loc) (ls : Array Slot), q_W D A s.heap (wX6_X4 k a σ) H locs → lv_has ls 3 [(0, .ref (a 0)), (1, .ref (a 3))] → W p l e { frames := 4, cells := 0, slots := 0, locals := 91 } s m args below meth c H locs 0 0 (MQ below (va_Qv (fun u => u = R) (fun u => q_E D (tyL k) A (wX6_X4 k a u)) A) args s 0 0 A) (F0 m 0 ls []) := by
  intro σ hs hR H locs ls hW hl
  rw [P_X6_readPart_b0_e] at hR
  rw [S_X6_readPart_b0_e] at hs
  obtain ⟨hx, hb, hr, hml, hts, hown, hlocks, hK, hA⟩ := id C0
  have hf22 := hts (.fieldLink RX6 22 "BeatFollower$Reader" "fault" "I") (by decide +kernel)
  have hf25 := hts (.fieldLink RX6 25 "BeatFollower$Reader" "place" "I") (by decide +kernel)
  have hf28 := hts (.fieldLink RX6 28 "BeatFollower$Reader" "laid" "I") (by decide +kernel)
  have hf31 := hts (.fieldLink RX6 31 "BeatFollower$Reader" "missed" "I") (by decide +kernel)
  have hinX6 : ∀ w ∈ u_ws RX6 TX6 7, w ∈ wsX6_readPart := hin_X6_readPart_X6
  refine lv_aload_n hx hb dX6_readPart_0 rfl (lv_at hl 0 rfl) ?_
  refine va_get (v := .int (σ 0 3)) (C := RX6) (T := TX6) (N := 7) hx hb hts hinX6 hown hK hW.1 0 rfl rfl 3 (by decide) hf22 (fun _ h9 => h9) rfl dX6_readPart_1 ?_
  refine lv_bipush (v := (-6 : Int32)) hx hb dX6_readPart_4 (by decide) ?_
  refine lv_icmp_eq (tgt := 10) hx hb dX6_readPart_6 (by decide) (fun c_1 => ?_) (fun c_1 => ?_)
  · have hs := hs.1 c_1
    rw [if_pos c_1] at hR
    refine lv_aload_n hx hb dX6_readPart_10 rfl (lv_at hl 1 rfl) ?_
    refine lv_aload_n hx hb dX6_readPart_11 rfl (lv_at hl 0 rfl) ?_
    refine va_get (v := .int (σ 0 4)) (C := RX6) (T := TX6) (N := 7) hx hb hts hinX6 hown hK hW.1 0 rfl rfl 4 (by decide) hf25 (fun _ h9 => h9) rfl dX6_readPart_12 ?_
    have hs2 := hs.1
    have hs := hs.2
    refine q_Vi (As := [.int (σ 0 4)]) (rest := []) (R := P_X4_signAt (fun j => σ (3 + j)) (σ 0 4)) [3, 4] [0, 1, 2, 3] 3 4 C0 hW (m_X4_signAt l D k (fun j => a (3 + j)) _ (fun j => σ (3 + j)) (σ 0 4) hs2) (cwV 1 hts gX6_readPart_X4_signAt rfl rfl rfl hd_X4_signAt ⟨Nat.le_of_ble_eq_true rfl, Nat.le_of_ble_eq_true rfl⟩) (by decide) (wX6_X4_X4_3_pl k a _) rfl rfl rfl hl rfl rfl (Nat.le_of_ble_eq_true rfl) dX6_readPart_15 ⟨Nat.le_refl 0, Nat.le_refl 0⟩ ?_
    refine lv_istore_n (lv' := [(2, .int (P_X4_signAt (fun j => σ (3 + j)) (σ 0 4))), (0, .ref (a 0)), (1, .ref (a 3))]) hx hb dX6_readPart_18 rfl hl (by decide) rfl (fun ls hl => ?_)
    refine lv_aload_n hx hb dX6_readPart_19 rfl (lv_at hl 1 rfl) ?_
    refine lv_dup hx hb dX6_readPart_20 rfl ?_
    refine va_get (v := .int (σ 0 4)) (C := RX6) (T := TX6) (N := 7) hx hb hts hinX6 hown hK hW.1 0 rfl rfl 4 (by decide) hf25 (fun _ h9 => h9) rfl dX6_readPart_21 ?_
    refine lv_iconst (v := (1 : Int32)) hx hb dX6_readPart_24 (by decide) ?_
    refine lv_iadd hx hb dX6_readPart_25 ?_
    refine q_putf (ty := .int) (wd' := wX6_X4 k a (u2 σ 0 (upd (σ 0) 4 ((σ 0 4) + (1 : Int32))))) C0 hW hinX6 tyX6 tyX6_ok nmX6 0 rfl rfl 4 (by decide) hf25 rfl (by decide +kernel) rfl rfl (Nat.le_of_ble_eq_true rfl) dX6_readPart_26 (fX6_s4 _ _ _) (wX6_X4_s0 k a _ _) (fun H locs hW => ?_)
    refine lv_iload_n hx hb dX6_readPart_29 rfl (lv_at hl 0 rfl) ?_
    by_cases c_3 : (P_X4_signAt (fun j => σ (3 + j)) (σ 0 4)) = (98 : Int32)
    · have hs := hs.1 c_3
      rw [if_pos c_3] at hR
      refine lv_lookup (off := 42) (tgt := 72) hx hb dX6_readPart_30 (by decide) (by rw [c_3]; decide) (by decide) ?_
      refine lv_aload_n hx hb dX6_readPart_72 rfl (lv_at hl 1 rfl) ?_
      refine lv_aload_n hx hb dX6_readPart_73 rfl (lv_at hl 2 rfl) ?_
      have hs4 := hs.1
      have hs := hs.2
      refine q_Vv (As := [.ref (a 3)]) (rest := []) (wf := wX6_X4 k a) (R := P_X6_readBeats (u2 σ 0 (upd (σ 0) 4 ((σ 0 4) + (1 : Int32))))) (wd' := wX6_X4 k a (P_X6_readBeats (u2 σ 0 (upd (σ 0) 4 ((σ 0 4) + (1 : Int32)))))) [0, 1, 2, 3, 4] [0, 1, 2, 3] 0 6 C0 hW (m_X6_readBeats l D k a H.size (u2 σ 0 (upd (σ 0) 4 ((σ 0 4) + (1 : Int32))))  hs4) (cwV 1 hts gX6_readPart_X6_readBeats rfl rfl rfl hd_X6_readBeats ⟨Nat.le_of_ble_eq_true rfl, Nat.le_of_ble_eq_true rfl⟩) (by decide) (wX6_X4_pl k a _) rfl (wX6_X4_rec k a _) rfl (wX6_X4_fst k a _ _) (wX6_X4_put k a _ _) hl rfl rfl (Nat.le_of_ble_eq_true rfl) dX6_readPart_74 ⟨Nat.le_refl 0, Nat.le_refl 0⟩ (fun H locs hW => ?_)
      exact b_X6_readPart_b77c l D k a A C0 R (P_X6_readBeats (u2 σ 0 (upd (σ 0) 4 ((σ 0 4) + (1 : Int32))))) hs hR H locs ls hW (lv_sub hl [] rfl)
    · have hs := hs.2 c_3
      rw [if_neg c_3] at hR
      by_cases c_5 : (P_X4_signAt (fun j => σ (3 + j)) (σ 0 4)) = (101 : Int32)
      · have hs := hs.1 c_5
        rw [if_pos c_5] at hR
        refine lv_lookup (off := 50) (tgt := 80) hx hb dX6_readPart_30 (by decide) (by rw [c_5]; decide) (by decide) ?_
        refine lv_aload_n hx hb dX6_readPart_80 rfl (lv_at hl 1 rfl) ?_
        refine lv_aload_n hx hb dX6_readPart_81 rfl (lv_at hl 2 rfl) ?_
        have hs6 := hs.1
        have hs := hs.2
        refine q_Vv (As := [.ref (a 3)]) (rest := []) (wf := wX6_X4 k a) (R := P_X6_readEvenBeats (u2 σ 0 (upd (σ 0) 4 ((σ 0 4) + (1 : Int32))))) (wd' := wX6_X4 k a (P_X6_readEvenBeats (u2 σ 0 (upd (σ 0) 4 ((σ 0 4) + (1 : Int32)))))) [0, 1, 2, 3, 4] [0, 1, 2, 3] 0 6 C0 hW (m_X6_readEvenBeats l D k a H.size (u2 σ 0 (upd (σ 0) 4 ((σ 0 4) + (1 : Int32))))  hs6) (cwV 1 hts gX6_readPart_X6_readEvenBeats rfl rfl rfl hd_X6_readEvenBeats ⟨Nat.le_of_ble_eq_true rfl, Nat.le_of_ble_eq_true rfl⟩) (by decide) (wX6_X4_pl k a _) rfl (wX6_X4_rec k a _) rfl (wX6_X4_fst k a _ _) (wX6_X4_put k a _ _) hl rfl rfl (Nat.le_of_ble_eq_true rfl) dX6_readPart_82 ⟨Nat.le_refl 0, Nat.le_refl 0⟩ (fun H locs hW => ?_)
        exact b_X6_readPart_b85c l D k a A C0 R (P_X6_readEvenBeats (u2 σ 0 (upd (σ 0) 4 ((σ 0 4) + (1 : Int32))))) hs hR H locs ls hW (lv_sub hl [] rfl)
      · have hs := hs.2 c_5
        rw [if_neg c_5] at hR
        by_cases c_7 : (P_X4_signAt (fun j => σ (3 + j)) (σ 0 4)) = (108 : Int32)
        · have hs := hs.1 c_7
          rw [if_pos c_7] at hR
          refine lv_lookup (off := 78) (tgt := 108) hx hb dX6_readPart_30 (by decide) (by rw [c_7]; decide) (by decide) ?_
          refine lv_aload_n hx hb dX6_readPart_108 rfl (lv_at hl 1 rfl) ?_
          refine lv_dup hx hb dX6_readPart_109 rfl ?_
          refine va_get (v := .int (σ 0 5)) (C := RX6) (T := TX6) (N := 7) hx hb hts hinX6 hown hK hW.1 0 rfl rfl 5 (by decide) hf28 (fun _ h9 => h9) rfl dX6_readPart_110 ?_
          refine lv_aload_n hx hb dX6_readPart_113 rfl (lv_at hl 1 rfl) ?_
          refine lv_aload_n hx hb dX6_readPart_114 rfl (lv_at hl 2 rfl) ?_
          refine lv_iconst (v := (1 : Int32)) hx hb dX6_readPart_115 (by decide) ?_
          refine lv_sipush (v := (9999 : Int32)) hx hb dX6_readPart_116 (by decide) ?_
          have hs8 := hs.1
          have hs := hs.2
          refine q_Viw (As := [.ref (a 3), .int (1 : Int32), .int (9999 : Int32)]) (rest := [.int (σ 0 5), .ref (a 0)]) (wf := wX6_X4 k a) (R := P_X6_readNumber (u2 σ 0 (upd (σ 0) 4 ((σ 0 4) + (1 : Int32)))) (1 : Int32) (9999 : Int32)) (wd' := wX6_X4 k a ((P_X6_readNumber (u2 σ 0 (upd (σ 0) 4 ((σ 0 4) + (1 : Int32)))) (1 : Int32) (9999 : Int32)).2)) [0, 1, 2, 3, 4] [0, 1, 2, 3] 0 6 C0 hW (m_X6_readNumber l D k a H.size (u2 σ 0 (upd (σ 0) 4 ((σ 0 4) + (1 : Int32)))) (1 : Int32) (9999 : Int32) hs8) (cwV 3 hts gX6_readPart_X6_readNumber rfl rfl rfl hd_X6_readNumber ⟨Nat.le_of_ble_eq_true rfl, Nat.le_of_ble_eq_true rfl⟩) (by decide) (wX6_X4_pl k a _) rfl (wX6_X4_rec k a _) rfl (wX6_X4_fst k a _ _) (wX6_X4_put k a _ _) hl rfl rfl (Nat.le_of_ble_eq_true rfl) dX6_readPart_119 ⟨Nat.le_refl 0, Nat.le_refl 0⟩ (fun H locs hW => ?_)
          exact b_X6_readPart_b122c l D k a A C0 R ((P_X6_readNumber (u2 σ 0 (upd (σ 0) 4 ((σ 0 4) + (1 : Int32)))) (1 : Int32) (9999 : Int32)).2) ((P_X6_readNumber (u2 σ 0 (upd (σ 0) 4 ((σ 0 4) + (1 : Int32)))) (1 : Int32) (9999 : Int32)).1) (σ 0 5) hs hR H locs ls hW (lv_sub hl [] rfl)
        · have hs := hs.2 c_7
          rw [if_neg c_7] at hR
          by_cases c_9 : (P_X4_signAt (fun j => σ (3 + j)) (σ 0 4)) = (109 : Int32)
          · have hs := hs.1 c_9
            rw [if_pos c_9] at hR
            refine lv_lookup (off := 58) (tgt := 88) hx hb dX6_readPart_30 (by decide) (by rw [c_9]; decide) (by decide) ?_
            refine lv_aload_n hx hb dX6_readPart_88 rfl (lv_at hl 1 rfl) ?_
            refine lv_dup hx hb dX6_readPart_89 rfl ?_
            refine va_get (v := .int (σ 0 6)) (C := RX6) (T := TX6) (N := 7) hx hb hts hinX6 hown hK hW.1 0 rfl rfl 6 (by decide) hf31 (fun _ h9 => h9) rfl dX6_readPart_90 ?_
            refine lv_aload_n hx hb dX6_readPart_93 rfl (lv_at hl 1 rfl) ?_
            refine lv_aload_n hx hb dX6_readPart_94 rfl (lv_at hl 2 rfl) ?_
            refine lv_iconst (v := (1 : Int32)) hx hb dX6_readPart_95 (by decide) ?_
            refine lv_bipush (v := (99 : Int32)) hx hb dX6_readPart_96 (by decide) ?_
            have hs10 := hs.1
            have hs := hs.2
            refine q_Viw (As := [.ref (a 3), .int (1 : Int32), .int (99 : Int32)]) (rest := [.int (σ 0 6), .ref (a 0)]) (wf := wX6_X4 k a) (R := P_X6_readNumber (u2 σ 0 (upd (σ 0) 4 ((σ 0 4) + (1 : Int32)))) (1 : Int32) (99 : Int32)) (wd' := wX6_X4 k a ((P_X6_readNumber (u2 σ 0 (upd (σ 0) 4 ((σ 0 4) + (1 : Int32)))) (1 : Int32) (99 : Int32)).2)) [0, 1, 2, 3, 4] [0, 1, 2, 3] 0 6 C0 hW (m_X6_readNumber l D k a H.size (u2 σ 0 (upd (σ 0) 4 ((σ 0 4) + (1 : Int32)))) (1 : Int32) (99 : Int32) hs10) (cwV 3 hts gX6_readPart_X6_readNumber rfl rfl rfl hd_X6_readNumber ⟨Nat.le_of_ble_eq_true rfl, Nat.le_of_ble_eq_true rfl⟩) (by decide) (wX6_X4_pl k a _) rfl (wX6_X4_rec k a _) rfl (wX6_X4_fst k a _ _) (wX6_X4_put k a _ _) hl rfl rfl (Nat.le_of_ble_eq_true rfl) dX6_readPart_98 ⟨Nat.le_refl 0, Nat.le_refl 0⟩ (fun H locs hW => ?_)
            exact b_X6_readPart_b101c l D k a A C0 R ((P_X6_readNumber (u2 σ 0 (upd (σ 0) 4 ((σ 0 4) + (1 : Int32)))) (1 : Int32) (99 : Int32)).2) ((P_X6_readNumber (u2 σ 0 (upd (σ 0) 4 ((σ 0 4) + (1 : Int32)))) (1 : Int32) (99 : Int32)).1) (σ 0 6) hs hR H locs ls hW (lv_sub hl [] rfl)
          · have hs := hs.2 c_9
            rw [if_neg c_9] at hR
            refine lv_lookup (off := 99) (tgt := 129) hx hb dX6_readPart_30 (by decide) ((lv_osw c_3 (by decide)).trans ((lv_osw c_5 (by decide)).trans ((lv_osw c_7 (by decide)).trans ((lv_osw c_9 (by decide)).trans (rfl))))) (by decide) ?_
            refine lv_aload_n hx hb dX6_readPart_129 rfl (lv_at hl 1 rfl) ?_
            refine lv_aload_n hx hb dX6_readPart_130 rfl (lv_at hl 1 rfl) ?_
            refine va_get (v := .int ((σ 0 4) + (1 : Int32))) (C := RX6) (T := TX6) (N := 7) hx hb hts hinX6 hown hK hW.1 0 rfl rfl 4 (by decide) hf25 (fun _ h9 => h9) rfl dX6_readPart_131 ?_
            refine lv_iconst (v := (1 : Int32)) hx hb dX6_readPart_134 (by decide) ?_
            refine lv_isub hx hb dX6_readPart_135 ?_
            refine q_putf (ty := .int) (wd' := wX6_X4 k a (u2 σ 0 (upd (upd (σ 0) 4 ((σ 0 4) + (1 : Int32))) 3 (((σ 0 4) + (1 : Int32)) - (1 : Int32))))) C0 hW hinX6 tyX6 tyX6_ok nmX6 0 rfl rfl 3 (by decide) hf22 rfl (by decide +kernel) rfl rfl (Nat.le_of_ble_eq_true rfl) dX6_readPart_136 (fX6_s3 _ _ _) ((wX6_X4_s0 k a _ _).trans (congrArg (wX6_X4 k a) (u2_same _ _ _ _))) (fun H locs hW => ?_)
            exact q_vret C0 hW hR dX6_readPart_139
  · have hs := hs.2 c_1
    rw [if_neg c_1] at hR
    exact q_vret C0 hW hR dX6_readPart_9
set_option maxHeartbeats 400000 in
set_option maxRecDepth 100000 in
theorem m_X6_readPart (l : Launch) (D : va_G) (k : Nat → ClassId) (a : Nat → Nat) (sz : Nat) (σ : T2) (hs : S_X6_readPart σ) : Met l yX6_readPart wsX6_readPart { frames := 4, cells := 0, slots := 0, locals := 91 } (va_Pc [.ref (a 0), .ref (a 3)] (q_B D (tyL k) (wX6_X4 k a σ) sz)) (va_Qv (fun u => u = P_X6_readPart σ) (fun u => q_E D (tyL k) (va_A (wX6_X4 k a σ) sz) (wX6_X4 k a u)) (va_A (wX6_X4 k a σ) sz)) 0 0 (va_A (wX6_X4 k a σ) sz) := by
  refine q_met [.ref (a 0), .ref (a 3)] (wX6_X4 k a σ) sz (cc := cX6_readPart) (maxL := 3) (ret := none) (by decide) rfl (Nat.le_of_ble_eq_true rfl) ?_
  intro p e s m args below meth c ls hsz C0 hW hl hin
  subst hsz
  exact b_X6_readPart_b0 l D k a _ C0 _ σ  hs rfl s.heap [] ls hW (lv_sub hl [0, 1] rfl)
theorem hin_X6_read_X4 : ∀ w ∈ u_ws RX4 TX4 2, w ∈ wsX6_read := by decide +kernel
theorem hin_X6_read_X6 : ∀ w ∈ u_ws RX6 TX6 7, w ∈ wsX6_read := by decide +kernel
theorem hd_X6_read : yX6_read.cls = RX6 ∧ yX6_read.cls ≠ "java/lang/invoke/MethodHandle" ∧ yX6_read.cls ≠ "java/lang/invoke/VarHandle" ∧ (parseMethodDescriptor yX6_read.desc).map (fun d => d.parameters.length) = some 1 := by decide +kernel
noncomputable def P_X6_read_b71c (pk33 : T2 → Int32 → T2) (σ : T2) (v2 : Int32) : T2 := pk33 σ (v2 + (1 : Int32))
def S_X6_read_b71c (sk33 : T2 → Int32 → Prop) (σ : T2) (v2 : Int32) : Prop := sk33 σ (v2 + (1 : Int32))
theorem P_X6_read_b71c_e (pk33 : T2 → Int32 → T2) (σ : T2) (v2 : Int32) : P_X6_read_b71c pk33 σ v2 = pk33 σ (v2 + (1 : Int32)) := rfl
theorem S_X6_read_b71c_e (sk33 : T2 → Int32 → Prop) (σ : T2) (v2 : Int32) : S_X6_read_b71c sk33 σ v2 = (sk33 σ (v2 + (1 : Int32))) := rfl
noncomputable def P_X6_read_b66c (pk33 : T2 → Int32 → T2) (σ : T2) (v2 : Int32) : T2 := P_X6_read_b71c pk33 (P_X6_readPart σ) v2
def S_X6_read_b66c (sk33 : T2 → Int32 → Prop) (σ : T2) (v2 : Int32) : Prop := (S_X6_readPart σ ) ∧ (S_X6_read_b71c sk33 (P_X6_readPart σ) v2)
theorem P_X6_read_b66c_e (pk33 : T2 → Int32 → T2) (σ : T2) (v2 : Int32) : P_X6_read_b66c pk33 σ v2 = P_X6_read_b71c pk33 (P_X6_readPart σ) v2 := rfl
theorem S_X6_read_b66c_e (sk33 : T2 → Int32 → Prop) (σ : T2) (v2 : Int32) : S_X6_read_b66c sk33 σ v2 = ((S_X6_readPart σ ) ∧ (S_X6_read_b71c sk33 (P_X6_readPart σ) v2)) := rfl
noncomputable def P_X6_read_b33 (n : Nat) : T2 → Int32 → T2 := Nat.rec (motive := fun _ => T2 → Int32 → T2) (fun _ _ => (fun _ _ => 0)) (fun _ pk33 => fun σ v2 => if (80 : Int32) ≤ v2 then (σ) else (if (σ 0 3) = (-6 : Int32) then (if (σ 3 1) ≤ (σ 0 4) then (σ) else (P_X6_read_b66c pk33 (P_X6_readSign σ (59 : Int32)) v2)) else (σ))) n
def S_X6_read_b33 (n : Nat) : T2 → Int32 → Prop := Nat.rec (motive := fun _ => T2 → Int32 → Prop) (fun _ _ => False) (fun _ sk33 => fun σ v2 => ((80 : Int32) ≤ v2 → (True)) ∧ (¬ ((80 : Int32) ≤ v2) → (((σ 0 3) = (-6 : Int32) → (((σ 3 1) ≤ (σ 0 4) → (True)) ∧ (¬ ((σ 3 1) ≤ (σ 0 4)) → ((S_X6_readSign σ (59 : Int32)) ∧ (S_X6_read_b66c sk33 (P_X6_readSign σ (59 : Int32)) v2))))) ∧ (¬ ((σ 0 3) = (-6 : Int32)) → (True))))) n
theorem P_X6_read_b33_e (n : Nat) (σ : T2) (v2 : Int32) : P_X6_read_b33 (n + 1) σ v2 = if (80 : Int32) ≤ v2 then (σ) else (if (σ 0 3) = (-6 : Int32) then (if (σ 3 1) ≤ (σ 0 4) then (σ) else (P_X6_read_b66c (P_X6_read_b33 n) (P_X6_readSign σ (59 : Int32)) v2)) else (σ)) := rfl
theorem S_X6_read_b33_e (n : Nat) (σ : T2) (v2 : Int32) : S_X6_read_b33 (n + 1) σ v2 = (((80 : Int32) ≤ v2 → (True)) ∧ (¬ ((80 : Int32) ≤ v2) → (((σ 0 3) = (-6 : Int32) → (((σ 3 1) ≤ (σ 0 4) → (True)) ∧ (¬ ((σ 3 1) ≤ (σ 0 4)) → ((S_X6_readSign σ (59 : Int32)) ∧ (S_X6_read_b66c (S_X6_read_b33 n) (P_X6_readSign σ (59 : Int32)) v2))))) ∧ (¬ ((σ 0 3) = (-6 : Int32)) → (True))))) := rfl
noncomputable def P_X6_read_b31c (σ : T2) : T2 := P_X6_read_b33 FU σ (0 : Int32)
def S_X6_read_b31c (σ : T2) : Prop := S_X6_read_b33 FU σ (0 : Int32)
theorem P_X6_read_b31c_e (σ : T2) : P_X6_read_b31c σ = P_X6_read_b33 FU σ (0 : Int32) := rfl
theorem S_X6_read_b31c_e (σ : T2) : S_X6_read_b31c σ = (S_X6_read_b33 FU σ (0 : Int32)) := rfl
noncomputable def P_X6_read_b0 (σ : T2) : T2 := P_X6_read_b31c (P_X6_readPart (u2 σ 0 (upd (upd (upd (upd (upd (σ 0) 2 (0 : Int32)) 3 (-6 : Int32)) 4 (0 : Int32)) 5 (0 : Int32)) 6 (0 : Int32))))
def S_X6_read_b0 (σ : T2) : Prop := (S_X6_readPart (u2 σ 0 (upd (upd (upd (upd (upd (σ 0) 2 (0 : Int32)) 3 (-6 : Int32)) 4 (0 : Int32)) 5 (0 : Int32)) 6 (0 : Int32))) ) ∧ (S_X6_read_b31c (P_X6_readPart (u2 σ 0 (upd (upd (upd (upd (upd (σ 0) 2 (0 : Int32)) 3 (-6 : Int32)) 4 (0 : Int32)) 5 (0 : Int32)) 6 (0 : Int32)))))
theorem P_X6_read_b0_e (σ : T2) : P_X6_read_b0 σ = P_X6_read_b31c (P_X6_readPart (u2 σ 0 (upd (upd (upd (upd (upd (σ 0) 2 (0 : Int32)) 3 (-6 : Int32)) 4 (0 : Int32)) 5 (0 : Int32)) 6 (0 : Int32)))) := rfl
theorem S_X6_read_b0_e (σ : T2) : S_X6_read_b0 σ = ((S_X6_readPart (u2 σ 0 (upd (upd (upd (upd (upd (σ 0) 2 (0 : Int32)) 3 (-6 : Int32)) 4 (0 : Int32)) 5 (0 : Int32)) 6 (0 : Int32))) ) ∧ (S_X6_read_b31c (P_X6_readPart (u2 σ 0 (upd (upd (upd (upd (upd (σ 0) 2 (0 : Int32)) 3 (-6 : Int32)) 4 (0 : Int32)) 5 (0 : Int32)) 6 (0 : Int32)))))) := rfl
noncomputable def P_X6_read (σ : T2) : T2 := P_X6_read_b0 σ
def S_X6_read (σ : T2) : Prop := S_X6_read_b0 σ
set_option maxHeartbeats 400000 in
set_option maxRecDepth 100000 in
theorem b_X6_read_b71c {p : Program} {e : Env} {s : State} {m : MethodId} {args : Array Value} {below : List Frame} {meth : Method} {c : Code} (l : Launch) (D : va_G) (k : Nat → ClassId) (a : Nat → Nat) (A : Nat → Prop) (C0 : q_C p s m meth c args RX6 cX6_read 3 none wsX6_read D (tyL k) A) (R : T2) (pk33 : T2 → Int32 → T2) (sk33 : T2 → Int32 → Prop) (hk33 : ∀ (σ : T2) (v2 : Int32), sk33 σ v2 → pk33 σ v2 = R → ∀ (H : Heap) (locs : List Loc) (ls : Array Slot), q_W D A s.heap (wX6_X4 k a σ) H locs → lv_has ls 3 [(0, .ref (a 0)), (1, .ref (a 3)), (2, .int v2)] → W p l e { frames := 5, cells := 0, slots := 0, locals := 113 } s m args below meth c H locs 0 0 (MQ below (va_Qv (fun u => u = R) (fun u => q_E D (tyL k) A (wX6_X4 k a u)) A) args s 0 0 A) (F0 m 33 ls [])) : ∀ (σ : T2) (v2 : Int32), S_X6_read_b71c sk33 σ v2 → P_X6_read_b71c pk33 σ v2 = R → ∀ (H : Heap) (locs : List Loc) (ls : Array Slot), q_W D A s.heap (wX6_X4 k a σ) H locs → lv_has ls 3 [(0, .ref (a 0)), (1, .ref (a 3)), (2, .int v2)] → W p l e { frames := 5, cells := 0, slots := 0, locals := 113 } s m args below meth c H locs 0 0 (MQ below (va_Qv (fun u => u = R) (fun u => q_E D (tyL k) A (wX6_X4 k a u)) A) args s 0 0 A) (F0 m 71 ls []) := by
  intro σ v2 hs hR H locs ls hW hl
  rw [P_X6_read_b71c_e] at hR
  rw [S_X6_read_b71c_e] at hs
  obtain ⟨hx, hb, hr, hml, hts, hown, hlocks, hK, hA⟩ := id C0
  refine lv_iinc (v := v2 + (1 : Int32)) (lv' := [(2, .int (v2 + (1 : Int32))), (0, .ref (a 0)), (1, .ref (a 3))]) hx hb dX6_read_71 hl (k := 2) rfl rfl (by decide) rfl (fun ls hl => ?_)
  refine lv_goto (tgt := 33) hx hb dX6_read_74 (by decide) ?_
  exact hk33 σ (v2 + (1 : Int32)) hs hR H locs ls hW (lv_sub hl [1, 2, 0] rfl)
set_option maxHeartbeats 400000 in
set_option maxRecDepth 100000 in
theorem b_X6_read_b66c {p : Program} {e : Env} {s : State} {m : MethodId} {args : Array Value} {below : List Frame} {meth : Method} {c : Code} (l : Launch) (D : va_G) (k : Nat → ClassId) (a : Nat → Nat) (A : Nat → Prop) (C0 : q_C p s m meth c args RX6 cX6_read 3 none wsX6_read D (tyL k) A) (R : T2) (pk33 : T2 → Int32 → T2) (sk33 : T2 → Int32 → Prop) (hk33 : ∀ (σ : T2) (v2 : Int32), sk33 σ v2 → pk33 σ v2 = R → ∀ (H : Heap) (locs : List Loc) (ls : Array Slot), q_W D A s.heap (wX6_X4 k a σ) H locs → lv_has ls 3 [(0, .ref (a 0)), (1, .ref (a 3)), (2, .int v2)] → W p l e { frames := 5, cells := 0, slots := 0, locals := 113 } s m args below meth c H locs 0 0 (MQ below (va_Qv (fun u => u = R) (fun u => q_E D (tyL k) A (wX6_X4 k a u)) A) args s 0 0 A) (F0 m 33 ls [])) : ∀ (σ : T2) (v2 : Int32), S_X6_read_b66c sk33 σ v2 → P_X6_read_b66c pk33 σ v2 = R → ∀ (H : Heap) (locs : List Loc) (ls : Array Slot), q_W D A s.heap (wX6_X4 k a σ) H locs → lv_has ls 3 [(0, .ref (a 0)), (1, .ref (a 3)), (2, .int v2)] → W p l e { frames := 5, cells := 0, slots := 0, locals := 113 } s m args below meth c H locs 0 0 (MQ below (va_Qv (fun u => u = R) (fun u => q_E D (tyL k) A (wX6_X4 k a u)) A) args s 0 0 A) (F0 m 66 ls []) := by
  intro σ v2 hs hR H locs ls hW hl
  rw [P_X6_read_b66c_e] at hR
  rw [S_X6_read_b66c_e] at hs
  obtain ⟨hx, hb, hr, hml, hts, hown, hlocks, hK, hA⟩ := id C0
  refine lv_aload_n hx hb dX6_read_66 rfl (lv_at hl 0 rfl) ?_
  refine lv_aload_n hx hb dX6_read_67 rfl (lv_at hl 1 rfl) ?_
  have hs6 := hs.1
  have hs := hs.2
  refine q_Vv (As := [.ref (a 3)]) (rest := []) (wf := wX6_X4 k a) (R := P_X6_readPart σ) (wd' := wX6_X4 k a (P_X6_readPart σ)) [0, 1, 2, 3, 4] [0, 1, 2, 3] 0 6 C0 hW (m_X6_readPart l D k a H.size σ  hs6) (cwV 1 hts gX6_read_X6_readPart rfl rfl rfl hd_X6_readPart ⟨Nat.le_of_ble_eq_true rfl, Nat.le_of_ble_eq_true rfl⟩) (by decide) (wX6_X4_pl k a _) rfl (wX6_X4_rec k a _) rfl (wX6_X4_fst k a _ _) (wX6_X4_put k a _ _) hl rfl rfl (Nat.le_of_ble_eq_true rfl) dX6_read_68 ⟨Nat.le_refl 0, Nat.le_refl 0⟩ (fun H locs hW => ?_)
  exact b_X6_read_b71c l D k a A C0 R pk33 sk33 hk33 (P_X6_readPart σ) v2 hs hR H locs ls hW (lv_sub hl [0, 1, 2] rfl)
set_option maxHeartbeats 400000 in
set_option maxRecDepth 100000 in
theorem b_X6_read_b33 {p : Program} {e : Env} {s : State} {m : MethodId} {args : Array Value} {below : List Frame} {meth : Method} {c : Code} (l : Launch) (D : va_G) (k : Nat → ClassId) (a : Nat → Nat) (A : Nat → Prop) (C0 : q_C p s m meth c args RX6 cX6_read 3 none wsX6_read D (tyL k) A) (R : T2) : ∀ n : Nat, ∀ (σ : T2) (v2 : Int32), S_X6_read_b33 n σ v2 → P_X6_read_b33 n σ v2 = R → ∀ (H : Heap) (locs : List Loc) (ls : Array Slot), q_W D A s.heap (wX6_X4 k a σ) H locs → lv_has ls 3 [(0, .ref (a 0)), (1, .ref (a 3)), (2, .int v2)] → W p l e { frames := 5, cells := 0, slots := 0, locals := 113 } s m args below meth c H locs 0 0 (MQ below (va_Qv (fun u => u = R) (fun u => q_E D (tyL k) A (wX6_X4 k a u)) A) args s 0 0 A) (F0 m 33 ls []) := by
  intro n
  induction n with
  | zero => intro σ v2 hs; exact False.elim hs
  | succ n ih =>
    intro σ v2 hs hR H locs ls hW hl
    rw [P_X6_read_b33_e] at hR
    rw [S_X6_read_b33_e] at hs
    obtain ⟨hx, hb, hr, hml, hts, hown, hlocks, hK, hA⟩ := id C0
    have hf22 := hts (.fieldLink RX6 22 "BeatFollower$Reader" "fault" "I") (by decide +kernel)
    have hf25 := hts (.fieldLink RX6 25 "BeatFollower$Reader" "place" "I") (by decide +kernel)
    have hf38 := hts (.fieldLink RX6 38 "BeatFollower$Pad" "length" "I") (by decide +kernel)
    have hinX4 : ∀ w ∈ u_ws RX4 TX4 2, w ∈ wsX6_read := hin_X6_read_X4
    have hinX6 : ∀ w ∈ u_ws RX6 TX6 7, w ∈ wsX6_read := hin_X6_read_X6
    refine lv_iload_n hx hb dX6_read_33 rfl (lv_at hl 2 rfl) ?_
    refine lv_bipush (v := (80 : Int32)) hx hb dX6_read_34 (by decide) ?_
    refine lv_icmp_ge (tgt := 77) hx hb dX6_read_36 (by decide) (fun c_2 => ?_) (fun c_2 => ?_)
    · have hs := hs.1 c_2
      rw [if_pos c_2] at hR
      exact q_vret C0 hW hR dX6_read_77
    · have hs := hs.2 c_2
      rw [if_neg c_2] at hR
      refine lv_aload_n hx hb dX6_read_39 rfl (lv_at hl 0 rfl) ?_
      refine va_get (v := .int (σ 0 3)) (C := RX6) (T := TX6) (N := 7) hx hb hts hinX6 hown hK hW.1 0 rfl rfl 3 (by decide) hf22 (fun _ h9 => h9) rfl dX6_read_40 ?_
      refine lv_bipush (v := (-6 : Int32)) hx hb dX6_read_43 (by decide) ?_
      refine lv_icmp_ne (tgt := 77) hx hb dX6_read_45 (by decide) (fun c_3 => ?_) (fun c_3 => ?_)
      · have hs := hs.2 c_3
        rw [if_neg c_3] at hR
        exact q_vret C0 hW hR dX6_read_77
      · have hs := hs.1 c_3
        rw [if_pos c_3] at hR
        refine lv_aload_n hx hb dX6_read_48 rfl (lv_at hl 0 rfl) ?_
        refine va_get (v := .int (σ 0 4)) (C := RX6) (T := TX6) (N := 7) hx hb hts hinX6 hown hK hW.1 0 rfl rfl 4 (by decide) hf25 (fun _ h9 => h9) rfl dX6_read_49 ?_
        refine lv_aload_n hx hb dX6_read_52 rfl (lv_at hl 1 rfl) ?_
        refine va_get (v := .int (σ 3 1)) (C := RX4) (T := TX4) (N := 2) hx hb hts hinX4 hown hK hW.1 3 rfl rfl 1 (by decide) hf38 (fun _ h9 => h9) rfl dX6_read_53 ?_
        refine lv_icmp_ge (tgt := 77) hx hb dX6_read_56 (by decide) (fun c_4 => ?_) (fun c_4 => ?_)
        · have hs := hs.1 c_4
          rw [if_pos c_4] at hR
          exact q_vret C0 hW hR dX6_read_77
        · have hs := hs.2 c_4
          rw [if_neg c_4] at hR
          refine lv_aload_n hx hb dX6_read_59 rfl (lv_at hl 0 rfl) ?_
          refine lv_aload_n hx hb dX6_read_60 rfl (lv_at hl 1 rfl) ?_
          refine lv_bipush (v := (59 : Int32)) hx hb dX6_read_61 (by decide) ?_
          have hs5 := hs.1
          have hs := hs.2
          refine q_Vv (As := [.ref (a 3), .int (59 : Int32)]) (rest := []) (wf := wX6_X4 k a) (R := P_X6_readSign σ (59 : Int32)) (wd' := wX6_X4 k a (P_X6_readSign σ (59 : Int32))) [0, 1, 2, 3, 4] [0, 1, 2, 3] 0 6 C0 hW (m_X6_readSign l D k a H.size σ (59 : Int32) hs5) (cwV 2 hts gX6_read_X6_readSign rfl rfl rfl hd_X6_readSign ⟨Nat.le_of_ble_eq_true rfl, Nat.le_of_ble_eq_true rfl⟩) (by decide) (wX6_X4_pl k a _) rfl (wX6_X4_rec k a _) rfl (wX6_X4_fst k a _ _) (wX6_X4_put k a _ _) hl rfl rfl (Nat.le_of_ble_eq_true rfl) dX6_read_63 ⟨Nat.le_refl 0, Nat.le_refl 0⟩ (fun H locs hW => ?_)
          exact b_X6_read_b66c l D k a A C0 R _ _ ih (P_X6_readSign σ (59 : Int32)) v2 hs hR H locs ls hW (lv_sub hl [0, 1, 2] rfl)
set_option maxHeartbeats 400000 in
set_option maxRecDepth 100000 in
theorem b_X6_read_b31c {p : Program} {e : Env} {s : State} {m : MethodId} {args : Array Value} {below : List Frame} {meth : Method} {c : Code} (l : Launch) (D : va_G) (k : Nat → ClassId) (a : Nat → Nat) (A : Nat → Prop) (C0 : q_C p s m meth c args RX6 cX6_read 3 none wsX6_read D (tyL k) A) (R : T2) : ∀ (σ : T2), S_X6_read_b31c σ → P_X6_read_b31c σ = R → ∀ (H : Heap) (locs : List Loc) (ls : Array Slot), q_W D A s.heap (wX6_X4 k a σ) H locs → lv_has ls 3 [(0, .ref (a 0)), (1, .ref (a 3))] → W p l e { frames := 5, cells := 0, slots := 0, locals := 113 } s m args below meth c H locs 0 0 (MQ below (va_Qv (fun u => u = R) (fun u => q_E D (tyL k) A (wX6_X4 k a u)) A) args s 0 0 A) (F0 m 31 ls []) := by
  intro σ hs hR H locs ls hW hl
  rw [P_X6_read_b31c_e] at hR
  rw [S_X6_read_b31c_e] at hs
  obtain ⟨hx, hb, hr, hml, hts, hown, hlocks, hK, hA⟩ := id C0
  refine lv_iconst (v := (0 : Int32)) hx hb dX6_read_31 (by decide) ?_
  refine lv_istore_n (lv' := [(2, .int (0 : Int32)), (0, .ref (a 0)), (1, .ref (a 3))]) hx hb dX6_read_32 rfl hl (by decide) rfl (fun ls hl => ?_)
  exact b_X6_read_b33 l D k a A C0 R FU σ (0 : Int32) hs hR H locs ls hW (lv_sub hl [1, 2, 0] rfl)
set_option maxHeartbeats 400000 in
set_option maxRecDepth 100000 in
theorem b_X6_read_b0 {p : Program} {e : Env} {s : State} {m : MethodId} {args : Array Value} {below : List Frame} {meth : Method} {c : Code} (l : Launch) (D : va_G) (k : Nat → ClassId) (a : Nat → Nat) (A : Nat → Prop) (C0 : q_C p s m meth c args RX6 cX6_read 3 none wsX6_read D (tyL k) A) (R : T2) : ∀ (σ : T2), S_X6_read_b0 σ → P_X6_read_b0 σ = R → ∀ (H : Heap) (locs : List Loc) (ls : Array Slot), q_W D A s.heap (wX6_X4 k a σ) H locs → lv_has ls 3 [(0, .ref (a 0)), (1, .ref (a 3))] → W p l e { frames := 5, cells := 0, slots := 0, locals := 113 } s m args below meth c H locs 0 0 (MQ below (va_Qv (fun u => u = R) (fun u => q_E D (tyL k) A (wX6_X4 k a u)) A) args s 0 0 A) (F0 m 0 ls []) := by
  intro σ hs hR H locs ls hW hl
  rw [P_X6_read_b0_e] at hR
  rw [S_X6_read_b0_e] at hs
  obtain ⟨hx, hb, hr, hml, hts, hown, hlocks, hK, hA⟩ := id C0
  have hf18 := hts (.fieldLink RX6 18 "BeatFollower$Reader" "many" "I") (by decide +kernel)
  have hf22 := hts (.fieldLink RX6 22 "BeatFollower$Reader" "fault" "I") (by decide +kernel)
  have hf25 := hts (.fieldLink RX6 25 "BeatFollower$Reader" "place" "I") (by decide +kernel)
  have hf28 := hts (.fieldLink RX6 28 "BeatFollower$Reader" "laid" "I") (by decide +kernel)
  have hf31 := hts (.fieldLink RX6 31 "BeatFollower$Reader" "missed" "I") (by decide +kernel)
  have hinX6 : ∀ w ∈ u_ws RX6 TX6 7, w ∈ wsX6_read := hin_X6_read_X6
  refine lv_aload_n hx hb dX6_read_0 rfl (lv_at hl 0 rfl) ?_
  refine lv_iconst (v := (0 : Int32)) hx hb dX6_read_1 (by decide) ?_
  refine q_putf (ty := .int) (wd' := wX6_X4 k a (u2 σ 0 (upd (σ 0) 2 (0 : Int32)))) C0 hW hinX6 tyX6 tyX6_ok nmX6 0 rfl rfl 2 (by decide) hf18 rfl (by decide +kernel) rfl rfl (Nat.le_of_ble_eq_true rfl) dX6_read_2 (fX6_s2 _ _ _) (wX6_X4_s0 k a _ _) (fun H locs hW => ?_)
  refine lv_aload_n hx hb dX6_read_5 rfl (lv_at hl 0 rfl) ?_
  refine lv_bipush (v := (-6 : Int32)) hx hb dX6_read_6 (by decide) ?_
  refine q_putf (ty := .int) (wd' := wX6_X4 k a (u2 σ 0 (upd (upd (σ 0) 2 (0 : Int32)) 3 (-6 : Int32)))) C0 hW hinX6 tyX6 tyX6_ok nmX6 0 rfl rfl 3 (by decide) hf22 rfl (by decide +kernel) rfl rfl (Nat.le_of_ble_eq_true rfl) dX6_read_8 (fX6_s3 _ _ _) ((wX6_X4_s0 k a _ _).trans (congrArg (wX6_X4 k a) (u2_same _ _ _ _))) (fun H locs hW => ?_)
  refine lv_aload_n hx hb dX6_read_11 rfl (lv_at hl 0 rfl) ?_
  refine lv_iconst (v := (0 : Int32)) hx hb dX6_read_12 (by decide) ?_
  refine q_putf (ty := .int) (wd' := wX6_X4 k a (u2 σ 0 (upd (upd (upd (σ 0) 2 (0 : Int32)) 3 (-6 : Int32)) 4 (0 : Int32)))) C0 hW hinX6 tyX6 tyX6_ok nmX6 0 rfl rfl 4 (by decide) hf25 rfl (by decide +kernel) rfl rfl (Nat.le_of_ble_eq_true rfl) dX6_read_13 (fX6_s4 _ _ _) ((wX6_X4_s0 k a _ _).trans (congrArg (wX6_X4 k a) (u2_same _ _ _ _))) (fun H locs hW => ?_)
  refine lv_aload_n hx hb dX6_read_16 rfl (lv_at hl 0 rfl) ?_
  refine lv_iconst (v := (0 : Int32)) hx hb dX6_read_17 (by decide) ?_
  refine q_putf (ty := .int) (wd' := wX6_X4 k a (u2 σ 0 (upd (upd (upd (upd (σ 0) 2 (0 : Int32)) 3 (-6 : Int32)) 4 (0 : Int32)) 5 (0 : Int32)))) C0 hW hinX6 tyX6 tyX6_ok nmX6 0 rfl rfl 5 (by decide) hf28 rfl (by decide +kernel) rfl rfl (Nat.le_of_ble_eq_true rfl) dX6_read_18 (fX6_s5 _ _ _) ((wX6_X4_s0 k a _ _).trans (congrArg (wX6_X4 k a) (u2_same _ _ _ _))) (fun H locs hW => ?_)
  refine lv_aload_n hx hb dX6_read_21 rfl (lv_at hl 0 rfl) ?_
  refine lv_iconst (v := (0 : Int32)) hx hb dX6_read_22 (by decide) ?_
  refine q_putf (ty := .int) (wd' := wX6_X4 k a (u2 σ 0 (upd (upd (upd (upd (upd (σ 0) 2 (0 : Int32)) 3 (-6 : Int32)) 4 (0 : Int32)) 5 (0 : Int32)) 6 (0 : Int32)))) C0 hW hinX6 tyX6 tyX6_ok nmX6 0 rfl rfl 6 (by decide) hf31 rfl (by decide +kernel) rfl rfl (Nat.le_of_ble_eq_true rfl) dX6_read_23 (fX6_s6 _ _ _) ((wX6_X4_s0 k a _ _).trans (congrArg (wX6_X4 k a) (u2_same _ _ _ _))) (fun H locs hW => ?_)
  refine lv_aload_n hx hb dX6_read_26 rfl (lv_at hl 0 rfl) ?_
  refine lv_aload_n hx hb dX6_read_27 rfl (lv_at hl 1 rfl) ?_
  have hs1 := hs.1
  have hs := hs.2
  refine q_Vv (As := [.ref (a 3)]) (rest := []) (wf := wX6_X4 k a) (R := P_X6_readPart (u2 σ 0 (upd (upd (upd (upd (upd (σ 0) 2 (0 : Int32)) 3 (-6 : Int32)) 4 (0 : Int32)) 5 (0 : Int32)) 6 (0 : Int32)))) (wd' := wX6_X4 k a (P_X6_readPart (u2 σ 0 (upd (upd (upd (upd (upd (σ 0) 2 (0 : Int32)) 3 (-6 : Int32)) 4 (0 : Int32)) 5 (0 : Int32)) 6 (0 : Int32))))) [0, 1, 2, 3, 4] [0, 1, 2, 3] 0 6 C0 hW (m_X6_readPart l D k a H.size (u2 σ 0 (upd (upd (upd (upd (upd (σ 0) 2 (0 : Int32)) 3 (-6 : Int32)) 4 (0 : Int32)) 5 (0 : Int32)) 6 (0 : Int32)))  hs1) (cwV 1 hts gX6_read_X6_readPart rfl rfl rfl hd_X6_readPart ⟨Nat.le_of_ble_eq_true rfl, Nat.le_of_ble_eq_true rfl⟩) (by decide) (wX6_X4_pl k a _) rfl (wX6_X4_rec k a _) rfl (wX6_X4_fst k a _ _) (wX6_X4_put k a _ _) hl rfl rfl (Nat.le_of_ble_eq_true rfl) dX6_read_28 ⟨Nat.le_refl 0, Nat.le_refl 0⟩ (fun H locs hW => ?_)
  exact b_X6_read_b31c l D k a A C0 R (P_X6_readPart (u2 σ 0 (upd (upd (upd (upd (upd (σ 0) 2 (0 : Int32)) 3 (-6 : Int32)) 4 (0 : Int32)) 5 (0 : Int32)) 6 (0 : Int32)))) hs hR H locs ls hW (lv_sub hl [0, 1] rfl)
set_option maxHeartbeats 400000 in
set_option maxRecDepth 100000 in
theorem m_X6_read (l : Launch) (D : va_G) (k : Nat → ClassId) (a : Nat → Nat) (sz : Nat) (σ : T2) (hs : S_X6_read σ) : Met l yX6_read wsX6_read { frames := 5, cells := 0, slots := 0, locals := 113 } (va_Pc [.ref (a 0), .ref (a 3)] (q_B D (tyL k) (wX6_X4 k a σ) sz)) (va_Qv (fun u => u = P_X6_read σ) (fun u => q_E D (tyL k) (va_A (wX6_X4 k a σ) sz) (wX6_X4 k a u)) (va_A (wX6_X4 k a σ) sz)) 0 0 (va_A (wX6_X4 k a σ) sz) := by
  refine q_met [.ref (a 0), .ref (a 3)] (wX6_X4 k a σ) sz (cc := cX6_read) (maxL := 3) (ret := none) (by decide) rfl (Nat.le_of_ble_eq_true rfl) ?_
  intro p e s m args below meth c ls hsz C0 hW hl hin
  subst hsz
  exact b_X6_read_b0 l D k a _ C0 _ σ  hs rfl s.heap [] ls hW (lv_sub hl [0, 1] rfl)
