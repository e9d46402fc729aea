theorem cl_0 : (0 : Int32).toNatClampNeg = 0 := by decide
theorem cl_2 : (2 : Int32).toNatClampNeg = 2 := by decide
theorem cl_3 : (3 : Int32).toNatClampNeg = 3 := by decide
theorem cl_4 : (4 : Int32).toNatClampNeg = 4 := by decide
theorem cl_7 : (7 : Int32).toNatClampNeg = 7 := by decide
theorem cl_11 : (11 : Int32).toNatClampNeg = 11 := by decide
theorem cl_13 : (13 : Int32).toNatClampNeg = 13 := by decide
theorem cl_14 : (14 : Int32).toNatClampNeg = 14 := by decide
theorem cl_15 : (15 : Int32).toNatClampNeg = 15 := by decide
theorem cl_18 : (18 : Int32).toNatClampNeg = 18 := by decide
theorem cl_21 : (21 : Int32).toNatClampNeg = 21 := by decide
theorem cl_22 : (22 : Int32).toNatClampNeg = 22 := by decide
theorem cl_23 : (23 : Int32).toNatClampNeg = 23 := by decide
theorem cl_24 : (24 : Int32).toNatClampNeg = 24 := by decide
theorem cl_25 : (25 : Int32).toNatClampNeg = 25 := by decide
theorem cl_26 : (26 : Int32).toNatClampNeg = 26 := by decide
theorem cl_27 : (27 : Int32).toNatClampNeg = 27 := by decide
theorem vi_0_672 : vp_in 0 672 := by unfold vp_in; decide
theorem vi_2_672 : vp_in 2 672 := by unfold vp_in; decide
theorem vi_3_672 : vp_in 3 672 := by unfold vp_in; decide
theorem vi_4_672 : vp_in 4 672 := by unfold vp_in; decide
theorem vi_7_672 : vp_in 7 672 := by unfold vp_in; decide
theorem vi_11_672 : vp_in 11 672 := by unfold vp_in; decide
theorem vi_13_672 : vp_in 13 672 := by unfold vp_in; decide
theorem vi_14_672 : vp_in 14 672 := by unfold vp_in; decide
theorem vi_15_672 : vp_in 15 672 := by unfold vp_in; decide
theorem vi_18_672 : vp_in 18 672 := by unfold vp_in; decide
theorem vi_21_672 : vp_in 21 672 := by unfold vp_in; decide
theorem vi_22_672 : vp_in 22 672 := by unfold vp_in; decide
theorem vi_23_672 : vp_in 23 672 := by unfold vp_in; decide
theorem vi_24_672 : vp_in 24 672 := by unfold vp_in; decide
theorem vi_25_672 : vp_in 25 672 := by unfold vp_in; decide
theorem vi_26_672 : vp_in 26 672 := by unfold vp_in; decide
theorem vi_27_672 : vp_in 27 672 := by unfold vp_in; decide
theorem hin_X10_begin_X10 : ∀ w ∈ u_ws RX10 TX10 18, w ∈ wsX10_begin := by decide +kernel
theorem hd_X10_begin : yX10_begin.cls = RX10 ∧ yX10_begin.cls ≠ "java/lang/invoke/MethodHandle" ∧ yX10_begin.cls ≠ "java/lang/invoke/VarHandle" ∧ (parseMethodDescriptor yX10_begin.desc).map (fun d => d.parameters.length) = some 1 := by decide +kernel
noncomputable def P_X10_begin_b62c (σ : T2) : T2 := P_X10_endBlow σ
def S_X10_begin_b62c (σ : T2) : Prop := (S_X10_endBlow σ ) ∧ (True)
theorem P_X10_begin_b62c_e (σ : T2) : P_X10_begin_b62c σ = P_X10_endBlow σ := rfl
theorem S_X10_begin_b62c_e (σ : T2) : S_X10_begin_b62c σ = ((S_X10_endBlow σ ) ∧ (True)) := rfl
noncomputable def P_X10_begin_b13c (σ : T2) (v1 : Int32) (t0 : Int32) : T2 := P_X10_begin_b62c (P_X10_become (u2 σ 1 (upd (upd (σ 1) 11 (((4 : Int32) * (P_X10_ofB σ v1 (0 : Int32))) + (σ 1 10))) 25 ((P_X10_ofB (u2 σ 1 (upd (σ 1) 11 (((4 : Int32) * (P_X10_ofB σ v1 (0 : Int32))) + (σ 1 10)))) v1 (1 : Int32)) - t0))) v1 (3 : Int32) t0 (-6 : Int32) (0 : Int32))
def S_X10_begin_b13c (σ : T2) (v1 : Int32) (t0 : Int32) : Prop := (S_X10_ofB σ v1 (0 : Int32)) ∧ ((S_X10_ofB (u2 σ 1 (upd (σ 1) 11 (((4 : Int32) * (P_X10_ofB σ v1 (0 : Int32))) + (σ 1 10)))) v1 (1 : Int32)) ∧ ((S_X10_become (u2 σ 1 (upd (upd (σ 1) 11 (((4 : Int32) * (P_X10_ofB σ v1 (0 : Int32))) + (σ 1 10))) 25 ((P_X10_ofB (u2 σ 1 (upd (σ 1) 11 (((4 : Int32) * (P_X10_ofB σ v1 (0 : Int32))) + (σ 1 10)))) v1 (1 : Int32)) - t0))) v1 (3 : Int32) t0 (-6 : Int32) (0 : Int32)) ∧ (S_X10_begin_b62c (P_X10_become (u2 σ 1 (upd (upd (σ 1) 11 (((4 : Int32) * (P_X10_ofB σ v1 (0 : Int32))) + (σ 1 10))) 25 ((P_X10_ofB (u2 σ 1 (upd (σ 1) 11 (((4 : Int32) * (P_X10_ofB σ v1 (0 : Int32))) + (σ 1 10)))) v1 (1 : Int32)) - t0))) v1 (3 : Int32) t0 (-6 : Int32) (0 : Int32)))))
theorem P_X10_begin_b13c_e (σ : T2) (v1 : Int32) (t0 : Int32) : P_X10_begin_b13c σ v1 t0 = P_X10_begin_b62c (P_X10_become (u2 σ 1 (upd (upd (σ 1) 11 (((4 : Int32) * (P_X10_ofB σ v1 (0 : Int32))) + (σ 1 10))) 25 ((P_X10_ofB (u2 σ 1 (upd (σ 1) 11 (((4 : Int32) * (P_X10_ofB σ v1 (0 : Int32))) + (σ 1 10)))) v1 (1 : Int32)) - t0))) v1 (3 : Int32) t0 (-6 : Int32) (0 : Int32)) := rfl
theorem S_X10_begin_b13c_e (σ : T2) (v1 : Int32) (t0 : Int32) : S_X10_begin_b13c σ v1 t0 = ((S_X10_ofB σ v1 (0 : Int32)) ∧ ((S_X10_ofB (u2 σ 1 (upd (σ 1) 11 (((4 : Int32) * (P_X10_ofB σ v1 (0 : Int32))) + (σ 1 10)))) v1 (1 : Int32)) ∧ ((S_X10_become (u2 σ 1 (upd (upd (σ 1) 11 (((4 : Int32) * (P_X10_ofB σ v1 (0 : Int32))) + (σ 1 10))) 25 ((P_X10_ofB (u2 σ 1 (upd (σ 1) 11 (((4 : Int32) * (P_X10_ofB σ v1 (0 : Int32))) + (σ 1 10)))) v1 (1 : Int32)) - t0))) v1 (3 : Int32) t0 (-6 : Int32) (0 : Int32)) ∧ (S_X10_begin_b62c (P_X10_become (u2 σ 1 (upd (upd (σ 1) 11 (((4 : Int32) * (P_X10_ofB σ v1 (0 : Int32))) + (σ 1 10))) 25 ((P_X10_ofB (u2 σ 1 (upd (σ 1) 11 (((4 : Int32) * (P_X10_ofB σ v1 (0 : Int32))) + (σ 1 10)))) v1 (1 : Int32)) - t0))) v1 (3 : Int32) t0 (-6 : Int32) (0 : Int32)))))) := rfl
noncomputable def P_X10_begin_b0 (σ : T2) (v1 : Int32) : T2 := P_X10_begin_b13c ((P_X10_strike σ ((4 : Int32) * (P_X10_ofB σ v1 (0 : Int32))) v1).2) v1 ((P_X10_strike σ ((4 : Int32) * (P_X10_ofB σ v1 (0 : Int32))) v1).1)
def S_X10_begin_b0 (σ : T2) (v1 : Int32) : Prop := (S_X10_ofB σ v1 (0 : Int32)) ∧ ((S_X10_strike σ ((4 : Int32) * (P_X10_ofB σ v1 (0 : Int32))) v1) ∧ (S_X10_begin_b13c ((P_X10_strike σ ((4 : Int32) * (P_X10_ofB σ v1 (0 : Int32))) v1).2) v1 ((P_X10_strike σ ((4 : Int32) * (P_X10_ofB σ v1 (0 : Int32))) v1).1)))
theorem P_X10_begin_b0_e (σ : T2) (v1 : Int32) : P_X10_begin_b0 σ v1 = P_X10_begin_b13c ((P_X10_strike σ ((4 : Int32) * (P_X10_ofB σ v1 (0 : Int32))) v1).2) v1 ((P_X10_strike σ ((4 : Int32) * (P_X10_ofB σ v1 (0 : Int32))) v1).1) := rfl
theorem S_X10_begin_b0_e (σ : T2) (v1 : Int32) : S_X10_begin_b0 σ v1 = ((S_X10_ofB σ v1 (0 : Int32)) ∧ ((S_X10_strike σ ((4 : Int32) * (P_X10_ofB σ v1 (0 : Int32))) v1) ∧ (S_X10_begin_b13c ((P_X10_strike σ ((4 : Int32) * (P_X10_ofB σ v1 (0 : Int32))) v1).2) v1 ((P_X10_strike σ ((4 : Int32) * (P_X10_ofB σ v1 (0 : Int32))) v1).1)))) := rfl
noncomputable def P_X10_begin (σ : T2) (p0 : Int32) : T2 := P_X10_begin_b0 σ p0
def S_X10_begin (σ : T2) (p0 : Int32) : Prop := S_X10_begin_b0 σ p0
set_option maxHeartbeats 400000 in
set_option maxRecDepth 100000 in
theorem b_X10_begin_b62c {p : Program} {e : Env} {s : State} {m : MethodId} {args : Array Value} {below : List Frame} {meth : Method} {c : Code} (l : Launch) (D : va_G) (k : Nat → ClassId) (a : Nat → Nat) (A : Nat → Prop) (C0 : q_C p s m meth c args RX10 cX10_begin 3 none wsX10_begin D (tyL k) A) (R : T2) : ∀ (σ : T2), S_X10_begin_b62c σ → P_X10_begin_b62c σ = R → ∀ (H : Heap) (locs : List Loc) (ls : Array Slot), q_W D A s.heap (wX10 k a σ) H locs → lv_has ls 3 [(0, .ref (a 0))] → W p l e { frames := 2, cells := 0, slots := 0, locals := 48 } s m args below meth c H locs 0 0 (MQ below (va_Qv (fun u => u = R) (fun u => q_E D (tyL k) A (wX10 k a u)) A) args s 0 0 A) (F0 m 62 ls []) := by
  intro σ hs hR H locs ls hW hl
  rw [P_X10_begin_b62c_e] at hR
  rw [S_X10_begin_b62c_e] at hs
  obtain ⟨hx, hb, hr, hml, hts, hown, hlocks, hK, hA⟩ := id C0
  refine lv_aload_n hx hb dX10_begin_62 rfl (lv_at hl 0 rfl) ?_
  have hs6 := hs.1
  have hs := hs.2
  refine q_Vv (As := []) (rest := []) (wf := wX10 k a) (R := P_X10_endBlow σ) (wd' := wX10 k a (P_X10_endBlow σ)) [0, 1, 2, 3, 4, 5, 6, 7, 8] [0, 1, 2, 3] 0 10 C0 hW (m_X10_endBlow l D k a H.size σ  hs6) (cwV 0 hts gX10_begin_X10_endBlow rfl rfl rfl hd_X10_endBlow ⟨Nat.le_of_ble_eq_true rfl, Nat.le_of_ble_eq_true rfl⟩) (by decide) (wX10_pl k a _) rfl (wX10_rec k a _) rfl (wX10_fst k a _ _) (wX10_put k a _ _) hl rfl rfl (Nat.le_of_ble_eq_true rfl) dX10_begin_63 ⟨Nat.le_refl 0, Nat.le_refl 0⟩ (fun H locs hW => ?_)
  exact q_vret C0 hW hR dX10_begin_66
set_option maxHeartbeats 400000 in
set_option maxRecDepth 100000 in
theorem b_X10_begin_b13c {p : Program} {e : Env} {s : State} {m : MethodId} {args : Array Value} {below : List Frame} {meth : Method} {c : Code} (l : Launch) (D : va_G) (k : Nat → ClassId) (a : Nat → Nat) (A : Nat → Prop) (C0 : q_C p s m meth c args RX10 cX10_begin 3 none wsX10_begin D (tyL k) A) (R : T2) : ∀ (σ : T2) (v1 : Int32) (t0 : Int32), S_X10_begin_b13c σ v1 t0 → P_X10_begin_b13c σ v1 t0 = R → ∀ (H : Heap) (locs : List Loc) (ls : Array Slot), q_W D A s.heap (wX10 k a σ) H locs → lv_has ls 3 [(0, .ref (a 0)), (1, .int v1)] → W p l e { frames := 2, cells := 0, slots := 0, locals := 48 } s m args below meth c H locs 0 0 (MQ below (va_Qv (fun u => u = R) (fun u => q_E D (tyL k) A (wX10 k a u)) A) args s 0 0 A) (F0 m 13 ls [.int t0]) := by
  intro σ v1 t0 hs hR H locs ls hW hl
  rw [P_X10_begin_b13c_e] at hR
  rw [S_X10_begin_b13c_e] at hs
  obtain ⟨hx, hb, hr, hml, hts, hown, hlocks, hK, hA⟩ := id C0
  have hf7 := hts (.fieldLink RX10 7 "BeatFollowerModel" "at" "[I") (by decide +kernel)
  have hinX10 : ∀ w ∈ u_ws RX10 TX10 18, w ∈ wsX10_begin := hin_X10_begin_X10
  refine lv_istore_n (lv' := [(2, .int t0), (0, .ref (a 0)), (1, .int v1)]) hx hb dX10_begin_13 rfl hl (by decide) rfl (fun ls hl => ?_)
  refine lv_aload_n hx hb dX10_begin_14 rfl (lv_at hl 1 rfl) ?_
  refine va_get (v := .ref (a 1)) (C := RX10) (T := TX10) (N := 18) hx hb hts hinX10 hown hK hW.1 0 rfl rfl 0 (by decide) hf7 (fun _ h9 => h9) rfl dX10_begin_15 ?_
  refine lv_bipush (v := (11 : Int32)) hx hb dX10_begin_18 (by decide) ?_
  refine lv_iconst (v := (4 : Int32)) hx hb dX10_begin_20 (by decide) ?_
  refine lv_aload_n hx hb dX10_begin_21 rfl (lv_at hl 1 rfl) ?_
  refine lv_iload_n hx hb dX10_begin_22 rfl (lv_at hl 2 rfl) ?_
  refine lv_iconst (v := (0 : Int32)) hx hb dX10_begin_23 (by decide) ?_
  have hs3 := hs.1
  have hs := hs.2
  refine q_Vi (As := [.int v1, .int (0 : Int32)]) (rest := [.int (4 : Int32), .int (11 : Int32), .ref (a 1)]) (R := P_X10_ofB σ v1 (0 : Int32)) [0, 1, 2, 3, 4, 5, 6, 7, 8] [0, 1, 2, 3] 0 10 C0 hW (m_X10_ofB l D k a _ σ v1 (0 : Int32) hs3) (cwV 2 hts gX10_begin_X10_ofB rfl rfl rfl hd_X10_ofB ⟨Nat.le_of_ble_eq_true rfl, Nat.le_of_ble_eq_true rfl⟩) (by decide) (wX10_pl k a _) rfl (wX10_rec k a _) rfl hl rfl rfl (Nat.le_of_ble_eq_true rfl) dX10_begin_24 ⟨Nat.le_refl 0, Nat.le_refl 0⟩ ?_
  refine lv_imul hx hb dX10_begin_27 ?_
  refine lv_aload_n hx hb dX10_begin_28 rfl (lv_at hl 1 rfl) ?_
  refine va_get (v := .ref (a 1)) (C := RX10) (T := TX10) (N := 18) hx hb hts hinX10 hown hK hW.1 0 rfl rfl 0 (by decide) hf7 (fun _ h9 => h9) rfl dX10_begin_29 ?_
  refine lv_bipush (v := (10 : Int32)) hx hb dX10_begin_32 (by decide) ?_
  refine q_iald (v := σ 1 10) C0 hW 1 rfl rfl vi_10_672 cl_10 rfl dX10_begin_34 ?_
  refine lv_iadd hx hb dX10_begin_35 ?_
  refine q_iast (f := σ 1) (wd' := wX10 k a (u2 σ 1 (upd (σ 1) 11 (((4 : Int32) * (P_X10_ofB σ v1 (0 : Int32))) + (σ 1 10))))) C0 hW 1 rfl rfl vi_11_672 cl_11 dX10_begin_36 (wX10_s1 k a _ _) (fun H locs hW => ?_)
  refine lv_aload_n hx hb dX10_begin_37 rfl (lv_at hl 1 rfl) ?_
  refine va_get (v := .ref (a 1)) (C := RX10) (T := TX10) (N := 18) hx hb hts hinX10 hown hK hW.1 0 rfl rfl 0 (by decide) hf7 (fun _ h9 => h9) rfl dX10_begin_38 ?_
  refine lv_bipush (v := (25 : Int32)) hx hb dX10_begin_41 (by decide) ?_
  refine lv_aload_n hx hb dX10_begin_43 rfl (lv_at hl 1 rfl) ?_
  refine lv_iload_n hx hb dX10_begin_44 rfl (lv_at hl 2 rfl) ?_
  refine lv_iconst (v := (1 : Int32)) hx hb dX10_begin_45 (by decide) ?_
  have hs4 := hs.1
  have hs := hs.2
  refine q_Vi (As := [.int v1, .int (1 : Int32)]) (rest := [.int (25 : Int32), .ref (a 1)]) (R := P_X10_ofB (u2 σ 1 (upd (σ 1) 11 (((4 : Int32) * (P_X10_ofB σ v1 (0 : Int32))) + (σ 1 10)))) v1 (1 : Int32)) [0, 1, 2, 3, 4, 5, 6, 7, 8] [0, 1, 2, 3] 0 10 C0 hW (m_X10_ofB l D k a _ (u2 σ 1 (upd (σ 1) 11 (((4 : Int32) * (P_X10_ofB σ v1 (0 : Int32))) + (σ 1 10)))) v1 (1 : Int32) hs4) (cwV 2 hts gX10_begin_X10_ofB rfl rfl rfl hd_X10_ofB ⟨Nat.le_of_ble_eq_true rfl, Nat.le_of_ble_eq_true rfl⟩) (by decide) (wX10_pl k a _) rfl (wX10_rec k a _) rfl hl rfl rfl (Nat.le_of_ble_eq_true rfl) dX10_begin_46 ⟨Nat.le_refl 0, Nat.le_refl 0⟩ ?_
  refine lv_iload_n hx hb dX10_begin_49 rfl (lv_at hl 0 rfl) ?_
  refine lv_isub hx hb dX10_begin_50 ?_
  refine q_iast (f := upd (σ 1) 11 (((4 : Int32) * (P_X10_ofB σ v1 (0 : Int32))) + (σ 1 10))) (wd' := wX10 k a (u2 σ 1 (upd (upd (σ 1) 11 (((4 : Int32) * (P_X10_ofB σ v1 (0 : Int32))) + (σ 1 10))) 25 ((P_X10_ofB (u2 σ 1 (upd (σ 1) 11 (((4 : Int32) * (P_X10_ofB σ v1 (0 : Int32))) + (σ 1 10)))) v1 (1 : Int32)) - t0)))) C0 hW 1 rfl rfl vi_25_672 cl_25 dX10_begin_51 ((wX10_s1 k a _ _).trans (congrArg (wX10 k a) (u2_same _ _ _ _))) (fun H locs hW => ?_)
  refine lv_aload_n hx hb dX10_begin_52 rfl (lv_at hl 1 rfl) ?_
  refine lv_iload_n hx hb dX10_begin_53 rfl (lv_at hl 2 rfl) ?_
  refine lv_iconst (v := (3 : Int32)) hx hb dX10_begin_54 (by decide) ?_
  refine lv_iload_n hx hb dX10_begin_55 rfl (lv_at hl 0 rfl) ?_
  refine lv_bipush (v := (-6 : Int32)) hx hb dX10_begin_56 (by decide) ?_
  refine lv_iconst (v := (0 : Int32)) hx hb dX10_begin_58 (by decide) ?_
  have hs5 := hs.1
  have hs := hs.2
  refine q_Vv (As := [.int v1, .int (3 : Int32), .int t0, .int (-6 : Int32), .int (0 : Int32)]) (rest := []) (wf := wX10 k a) (R := P_X10_become (u2 σ 1 (upd (upd (σ 1) 11 (((4 : Int32) * (P_X10_ofB σ v1 (0 : Int32))) + (σ 1 10))) 25 ((P_X10_ofB (u2 σ 1 (upd (σ 1) 11 (((4 : Int32) * (P_X10_ofB σ v1 (0 : Int32))) + (σ 1 10)))) v1 (1 : Int32)) - t0))) v1 (3 : Int32) t0 (-6 : Int32) (0 : Int32)) (wd' := wX10 k a (P_X10_become (u2 σ 1 (upd (upd (σ 1) 11 (((4 : Int32) * (P_X10_ofB σ v1 (0 : Int32))) + (σ 1 10))) 25 ((P_X10_ofB (u2 σ 1 (upd (σ 1) 11 (((4 : Int32) * (P_X10_ofB σ v1 (0 : Int32))) + (σ 1 10)))) v1 (1 : Int32)) - t0))) v1 (3 : Int32) t0 (-6 : Int32) (0 : Int32))) [0, 1, 2, 3, 4, 5, 6, 7, 8] [0, 1, 2, 3] 0 10 C0 hW (m_X10_become l D k a H.size (u2 σ 1 (upd (upd (σ 1) 11 (((4 : Int32) * (P_X10_ofB σ v1 (0 : Int32))) + (σ 1 10))) 25 ((P_X10_ofB (u2 σ 1 (upd (σ 1) 11 (((4 : Int32) * (P_X10_ofB σ v1 (0 : Int32))) + (σ 1 10)))) v1 (1 : Int32)) - t0))) v1 (3 : Int32) t0 (-6 : Int32) (0 : Int32) hs5) (cwV 5 hts gX10_begin_X10_become rfl rfl rfl hd_X10_become ⟨Nat.le_of_ble_eq_true rfl, Nat.le_of_ble_eq_true rfl⟩) (by decide) (wX10_pl k a _) rfl (wX10_rec k a _) rfl (wX10_fst k a _ _) (wX10_put k a _ _) hl rfl rfl (Nat.le_of_ble_eq_true rfl) dX10_begin_59 ⟨Nat.le_refl 0, Nat.le_refl 0⟩ (fun H locs hW => ?_)
  exact b_X10_begin_b62c l D k a A C0 R (P_X10_become (u2 σ 1 (upd (upd (σ 1) 11 (((4 : Int32) * (P_X10_ofB σ v1 (0 : Int32))) + (σ 1 10))) 25 ((P_X10_ofB (u2 σ 1 (upd (σ 1) 11 (((4 : Int32) * (P_X10_ofB σ v1 (0 : Int32))) + (σ 1 10)))) v1 (1 : Int32)) - t0))) v1 (3 : Int32) t0 (-6 : Int32) (0 : Int32)) hs hR H locs ls hW (lv_sub hl [1] rfl)
set_option maxHeartbeats 400000 in
set_option maxRecDepth 100000 in
theorem b_X10_begin_b0 {p : Program} {e : Env} {s : State} {m : MethodId} {args : Array Value} {below : List Frame} {meth : Method} {c : Code} (l : Launch) (D : va_G) (k : Nat → ClassId) (a : Nat → Nat) (A : Nat → Prop) (C0 : q_C p s m meth c args RX10 cX10_begin 3 none wsX10_begin D (tyL k) A) (R : T2) : ∀ (σ : T2) (v1 : Int32), S_X10_begin_b0 σ v1 → P_X10_begin_b0 σ v1 = R → ∀ (H : Heap) (locs : List Loc) (ls : Array Slot), q_W D A s.heap (wX10 k a σ) H locs → lv_has ls 3 [(0, .ref (a 0)), (1, .int v1)] → W p l e { frames := 2, cells := 0, slots := 0, locals := 48 } s m args below meth c H locs 0 0 (MQ below (va_Qv (fun u => u = R) (fun u => q_E D (tyL k) A (wX10 k a u)) A) args s 0 0 A) (F0 m 0 ls []) := by
  intro σ v1 hs hR H locs ls hW hl
  rw [P_X10_begin_b0_e] at hR
  rw [S_X10_begin_b0_e] at hs
  obtain ⟨hx, hb, hr, hml, hts, hown, hlocks, hK, hA⟩ := id C0
  refine lv_aload_n hx hb dX10_begin_0 rfl (lv_at hl 0 rfl) ?_
  refine lv_iconst (v := (4 : Int32)) hx hb dX10_begin_1 (by decide) ?_
  refine lv_aload_n hx hb dX10_begin_2 rfl (lv_at hl 0 rfl) ?_
  refine lv_iload_n hx hb dX10_begin_3 rfl (lv_at hl 1 rfl) ?_
  refine lv_iconst (v := (0 : Int32)) hx hb dX10_begin_4 (by decide) ?_
  have hs1 := hs.1
  have hs := hs.2
  refine q_Vi (As := [.int v1, .int (0 : Int32)]) (rest := [.int (4 : Int32), .ref (a 0)]) (R := P_X10_ofB σ v1 (0 : Int32)) [0, 1, 2, 3, 4, 5, 6, 7, 8] [0, 1, 2, 3] 0 10 C0 hW (m_X10_ofB l D k a _ σ v1 (0 : Int32) hs1) (cwV 2 hts gX10_begin_X10_ofB rfl rfl rfl hd_X10_ofB ⟨Nat.le_of_ble_eq_true rfl, Nat.le_of_ble_eq_true rfl⟩) (by decide) (wX10_pl k a _) rfl (wX10_rec k a _) rfl hl rfl rfl (Nat.le_of_ble_eq_true rfl) dX10_begin_5 ⟨Nat.le_refl 0, Nat.le_refl 0⟩ ?_
  refine lv_imul hx hb dX10_begin_8 ?_
  refine lv_iload_n hx hb dX10_begin_9 rfl (lv_at hl 1 rfl) ?_
  have hs2 := hs.1
  have hs := hs.2
  refine q_Viw (As := [.int ((4 : Int32) * (P_X10_ofB σ v1 (0 : Int32))), .int v1]) (rest := []) (wf := wX10 k a) (R := P_X10_strike σ ((4 : Int32) * (P_X10_ofB σ v1 (0 : Int32))) v1) (wd' := wX10 k a ((P_X10_strike σ ((4 : Int32) * (P_X10_ofB σ v1 (0 : Int32))) v1).2)) [0, 1, 2, 3, 4, 5, 6, 7, 8] [0, 1, 2, 3] 0 10 C0 hW (m_X10_strike l D k a H.size σ ((4 : Int32) * (P_X10_ofB σ v1 (0 : Int32))) v1 hs2) (cwV 2 hts gX10_begin_X10_strike rfl rfl rfl hd_X10_strike ⟨Nat.le_of_ble_eq_true rfl, Nat.le_of_ble_eq_true rfl⟩) (by decide) (wX10_pl k a _) rfl (wX10_rec k a _) rfl (wX10_fst k a _ _) (wX10_put k a _ _) hl rfl rfl (Nat.le_of_ble_eq_true rfl) dX10_begin_10 ⟨Nat.le_refl 0, Nat.le_refl 0⟩ (fun H locs hW => ?_)
  exact b_X10_begin_b13c l D k a A C0 R ((P_X10_strike σ ((4 : Int32) * (P_X10_ofB σ v1 (0 : Int32))) v1).2) v1 ((P_X10_strike σ ((4 : Int32) * (P_X10_ofB σ v1 (0 : Int32))) v1).1) hs hR H locs ls hW (lv_sub hl [0, 1] rfl)
set_option maxHeartbeats 400000 in
set_option maxRecDepth 100000 in
theorem m_X10_begin (l : Launch) (D : va_G) (k : Nat → ClassId) (a : Nat → Nat) (sz : Nat) (σ : T2) (p0 : Int32) (hs : S_X10_begin σ p0) : Met l yX10_begin wsX10_begin { frames := 2, cells := 0, slots := 0, locals := 48 } (va_Pc [.ref (a 0), .int p0] (q_B D (tyL k) (wX10 k a σ) sz)) (va_Qv (fun u => u = P_X10_begin σ p0) (fun u => q_E D (tyL k) (va_A (wX10 k a σ) sz) (wX10 k a u)) (va_A (wX10 k a σ) sz)) 0 0 (va_A (wX10 k a σ) sz) := by
  refine q_met [.ref (a 0), .int p0] (wX10 k a σ) sz (cc := cX10_begin) (maxL := 3) (ret := none) (by decide) rfl (Nat.le_of_ble_eq_true rfl) ?_
  intro p e s m args below meth c ls hsz C0 hW hl hin
  subst hsz
  exact b_X10_begin_b0 l D k a _ C0 _ σ p0 hs rfl s.heap [] ls hW (lv_sub hl [0, 1] rfl)
theorem hin_X10_takeBeat_X10 : ∀ w ∈ u_ws RX10 TX10 18, w ∈ wsX10_takeBeat := by decide +kernel
theorem hd_X10_takeBeat : yX10_takeBeat.cls = RX10 ∧ yX10_takeBeat.cls ≠ "java/lang/invoke/MethodHandle" ∧ yX10_takeBeat.cls ≠ "java/lang/invoke/VarHandle" ∧ (parseMethodDescriptor yX10_takeBeat.desc).map (fun d => d.parameters.length) = some 2 := by decide +kernel
noncomputable def P_X10_takeBeat_b253c (σ : T2) : T2 := P_X10_endBlow σ
def S_X10_takeBeat_b253c (σ : T2) : Prop := (S_X10_endBlow σ ) ∧ (True)
theorem P_X10_takeBeat_b253c_e (σ : T2) : P_X10_takeBeat_b253c σ = P_X10_endBlow σ := rfl
theorem S_X10_takeBeat_b253c_e (σ : T2) : S_X10_takeBeat_b253c σ = ((S_X10_endBlow σ ) ∧ (True)) := rfl
noncomputable def P_X10_takeBeat_b249 (σ : T2) (t0 : Int32) : T2 := P_X10_takeBeat_b253c (P_X10_judge σ t0 (1 : Int32))
def S_X10_takeBeat_b249 (σ : T2) (t0 : Int32) : Prop := (S_X10_judge σ t0 (1 : Int32)) ∧ (S_X10_takeBeat_b253c (P_X10_judge σ t0 (1 : Int32)))
theorem P_X10_takeBeat_b249_e (σ : T2) (t0 : Int32) : P_X10_takeBeat_b249 σ t0 = P_X10_takeBeat_b253c (P_X10_judge σ t0 (1 : Int32)) := rfl
theorem S_X10_takeBeat_b249_e (σ : T2) (t0 : Int32) : S_X10_takeBeat_b249 σ t0 = ((S_X10_judge σ t0 (1 : Int32)) ∧ (S_X10_takeBeat_b253c (P_X10_judge σ t0 (1 : Int32)))) := rfl
noncomputable def P_X10_takeBeat_b224c (σ : T2) (v2 : Int32) (v4 : Int32) : T2 := if ((v4 * (σ 1 4)) / (100 : Int32)) < (P_X10_size v2) then (P_X10_takeBeat_b249 σ (0 : Int32)) else (P_X10_takeBeat_b249 σ (1 : Int32))
def S_X10_takeBeat_b224c (σ : T2) (v2 : Int32) (v4 : Int32) : Prop := (S_X10_size v2) ∧ ((((v4 * (σ 1 4)) / (100 : Int32)) < (P_X10_size v2) → (S_X10_takeBeat_b249 σ (0 : Int32))) ∧ (¬ (((v4 * (σ 1 4)) / (100 : Int32)) < (P_X10_size v2)) → (S_X10_takeBeat_b249 σ (1 : Int32))))
theorem P_X10_takeBeat_b224c_e (σ : T2) (v2 : Int32) (v4 : Int32) : P_X10_takeBeat_b224c σ v2 v4 = if ((v4 * (σ 1 4)) / (100 : Int32)) < (P_X10_size v2) then (P_X10_takeBeat_b249 σ (0 : Int32)) else (P_X10_takeBeat_b249 σ (1 : Int32)) := rfl
theorem S_X10_takeBeat_b224c_e (σ : T2) (v2 : Int32) (v4 : Int32) : S_X10_takeBeat_b224c σ v2 v4 = ((S_X10_size v2) ∧ ((((v4 * (σ 1 4)) / (100 : Int32)) < (P_X10_size v2) → (S_X10_takeBeat_b249 σ (0 : Int32))) ∧ (¬ (((v4 * (σ 1 4)) / (100 : Int32)) < (P_X10_size v2)) → (S_X10_takeBeat_b249 σ (1 : Int32))))) := rfl
noncomputable def P_X10_takeBeat_b186 (σ : T2) (v1 : Int32) (v2 : Int32) (v3 : Int32) (v4 : Int32) (v7 : Int32) (t0 : Int32) (t1 : Int32) : T2 := P_X10_takeBeat_b224c (P_X10_become (u2 σ 1 (upd (upd (upd (σ 1) 18 (t1 + t0)) 24 ((σ 1 24) + v7)) 26 ((σ 1 26) + (P_X10_size v2)))) v1 (2 : Int32) v3 v2 v7) v2 v4
def S_X10_takeBeat_b186 (σ : T2) (v1 : Int32) (v2 : Int32) (v3 : Int32) (v4 : Int32) (v7 : Int32) (t0 : Int32) (t1 : Int32) : Prop := (S_X10_size v2) ∧ ((S_X10_become (u2 σ 1 (upd (upd (upd (σ 1) 18 (t1 + t0)) 24 ((σ 1 24) + v7)) 26 ((σ 1 26) + (P_X10_size v2)))) v1 (2 : Int32) v3 v2 v7) ∧ (S_X10_takeBeat_b224c (P_X10_become (u2 σ 1 (upd (upd (upd (σ 1) 18 (t1 + t0)) 24 ((σ 1 24) + v7)) 26 ((σ 1 26) + (P_X10_size v2)))) v1 (2 : Int32) v3 v2 v7) v2 v4))
theorem P_X10_takeBeat_b186_e (σ : T2) (v1 : Int32) (v2 : Int32) (v3 : Int32) (v4 : Int32) (v7 : Int32) (t0 : Int32) (t1 : Int32) : P_X10_takeBeat_b186 σ v1 v2 v3 v4 v7 t0 t1 = P_X10_takeBeat_b224c (P_X10_become (u2 σ 1 (upd (upd (upd (σ 1) 18 (t1 + t0)) 24 ((σ 1 24) + v7)) 26 ((σ 1 26) + (P_X10_size v2)))) v1 (2 : Int32) v3 v2 v7) v2 v4 := rfl
theorem S_X10_takeBeat_b186_e (σ : T2) (v1 : Int32) (v2 : Int32) (v3 : Int32) (v4 : Int32) (v7 : Int32) (t0 : Int32) (t1 : Int32) : S_X10_takeBeat_b186 σ v1 v2 v3 v4 v7 t0 t1 = ((S_X10_size v2) ∧ ((S_X10_become (u2 σ 1 (upd (upd (upd (σ 1) 18 (t1 + t0)) 24 ((σ 1 24) + v7)) 26 ((σ 1 26) + (P_X10_size v2)))) v1 (2 : Int32) v3 v2 v7) ∧ (S_X10_takeBeat_b224c (P_X10_become (u2 σ 1 (upd (upd (upd (σ 1) 18 (t1 + t0)) 24 ((σ 1 24) + v7)) 26 ((σ 1 26) + (P_X10_size v2)))) v1 (2 : Int32) v3 v2 v7) v2 v4))) := rfl
noncomputable def P_X10_takeBeat_b147n (σ : T2) (v1 : Int32) (v2 : Int32) (v3 : Int32) (v4 : Int32) (v6 : Int32) : T2 := if (v6 - (σ 1 25)) = 0 then (P_X10_takeBeat_b186 (u2 σ 1 (upd (σ 1) 25 v6)) v1 v2 v3 v4 (v6 - (σ 1 25)) (0 : Int32) (σ 1 18)) else (P_X10_takeBeat_b186 (u2 σ 1 (upd (σ 1) 25 v6)) v1 v2 v3 v4 (v6 - (σ 1 25)) (1 : Int32) (σ 1 18))
def S_X10_takeBeat_b147n (σ : T2) (v1 : Int32) (v2 : Int32) (v3 : Int32) (v4 : Int32) (v6 : Int32) : Prop := ((v6 - (σ 1 25)) = 0 → (S_X10_takeBeat_b186 (u2 σ 1 (upd (σ 1) 25 v6)) v1 v2 v3 v4 (v6 - (σ 1 25)) (0 : Int32) (σ 1 18))) ∧ (¬ ((v6 - (σ 1 25)) = 0) → (S_X10_takeBeat_b186 (u2 σ 1 (upd (σ 1) 25 v6)) v1 v2 v3 v4 (v6 - (σ 1 25)) (1 : Int32) (σ 1 18)))
theorem P_X10_takeBeat_b147n_e (σ : T2) (v1 : Int32) (v2 : Int32) (v3 : Int32) (v4 : Int32) (v6 : Int32) : P_X10_takeBeat_b147n σ v1 v2 v3 v4 v6 = if (v6 - (σ 1 25)) = 0 then (P_X10_takeBeat_b186 (u2 σ 1 (upd (σ 1) 25 v6)) v1 v2 v3 v4 (v6 - (σ 1 25)) (0 : Int32) (σ 1 18)) else (P_X10_takeBeat_b186 (u2 σ 1 (upd (σ 1) 25 v6)) v1 v2 v3 v4 (v6 - (σ 1 25)) (1 : Int32) (σ 1 18)) := rfl
theorem S_X10_takeBeat_b147n_e (σ : T2) (v1 : Int32) (v2 : Int32) (v3 : Int32) (v4 : Int32) (v6 : Int32) : S_X10_takeBeat_b147n σ v1 v2 v3 v4 v6 = (((v6 - (σ 1 25)) = 0 → (S_X10_takeBeat_b186 (u2 σ 1 (upd (σ 1) 25 v6)) v1 v2 v3 v4 (v6 - (σ 1 25)) (0 : Int32) (σ 1 18))) ∧ (¬ ((v6 - (σ 1 25)) = 0) → (S_X10_takeBeat_b186 (u2 σ 1 (upd (σ 1) 25 v6)) v1 v2 v3 v4 (v6 - (σ 1 25)) (1 : Int32) (σ 1 18)))) := rfl
noncomputable def P_X10_takeBeat_b92 (σ : T2) (v1 : Int32) (v2 : Int32) (v3 : Int32) (v4 : Int32) (t0 : Int32) : T2 := P_X10_takeBeat_b147n (u2 σ 1 (upd (upd (upd (σ 1) 10 t0) 11 ((σ 1 11) + ((P_X10_part (v2 * (σ 1 2)) (16 : Int32)) + t0))) 21 (0 : Int32))) v1 v2 v3 v4 ((P_X10_ofB (u2 σ 1 (upd (upd (upd (σ 1) 10 t0) 11 ((σ 1 11) + ((P_X10_part (v2 * (σ 1 2)) (16 : Int32)) + t0))) 21 (0 : Int32))) v1 (1 : Int32)) - v3)
def S_X10_takeBeat_b92 (σ : T2) (v1 : Int32) (v2 : Int32) (v3 : Int32) (v4 : Int32) (t0 : Int32) : Prop := (S_X10_part (v2 * (σ 1 2)) (16 : Int32)) ∧ ((S_X10_ofB (u2 σ 1 (upd (upd (upd (σ 1) 10 t0) 11 ((σ 1 11) + ((P_X10_part (v2 * (σ 1 2)) (16 : Int32)) + t0))) 21 (0 : Int32))) v1 (1 : Int32)) ∧ (S_X10_takeBeat_b147n (u2 σ 1 (upd (upd (upd (σ 1) 10 t0) 11 ((σ 1 11) + ((P_X10_part (v2 * (σ 1 2)) (16 : Int32)) + t0))) 21 (0 : Int32))) v1 v2 v3 v4 ((P_X10_ofB (u2 σ 1 (upd (upd (upd (σ 1) 10 t0) 11 ((σ 1 11) + ((P_X10_part (v2 * (σ 1 2)) (16 : Int32)) + t0))) 21 (0 : Int32))) v1 (1 : Int32)) - v3)))
theorem P_X10_takeBeat_b92_e (σ : T2) (v1 : Int32) (v2 : Int32) (v3 : Int32) (v4 : Int32) (t0 : Int32) : P_X10_takeBeat_b92 σ v1 v2 v3 v4 t0 = P_X10_takeBeat_b147n (u2 σ 1 (upd (upd (upd (σ 1) 10 t0) 11 ((σ 1 11) + ((P_X10_part (v2 * (σ 1 2)) (16 : Int32)) + t0))) 21 (0 : Int32))) v1 v2 v3 v4 ((P_X10_ofB (u2 σ 1 (upd (upd (upd (σ 1) 10 t0) 11 ((σ 1 11) + ((P_X10_part (v2 * (σ 1 2)) (16 : Int32)) + t0))) 21 (0 : Int32))) v1 (1 : Int32)) - v3) := rfl
theorem S_X10_takeBeat_b92_e (σ : T2) (v1 : Int32) (v2 : Int32) (v3 : Int32) (v4 : Int32) (t0 : Int32) : S_X10_takeBeat_b92 σ v1 v2 v3 v4 t0 = ((S_X10_part (v2 * (σ 1 2)) (16 : Int32)) ∧ ((S_X10_ofB (u2 σ 1 (upd (upd (upd (σ 1) 10 t0) 11 ((σ 1 11) + ((P_X10_part (v2 * (σ 1 2)) (16 : Int32)) + t0))) 21 (0 : Int32))) v1 (1 : Int32)) ∧ (S_X10_takeBeat_b147n (u2 σ 1 (upd (upd (upd (σ 1) 10 t0) 11 ((σ 1 11) + ((P_X10_part (v2 * (σ 1 2)) (16 : Int32)) + t0))) 21 (0 : Int32))) v1 v2 v3 v4 ((P_X10_ofB (u2 σ 1 (upd (upd (upd (σ 1) 10 t0) 11 ((σ 1 11) + ((P_X10_part (v2 * (σ 1 2)) (16 : Int32)) + t0))) 21 (0 : Int32))) v1 (1 : Int32)) - v3)))) := rfl
noncomputable def P_X10_takeBeat_b40n (σ : T2) (v1 : Int32) (v2 : Int32) (v3 : Int32) (v4 : Int32) (v5 : Int32) : T2 := if ((2 : Int32) * (σ 1 0)) ≤ v5 then (if v5 ≤ ((8 : Int32) * (σ 1 0)) then (P_X10_takeBeat_b92 σ v1 v2 v3 v4 v5) else (P_X10_takeBeat_b92 σ v1 v2 v3 v4 ((8 : Int32) * (σ 1 0)))) else (P_X10_takeBeat_b92 σ v1 v2 v3 v4 ((2 : Int32) * (σ 1 0)))
def S_X10_takeBeat_b40n (σ : T2) (v1 : Int32) (v2 : Int32) (v3 : Int32) (v4 : Int32) (v5 : Int32) : Prop := (((2 : Int32) * (σ 1 0)) ≤ v5 → ((v5 ≤ ((8 : Int32) * (σ 1 0)) → (S_X10_takeBeat_b92 σ v1 v2 v3 v4 v5)) ∧ (¬ (v5 ≤ ((8 : Int32) * (σ 1 0))) → (S_X10_takeBeat_b92 σ v1 v2 v3 v4 ((8 : Int32) * (σ 1 0)))))) ∧ (¬ (((2 : Int32) * (σ 1 0)) ≤ v5) → (S_X10_takeBeat_b92 σ v1 v2 v3 v4 ((2 : Int32) * (σ 1 0))))
theorem P_X10_takeBeat_b40n_e (σ : T2) (v1 : Int32) (v2 : Int32) (v3 : Int32) (v4 : Int32) (v5 : Int32) : P_X10_takeBeat_b40n σ v1 v2 v3 v4 v5 = if ((2 : Int32) * (σ 1 0)) ≤ v5 then (if v5 ≤ ((8 : Int32) * (σ 1 0)) then (P_X10_takeBeat_b92 σ v1 v2 v3 v4 v5) else (P_X10_takeBeat_b92 σ v1 v2 v3 v4 ((8 : Int32) * (σ 1 0)))) else (P_X10_takeBeat_b92 σ v1 v2 v3 v4 ((2 : Int32) * (σ 1 0))) := rfl
theorem S_X10_takeBeat_b40n_e (σ : T2) (v1 : Int32) (v2 : Int32) (v3 : Int32) (v4 : Int32) (v5 : Int32) : S_X10_takeBeat_b40n σ v1 v2 v3 v4 v5 = ((((2 : Int32) * (σ 1 0)) ≤ v5 → ((v5 ≤ ((8 : Int32) * (σ 1 0)) → (S_X10_takeBeat_b92 σ v1 v2 v3 v4 v5)) ∧ (¬ (v5 ≤ ((8 : Int32) * (σ 1 0))) → (S_X10_takeBeat_b92 σ v1 v2 v3 v4 ((8 : Int32) * (σ 1 0)))))) ∧ (¬ (((2 : Int32) * (σ 1 0)) ≤ v5) → (S_X10_takeBeat_b92 σ v1 v2 v3 v4 ((2 : Int32) * (σ 1 0))))) := rfl
noncomputable def P_X10_takeBeat_b12c (σ : T2) (v1 : Int32) (v2 : Int32) (t0 : Int32) : T2 := P_X10_takeBeat_b40n σ v1 v2 t0 (σ 1 10) ((σ 1 10) + (P_X10_part (v2 * (σ 1 3)) (16 : Int32)))
def S_X10_takeBeat_b12c (σ : T2) (v1 : Int32) (v2 : Int32) (t0 : Int32) : Prop := (S_X10_part (v2 * (σ 1 3)) (16 : Int32)) ∧ (S_X10_takeBeat_b40n σ v1 v2 t0 (σ 1 10) ((σ 1 10) + (P_X10_part (v2 * (σ 1 3)) (16 : Int32))))
theorem P_X10_takeBeat_b12c_e (σ : T2) (v1 : Int32) (v2 : Int32) (t0 : Int32) : P_X10_takeBeat_b12c σ v1 v2 t0 = P_X10_takeBeat_b40n σ v1 v2 t0 (σ 1 10) ((σ 1 10) + (P_X10_part (v2 * (σ 1 3)) (16 : Int32))) := rfl
theorem S_X10_takeBeat_b12c_e (σ : T2) (v1 : Int32) (v2 : Int32) (t0 : Int32) : S_X10_takeBeat_b12c σ v1 v2 t0 = ((S_X10_part (v2 * (σ 1 3)) (16 : Int32)) ∧ (S_X10_takeBeat_b40n σ v1 v2 t0 (σ 1 10) ((σ 1 10) + (P_X10_part (v2 * (σ 1 3)) (16 : Int32))))) := rfl
noncomputable def P_X10_takeBeat_b0 (σ : T2) (v1 : Int32) (v2 : Int32) : T2 := P_X10_takeBeat_b12c ((P_X10_strike σ (σ 1 11) v1).2) v1 v2 ((P_X10_strike σ (σ 1 11) v1).1)
def S_X10_takeBeat_b0 (σ : T2) (v1 : Int32) (v2 : Int32) : Prop := (S_X10_strike σ (σ 1 11) v1) ∧ (S_X10_takeBeat_b12c ((P_X10_strike σ (σ 1 11) v1).2) v1 v2 ((P_X10_strike σ (σ 1 11) v1).1))
theorem P_X10_takeBeat_b0_e (σ : T2) (v1 : Int32) (v2 : Int32) : P_X10_takeBeat_b0 σ v1 v2 = P_X10_takeBeat_b12c ((P_X10_strike σ (σ 1 11) v1).2) v1 v2 ((P_X10_strike σ (σ 1 11) v1).1) := rfl
theorem S_X10_takeBeat_b0_e (σ : T2) (v1 : Int32) (v2 : Int32) : S_X10_takeBeat_b0 σ v1 v2 = ((S_X10_strike σ (σ 1 11) v1) ∧ (S_X10_takeBeat_b12c ((P_X10_strike σ (σ 1 11) v1).2) v1 v2 ((P_X10_strike σ (σ 1 11) v1).1))) := rfl
noncomputable def P_X10_takeBeat (σ : T2) (p0 : Int32) (p1 : Int32) : T2 := P_X10_takeBeat_b0 σ p0 p1
def S_X10_takeBeat (σ : T2) (p0 : Int32) (p1 : Int32) : Prop := S_X10_takeBeat_b0 σ p0 p1
set_option maxHeartbeats 400000 in
set_option maxRecDepth 100000 in
theorem b_X10_takeBeat_b253c {p : Program} {e : Env} {s : State} {m : MethodId} {args : Array Value} {below : List Frame} {meth : Method} {c : Code} (l : Launch) (D : va_G) (k : Nat → ClassId) (a : Nat → Nat) (A : Nat → Prop) (C0 : q_C p s m meth c args RX10 cX10_takeBeat 8 none wsX10_takeBeat D (tyL k) A) (R : T2) : ∀ (σ : T2), S_X10_takeBeat_b253c σ → P_X10_takeBeat_b253c σ = R → ∀ (H : Heap) (locs : List Loc) (ls : Array Slot), q_W D A s.heap (wX10 k a σ) H locs → lv_has ls 8 [(0, .ref (a 0))] → W p l e { frames := 2, cells := 0, slots := 0, locals := 48 } s m args below meth c H locs 0 0 (MQ below (va_Qv (fun u => u = R) (fun u => q_E D (tyL k) A (wX10 k a u)) A) args s 0 0 A) (F0 m 253 ls []) := by
  intro σ hs hR H locs ls hW hl
  rw [P_X10_takeBeat_b253c_e] at hR
  rw [S_X10_takeBeat_b253c_e] at hs
  obtain ⟨hx, hb, hr, hml, hts, hown, hlocks, hK, hA⟩ := id C0
  refine lv_aload_n hx hb dX10_takeBeat_253 rfl (lv_at hl 0 rfl) ?_
  have hs13 := hs.1
  have hs := hs.2
  refine q_Vv (As := []) (rest := []) (wf := wX10 k a) (R := P_X10_endBlow σ) (wd' := wX10 k a (P_X10_endBlow σ)) [0, 1, 2, 3, 4, 5, 6, 7, 8] [0, 1, 2, 3] 0 10 C0 hW (m_X10_endBlow l D k a H.size σ  hs13) (cwV 0 hts gX10_takeBeat_X10_endBlow rfl rfl rfl hd_X10_endBlow ⟨Nat.le_of_ble_eq_true rfl, Nat.le_of_ble_eq_true rfl⟩) (by decide) (wX10_pl k a _) rfl (wX10_rec k a _) rfl (wX10_fst k a _ _) (wX10_put k a _ _) hl rfl rfl (Nat.le_of_ble_eq_true rfl) dX10_takeBeat_254 ⟨Nat.le_refl 0, Nat.le_refl 0⟩ (fun H locs hW => ?_)
  exact q_vret C0 hW hR dX10_takeBeat_257
set_option maxHeartbeats 400000 in
set_option maxRecDepth 100000 in
theorem b_X10_takeBeat_b249 {p : Program} {e : Env} {s : State} {m : MethodId} {args : Array Value} {below : List Frame} {meth : Method} {c : Code} (l : Launch) (D : va_G) (k : Nat → ClassId) (a : Nat → Nat) (A : Nat → Prop) (C0 : q_C p s m meth c args RX10 cX10_takeBeat 8 none wsX10_takeBeat D (tyL k) A) (R : T2) : ∀ (σ : T2) (t0 : Int32), S_X10_takeBeat_b249 σ t0 → P_X10_takeBeat_b249 σ t0 = R → ∀ (H : Heap) (locs : List Loc) (ls : Array Slot), q_W D A s.heap (wX10 k a σ) H locs → lv_has ls 8 [(0, .ref (a 0))] → W p l e { frames := 2, cells := 0, slots := 0, locals := 48 } s m args below meth c H locs 0 0 (MQ below (va_Qv (fun u => u = R) (fun u => q_E D (tyL k) A (wX10 k a u)) A) args s 0 0 A) (F0 m 249 ls [.int t0, .ref (a 0)]) := by
  intro σ t0 hs hR H locs ls hW hl
  rw [P_X10_takeBeat_b249_e] at hR
  rw [S_X10_takeBeat_b249_e] at hs
  obtain ⟨hx, hb, hr, hml, hts, hown, hlocks, hK, hA⟩ := id C0
  refine lv_iconst (v := (1 : Int32)) hx hb dX10_takeBeat_249 (by decide) ?_
  have hs12 := hs.1
  have hs := hs.2
  refine q_Vv (As := [.int t0, .int (1 : Int32)]) (rest := []) (wf := wX10 k a) (R := P_X10_judge σ t0 (1 : Int32)) (wd' := wX10 k a (P_X10_judge σ t0 (1 : Int32))) [0, 1, 2, 3, 4, 5, 6, 7, 8] [0, 1, 2, 3] 0 10 C0 hW (m_X10_judge l D k a H.size σ t0 (1 : Int32) hs12) (cwV 2 hts gX10_takeBeat_X10_judge rfl rfl rfl hd_X10_judge ⟨Nat.le_of_ble_eq_true rfl, Nat.le_of_ble_eq_true rfl⟩) (by decide) (wX10_pl k a _) rfl (wX10_rec k a _) rfl (wX10_fst k a _ _) (wX10_put k a _ _) hl rfl rfl (Nat.le_of_ble_eq_true rfl) dX10_takeBeat_250 ⟨Nat.le_refl 0, Nat.le_refl 0⟩ (fun H locs hW => ?_)
  exact b_X10_takeBeat_b253c l D k a A C0 R (P_X10_judge σ t0 (1 : Int32)) hs hR H locs ls hW (lv_sub hl [0] rfl)
set_option maxHeartbeats 400000 in
set_option maxRecDepth 100000 in
theorem b_X10_takeBeat_b224c {p : Program} {e : Env} {s : State} {m : MethodId} {args : Array Value} {below : List Frame} {meth : Method} {c : Code} (l : Launch) (D : va_G) (k : Nat → ClassId) (a : Nat → Nat) (A : Nat → Prop) (C0 : q_C p s m meth c args RX10 cX10_takeBeat 8 none wsX10_takeBeat D (tyL k) A) (R : T2) : ∀ (σ : T2) (v2 : Int32) (v4 : Int32), S_X10_takeBeat_b224c σ v2 v4 → P_X10_takeBeat_b224c σ v2 v4 = R → ∀ (H : Heap) (locs : List Loc) (ls : Array Slot), q_W D A s.heap (wX10 k a σ) H locs → lv_has ls 8 [(0, .ref (a 0)), (2, .int v2), (4, .int v4)] → W p l e { frames := 2, cells := 0, slots := 0, locals := 48 } s m args below meth c H locs 0 0 (MQ below (va_Qv (fun u => u = R) (fun u => q_E D (tyL k) A (wX10 k a u)) A) args s 0 0 A) (F0 m 224 ls []) := by
  intro σ v2 v4 hs hR H locs ls hW hl
  rw [P_X10_takeBeat_b224c_e] at hR
  rw [S_X10_takeBeat_b224c_e] at hs
  obtain ⟨hx, hb, hr, hml, hts, hown, hlocks, hK, hA⟩ := id C0
  have hf7 := hts (.fieldLink RX10 7 "BeatFollowerModel" "at" "[I") (by decide +kernel)
  have hinX10 : ∀ w ∈ u_ws RX10 TX10 18, w ∈ wsX10_takeBeat := hin_X10_takeBeat_X10
  refine lv_aload_n hx hb dX10_takeBeat_224 rfl (lv_at hl 0 rfl) ?_
  refine lv_iload_n hx hb dX10_takeBeat_225 rfl (lv_at hl 1 rfl) ?_
  have hs10 := hs.1
  have hs := hs.2
  refine q_Si (As := [.int v2]) (rest := [.ref (a 0)]) (R := P_X10_size v2) ⟨hx, hb, hml, hown, hts⟩ (m_X10_size l v2 hs10) (va_cwS 1 hts gX10_takeBeat_X10_size rfl rfl rfl hd_X10_size ⟨Nat.le_of_ble_eq_true rfl, Nat.le_of_ble_eq_true rfl⟩) hl rfl rfl (Nat.le_of_ble_eq_true rfl) dX10_takeBeat_226 ⟨Nat.le_refl 0, Nat.le_refl 0⟩ ?_
  refine lv_iload hx hb dX10_takeBeat_229 (lv_at hl 2 rfl) ?_
  refine lv_aload_n hx hb dX10_takeBeat_231 rfl (lv_at hl 0 rfl) ?_
  refine va_get (v := .ref (a 1)) (C := RX10) (T := TX10) (N := 18) hx hb hts hinX10 hown hK hW.1 0 rfl rfl 0 (by decide) hf7 (fun _ h9 => h9) rfl dX10_takeBeat_232 ?_
  refine lv_iconst (v := (4 : Int32)) hx hb dX10_takeBeat_235 (by decide) ?_
  refine q_iald (v := σ 1 4) C0 hW 1 rfl rfl vi_4_672 cl_4 rfl dX10_takeBeat_236 ?_
  refine lv_imul hx hb dX10_takeBeat_237 ?_
  refine lv_bipush (v := (100 : Int32)) hx hb dX10_takeBeat_238 (by decide) ?_
  refine lv_idiv hx hb dX10_takeBeat_240 (by decide) ?_
  refine lv_icmp_gt (tgt := 248) hx hb dX10_takeBeat_241 (by decide) (fun c_11 => ?_) (fun c_11 => ?_)
  · have hs := hs.1 c_11
    rw [if_pos c_11] at hR
    refine lv_iconst (v := (0 : Int32)) hx hb dX10_takeBeat_248 (by decide) ?_
    exact b_X10_takeBeat_b249 l D k a A C0 R σ (0 : Int32) hs hR H locs ls hW (lv_sub hl [0] rfl)
  · have hs := hs.2 c_11
    rw [if_neg c_11] at hR
    refine lv_iconst (v := (1 : Int32)) hx hb dX10_takeBeat_244 (by decide) ?_
    refine lv_goto (tgt := 249) hx hb dX10_takeBeat_245 (by decide) ?_
    exact b_X10_takeBeat_b249 l D k a A C0 R σ (1 : Int32) hs hR H locs ls hW (lv_sub hl [0] rfl)
set_option maxHeartbeats 400000 in
set_option maxRecDepth 100000 in
theorem b_X10_takeBeat_b186 {p : Program} {e : Env} {s : State} {m : MethodId} {args : Array Value} {below : List Frame} {meth : Method} {c : Code} (l : Launch) (D : va_G) (k : Nat → ClassId) (a : Nat → Nat) (A : Nat → Prop) (C0 : q_C p s m meth c args RX10 cX10_takeBeat 8 none wsX10_takeBeat D (tyL k) A) (R : T2) : ∀ (σ : T2) (v1 : Int32) (v2 : Int32) (v3 : Int32) (v4 : Int32) (v7 : Int32) (t0 : Int32) (t1 : Int32), S_X10_takeBeat_b186 σ v1 v2 v3 v4 v7 t0 t1 → P_X10_takeBeat_b186 σ v1 v2 v3 v4 v7 t0 t1 = R → ∀ (H : Heap) (locs : List Loc) (ls : Array Slot), q_W D A s.heap (wX10 k a σ) H locs → lv_has ls 8 [(0, .ref (a 0)), (1, .int v1), (2, .int v2), (3, .int v3), (4, .int v4), (7, .int v7)] → W p l e { frames := 2, cells := 0, slots := 0, locals := 48 } s m args below meth c H locs 0 0 (MQ below (va_Qv (fun u => u = R) (fun u => q_E D (tyL k) A (wX10 k a u)) A) args s 0 0 A) (F0 m 186 ls [.int t0, .int t1, .int (18 : Int32), .ref (a 1)]) := by
  intro σ v1 v2 v3 v4 v7 t0 t1 hs hR H locs ls hW hl
  rw [P_X10_takeBeat_b186_e] at hR
  rw [S_X10_takeBeat_b186_e] at hs
  obtain ⟨hx, hb, hr, hml, hts, hown, hlocks, hK, hA⟩ := id C0
  have hf7 := hts (.fieldLink RX10 7 "BeatFollowerModel" "at" "[I") (by decide +kernel)
  have hinX10 : ∀ w ∈ u_ws RX10 TX10 18, w ∈ wsX10_takeBeat := hin_X10_takeBeat_X10
  refine lv_iadd hx hb dX10_takeBeat_186 ?_
  refine q_iast (f := σ 1) (wd' := wX10 k a (u2 σ 1 (upd (σ 1) 18 (t1 + t0)))) C0 hW 1 rfl rfl vi_18_672 cl_18 dX10_takeBeat_187 (wX10_s1 k a _ _) (fun H locs hW => ?_)
  refine lv_aload_n hx hb dX10_takeBeat_188 rfl (lv_at hl 0 rfl) ?_
  refine va_get (v := .ref (a 1)) (C := RX10) (T := TX10) (N := 18) hx hb hts hinX10 hown hK hW.1 0 rfl rfl 0 (by decide) hf7 (fun _ h9 => h9) rfl dX10_takeBeat_189 ?_
  refine lv_bipush (v := (24 : Int32)) hx hb dX10_takeBeat_192 (by decide) ?_
  refine lv_dup2_11 hx hb dX10_takeBeat_194 rfl rfl ?_
  refine q_iald (v := σ 1 24) C0 hW 1 rfl rfl vi_24_672 cl_24 rfl dX10_takeBeat_195 ?_
  refine lv_iload hx hb dX10_takeBeat_196 (lv_at hl 5 rfl) ?_
  refine lv_iadd hx hb dX10_takeBeat_198 ?_
  refine q_iast (f := upd (σ 1) 18 (t1 + t0)) (wd' := wX10 k a (u2 σ 1 (upd (upd (σ 1) 18 (t1 + t0)) 24 ((σ 1 24) + v7)))) C0 hW 1 rfl rfl vi_24_672 cl_24 dX10_takeBeat_199 ((wX10_s1 k a _ _).trans (congrArg (wX10 k a) (u2_same _ _ _ _))) (fun H locs hW => ?_)
  refine lv_aload_n hx hb dX10_takeBeat_200 rfl (lv_at hl 0 rfl) ?_
  refine va_get (v := .ref (a 1)) (C := RX10) (T := TX10) (N := 18) hx hb hts hinX10 hown hK hW.1 0 rfl rfl 0 (by decide) hf7 (fun _ h9 => h9) rfl dX10_takeBeat_201 ?_
  refine lv_bipush (v := (26 : Int32)) hx hb dX10_takeBeat_204 (by decide) ?_
  refine lv_dup2_11 hx hb dX10_takeBeat_206 rfl rfl ?_
  refine q_iald (v := σ 1 26) C0 hW 1 rfl rfl vi_26_672 cl_26 rfl dX10_takeBeat_207 ?_
  refine lv_iload_n hx hb dX10_takeBeat_208 rfl (lv_at hl 2 rfl) ?_
  have hs8 := hs.1
  have hs := hs.2
  refine q_Si (As := [.int v2]) (rest := [.int (σ 1 26), .int (26 : Int32), .ref (a 1)]) (R := P_X10_size v2) ⟨hx, hb, hml, hown, hts⟩ (m_X10_size l v2 hs8) (va_cwS 1 hts gX10_takeBeat_X10_size rfl rfl rfl hd_X10_size ⟨Nat.le_of_ble_eq_true rfl, Nat.le_of_ble_eq_true rfl⟩) hl rfl rfl (Nat.le_of_ble_eq_true rfl) dX10_takeBeat_209 ⟨Nat.le_refl 0, Nat.le_refl 0⟩ ?_
  refine lv_iadd hx hb dX10_takeBeat_212 ?_
  refine q_iast (f := upd (upd (σ 1) 18 (t1 + t0)) 24 ((σ 1 24) + v7)) (wd' := wX10 k a (u2 σ 1 (upd (upd (upd (σ 1) 18 (t1 + t0)) 24 ((σ 1 24) + v7)) 26 ((σ 1 26) + (P_X10_size v2))))) C0 hW 1 rfl rfl vi_26_672 cl_26 dX10_takeBeat_213 ((wX10_s1 k a _ _).trans (congrArg (wX10 k a) (u2_same _ _ _ _))) (fun H locs hW => ?_)
  refine lv_aload_n hx hb dX10_takeBeat_214 rfl (lv_at hl 0 rfl) ?_
  refine lv_iload_n hx hb dX10_takeBeat_215 rfl (lv_at hl 1 rfl) ?_
  refine lv_iconst (v := (2 : Int32)) hx hb dX10_takeBeat_216 (by decide) ?_
  refine lv_iload_n hx hb dX10_takeBeat_217 rfl (lv_at hl 3 rfl) ?_
  refine lv_iload_n hx hb dX10_takeBeat_218 rfl (lv_at hl 2 rfl) ?_
  refine lv_iload hx hb dX10_takeBeat_219 (lv_at hl 5 rfl) ?_
  have hs9 := hs.1
  have hs := hs.2
  refine q_Vv (As := [.int v1, .int (2 : Int32), .int v3, .int v2, .int v7]) (rest := []) (wf := wX10 k a) (R := P_X10_become (u2 σ 1 (upd (upd (upd (σ 1) 18 (t1 + t0)) 24 ((σ 1 24) + v7)) 26 ((σ 1 26) + (P_X10_size v2)))) v1 (2 : Int32) v3 v2 v7) (wd' := wX10 k a (P_X10_become (u2 σ 1 (upd (upd (upd (σ 1) 18 (t1 + t0)) 24 ((σ 1 24) + v7)) 26 ((σ 1 26) + (P_X10_size v2)))) v1 (2 : Int32) v3 v2 v7)) [0, 1, 2, 3, 4, 5, 6, 7, 8] [0, 1, 2, 3] 0 10 C0 hW (m_X10_become l D k a H.size (u2 σ 1 (upd (upd (upd (σ 1) 18 (t1 + t0)) 24 ((σ 1 24) + v7)) 26 ((σ 1 26) + (P_X10_size v2)))) v1 (2 : Int32) v3 v2 v7 hs9) (cwV 5 hts gX10_takeBeat_X10_become rfl rfl rfl hd_X10_become ⟨Nat.le_of_ble_eq_true rfl, Nat.le_of_ble_eq_true rfl⟩) (by decide) (wX10_pl k a _) rfl (wX10_rec k a _) rfl (wX10_fst k a _ _) (wX10_put k a _ _) hl rfl rfl (Nat.le_of_ble_eq_true rfl) dX10_takeBeat_221 ⟨Nat.le_refl 0, Nat.le_refl 0⟩ (fun H locs hW => ?_)
  exact b_X10_takeBeat_b224c l D k a A C0 R (P_X10_become (u2 σ 1 (upd (upd (upd (σ 1) 18 (t1 + t0)) 24 ((σ 1 24) + v7)) 26 ((σ 1 26) + (P_X10_size v2)))) v1 (2 : Int32) v3 v2 v7) v2 v4 hs hR H locs ls hW (lv_sub hl [0, 2, 4] rfl)
set_option maxHeartbeats 400000 in
set_option maxRecDepth 100000 in
theorem b_X10_takeBeat_b147n {p : Program} {e : Env} {s : State} {m : MethodId} {args : Array Value} {below : List Frame} {meth : Method} {c : Code} (l : Launch) (D : va_G) (k : Nat → ClassId) (a : Nat → Nat) (A : Nat → Prop) (C0 : q_C p s m meth c args RX10 cX10_takeBeat 8 none wsX10_takeBeat D (tyL k) A) (R : T2) : ∀ (σ : T2) (v1 : Int32) (v2 : Int32) (v3 : Int32) (v4 : Int32) (v6 : Int32), S_X10_takeBeat_b147n σ v1 v2 v3 v4 v6 → P_X10_takeBeat_b147n σ v1 v2 v3 v4 v6 = R → ∀ (H : Heap) (locs : List Loc) (ls : Array Slot), q_W D A s.heap (wX10 k a σ) H locs → lv_has ls 8 [(0, .ref (a 0)), (1, .int v1), (2, .int v2), (3, .int v3), (4, .int v4), (6, .int v6)] → W p l e { frames := 2, cells := 0, slots := 0, locals := 48 } s m args below meth c H locs 0 0 (MQ below (va_Qv (fun u => u = R) (fun u => q_E D (tyL k) A (wX10 k a u)) A) args s 0 0 A) (F0 m 147 ls []) := by
  intro σ v1 v2 v3 v4 v6 hs hR H locs ls hW hl
  rw [P_X10_takeBeat_b147n_e] at hR
  rw [S_X10_takeBeat_b147n_e] at hs
  obtain ⟨hx, hb, hr, hml, hts, hown, hlocks, hK, hA⟩ := id C0
  have hf7 := hts (.fieldLink RX10 7 "BeatFollowerModel" "at" "[I") (by decide +kernel)
  have hinX10 : ∀ w ∈ u_ws RX10 TX10 18, w ∈ wsX10_takeBeat := hin_X10_takeBeat_X10
  refine lv_iload hx hb dX10_takeBeat_147 (lv_at hl 5 rfl) ?_
  refine lv_aload_n hx hb dX10_takeBeat_149 rfl (lv_at hl 0 rfl) ?_
  refine va_get (v := .ref (a 1)) (C := RX10) (T := TX10) (N := 18) hx hb hts hinX10 hown hK hW.1 0 rfl rfl 0 (by decide) hf7 (fun _ h9 => h9) rfl dX10_takeBeat_150 ?_
  refine lv_bipush (v := (25 : Int32)) hx hb dX10_takeBeat_153 (by decide) ?_
  refine q_iald (v := σ 1 25) C0 hW 1 rfl rfl vi_25_672 cl_25 rfl dX10_takeBeat_155 ?_
  refine lv_isub hx hb dX10_takeBeat_156 ?_
  refine lv_istore (lv' := [(7, .int (v6 - (σ 1 25))), (0, .ref (a 0)), (1, .int v1), (2, .int v2), (3, .int v3), (4, .int v4), (6, .int v6)]) hx hb dX10_takeBeat_157 hl (by decide) rfl (fun ls hl => ?_)
  refine lv_aload_n hx hb dX10_takeBeat_159 rfl (lv_at hl 1 rfl) ?_
  refine va_get (v := .ref (a 1)) (C := RX10) (T := TX10) (N := 18) hx hb hts hinX10 hown hK hW.1 0 rfl rfl 0 (by decide) hf7 (fun _ h9 => h9) rfl dX10_takeBeat_160 ?_
  refine lv_bipush (v := (25 : Int32)) hx hb dX10_takeBeat_163 (by decide) ?_
  refine lv_iload hx hb dX10_takeBeat_165 (lv_at hl 6 rfl) ?_
  refine q_iast (f := σ 1) (wd' := wX10 k a (u2 σ 1 (upd (σ 1) 25 v6))) C0 hW 1 rfl rfl vi_25_672 cl_25 dX10_takeBeat_167 (wX10_s1 k a _ _) (fun H locs hW => ?_)
  refine lv_aload_n hx hb dX10_takeBeat_168 rfl (lv_at hl 1 rfl) ?_
  refine va_get (v := .ref (a 1)) (C := RX10) (T := TX10) (N := 18) hx hb hts hinX10 hown hK hW.1 0 rfl rfl 0 (by decide) hf7 (fun _ h9 => h9) rfl dX10_takeBeat_169 ?_
  refine lv_bipush (v := (18 : Int32)) hx hb dX10_takeBeat_172 (by decide) ?_
  refine lv_dup2_11 hx hb dX10_takeBeat_174 rfl rfl ?_
  refine q_iald (v := σ 1 18) C0 hW 1 rfl rfl vi_18_672 cl_18 rfl dX10_takeBeat_175 ?_
  refine lv_iload hx hb dX10_takeBeat_176 (lv_at hl 0 rfl) ?_
  refine lv_if_ne (tgt := 185) hx hb dX10_takeBeat_178 (by decide) (fun c_7 => ?_) (fun c_7 => ?_)
  · have hs := hs.2 c_7
    rw [if_neg c_7] at hR
    refine lv_iconst (v := (1 : Int32)) hx hb dX10_takeBeat_185 (by decide) ?_
    exact b_X10_takeBeat_b186 l D k a A C0 R (u2 σ 1 (upd (σ 1) 25 v6)) v1 v2 v3 v4 (v6 - (σ 1 25)) (1 : Int32) (σ 1 18) hs hR H locs ls hW (lv_sub hl [1, 2, 3, 4, 5, 0] rfl)
  · have hs := hs.1 c_7
    rw [if_pos c_7] at hR
    refine lv_iconst (v := (0 : Int32)) hx hb dX10_takeBeat_181 (by decide) ?_
    refine lv_goto (tgt := 186) hx hb dX10_takeBeat_182 (by decide) ?_
    exact b_X10_takeBeat_b186 l D k a A C0 R (u2 σ 1 (upd (σ 1) 25 v6)) v1 v2 v3 v4 (v6 - (σ 1 25)) (0 : Int32) (σ 1 18) hs hR H locs ls hW (lv_sub hl [1, 2, 3, 4, 5, 0] rfl)
set_option maxHeartbeats 400000 in
set_option maxRecDepth 100000 in
theorem b_X10_takeBeat_b92 {p : Program} {e : Env} {s : State} {m : MethodId} {args : Array Value} {below : List Frame} {meth : Method} {c : Code} (l : Launch) (D : va_G) (k : Nat → ClassId) (a : Nat → Nat) (A : Nat → Prop) (C0 : q_C p s m meth c args RX10 cX10_takeBeat 8 none wsX10_takeBeat D (tyL k) A) (R : T2) : ∀ (σ : T2) (v1 : Int32) (v2 : Int32) (v3 : Int32) (v4 : Int32) (t0 : Int32), S_X10_takeBeat_b92 σ v1 v2 v3 v4 t0 → P_X10_takeBeat_b92 σ v1 v2 v3 v4 t0 = R → ∀ (H : Heap) (locs : List Loc) (ls : Array Slot), q_W D A s.heap (wX10 k a σ) H locs → lv_has ls 8 [(0, .ref (a 0)), (1, .int v1), (2, .int v2), (3, .int v3), (4, .int v4)] → W p l e { frames := 2, cells := 0, slots := 0, locals := 48 } s m args below meth c H locs 0 0 (MQ below (va_Qv (fun u => u = R) (fun u => q_E D (tyL k) A (wX10 k a u)) A) args s 0 0 A) (F0 m 92 ls [.int t0]) := by
  intro σ v1 v2 v3 v4 t0 hs hR H locs ls hW hl
  rw [P_X10_takeBeat_b92_e] at hR
  rw [S_X10_takeBeat_b92_e] at hs
  obtain ⟨hx, hb, hr, hml, hts, hown, hlocks, hK, hA⟩ := id C0
  have hf7 := hts (.fieldLink RX10 7 "BeatFollowerModel" "at" "[I") (by decide +kernel)
  have hinX10 : ∀ w ∈ u_ws RX10 TX10 18, w ∈ wsX10_takeBeat := hin_X10_takeBeat_X10
  refine lv_istore (lv' := [(5, .int t0), (0, .ref (a 0)), (1, .int v1), (2, .int v2), (3, .int v3), (4, .int v4)]) hx hb dX10_takeBeat_92 hl (by decide) rfl (fun ls hl => ?_)
  refine lv_aload_n hx hb dX10_takeBeat_94 rfl (lv_at hl 1 rfl) ?_
  refine va_get (v := .ref (a 1)) (C := RX10) (T := TX10) (N := 18) hx hb hts hinX10 hown hK hW.1 0 rfl rfl 0 (by decide) hf7 (fun _ h9 => h9) rfl dX10_takeBeat_95 ?_
  refine lv_bipush (v := (10 : Int32)) hx hb dX10_takeBeat_98 (by decide) ?_
  refine lv_iload hx hb dX10_takeBeat_100 (lv_at hl 0 rfl) ?_
  refine q_iast (f := σ 1) (wd' := wX10 k a (u2 σ 1 (upd (σ 1) 10 t0))) C0 hW 1 rfl rfl vi_10_672 cl_10 dX10_takeBeat_102 (wX10_s1 k a _ _) (fun H locs hW => ?_)
  refine lv_aload_n hx hb dX10_takeBeat_103 rfl (lv_at hl 1 rfl) ?_
  refine va_get (v := .ref (a 1)) (C := RX10) (T := TX10) (N := 18) hx hb hts hinX10 hown hK hW.1 0 rfl rfl 0 (by decide) hf7 (fun _ h9 => h9) rfl dX10_takeBeat_104 ?_
  refine lv_bipush (v := (11 : Int32)) hx hb dX10_takeBeat_107 (by decide) ?_
  refine lv_dup2_11 hx hb dX10_takeBeat_109 rfl rfl ?_
  refine q_iald (v := σ 1 11) C0 hW 1 rfl rfl vi_11_672 cl_11 rfl dX10_takeBeat_110 ?_
  refine lv_iload_n hx hb dX10_takeBeat_111 rfl (lv_at hl 3 rfl) ?_
  refine lv_aload_n hx hb dX10_takeBeat_112 rfl (lv_at hl 1 rfl) ?_
  refine va_get (v := .ref (a 1)) (C := RX10) (T := TX10) (N := 18) hx hb hts hinX10 hown hK hW.1 0 rfl rfl 0 (by decide) hf7 (fun _ h9 => h9) rfl dX10_takeBeat_113 ?_
  refine lv_iconst (v := (2 : Int32)) hx hb dX10_takeBeat_116 (by decide) ?_
  refine q_iald (v := σ 1 2) C0 hW 1 rfl rfl vi_2_672 cl_2 rfl dX10_takeBeat_117 ?_
  refine lv_imul hx hb dX10_takeBeat_118 ?_
  refine lv_bipush (v := (16 : Int32)) hx hb dX10_takeBeat_119 (by decide) ?_
  have hs5 := hs.1
  have hs := hs.2
  refine q_Si (As := [.int (v2 * (σ 1 2)), .int (16 : Int32)]) (rest := [.int (σ 1 11), .int (11 : Int32), .ref (a 1)]) (R := P_X10_part (v2 * (σ 1 2)) (16 : Int32)) ⟨hx, hb, hml, hown, hts⟩ (m_X10_part l (v2 * (σ 1 2)) (16 : Int32) hs5) (va_cwS 2 hts gX10_takeBeat_X10_part rfl rfl rfl hd_X10_part ⟨Nat.le_of_ble_eq_true rfl, Nat.le_of_ble_eq_true rfl⟩) hl rfl rfl (Nat.le_of_ble_eq_true rfl) dX10_takeBeat_121 ⟨Nat.le_refl 0, Nat.le_refl 0⟩ ?_
  refine lv_iload hx hb dX10_takeBeat_124 (lv_at hl 0 rfl) ?_
  refine lv_iadd hx hb dX10_takeBeat_126 ?_
  refine lv_iadd hx hb dX10_takeBeat_127 ?_
  refine q_iast (f := upd (σ 1) 10 t0) (wd' := wX10 k a (u2 σ 1 (upd (upd (σ 1) 10 t0) 11 ((σ 1 11) + ((P_X10_part (v2 * (σ 1 2)) (16 : Int32)) + t0))))) C0 hW 1 rfl rfl vi_11_672 cl_11 dX10_takeBeat_128 ((wX10_s1 k a _ _).trans (congrArg (wX10 k a) (u2_same _ _ _ _))) (fun H locs hW => ?_)
  refine lv_aload_n hx hb dX10_takeBeat_129 rfl (lv_at hl 1 rfl) ?_
  refine va_get (v := .ref (a 1)) (C := RX10) (T := TX10) (N := 18) hx hb hts hinX10 hown hK hW.1 0 rfl rfl 0 (by decide) hf7 (fun _ h9 => h9) rfl dX10_takeBeat_130 ?_
  refine lv_bipush (v := (21 : Int32)) hx hb dX10_takeBeat_133 (by decide) ?_
  refine lv_iconst (v := (0 : Int32)) hx hb dX10_takeBeat_135 (by decide) ?_
  refine q_iast (f := upd (upd (σ 1) 10 t0) 11 ((σ 1 11) + ((P_X10_part (v2 * (σ 1 2)) (16 : Int32)) + t0))) (wd' := wX10 k a (u2 σ 1 (upd (upd (upd (σ 1) 10 t0) 11 ((σ 1 11) + ((P_X10_part (v2 * (σ 1 2)) (16 : Int32)) + t0))) 21 (0 : Int32)))) C0 hW 1 rfl rfl vi_21_672 cl_21 dX10_takeBeat_136 ((wX10_s1 k a _ _).trans (congrArg (wX10 k a) (u2_same _ _ _ _))) (fun H locs hW => ?_)
  refine lv_aload_n hx hb dX10_takeBeat_137 rfl (lv_at hl 1 rfl) ?_
  refine lv_iload_n hx hb dX10_takeBeat_138 rfl (lv_at hl 2 rfl) ?_
  refine lv_iconst (v := (1 : Int32)) hx hb dX10_takeBeat_139 (by decide) ?_
  have hs6 := hs.1
  have hs := hs.2
  refine q_Vi (As := [.int v1, .int (1 : Int32)]) (rest := []) (R := P_X10_ofB (u2 σ 1 (upd (upd (upd (σ 1) 10 t0) 11 ((σ 1 11) + ((P_X10_part (v2 * (σ 1 2)) (16 : Int32)) + t0))) 21 (0 : Int32))) v1 (1 : Int32)) [0, 1, 2, 3, 4, 5, 6, 7, 8] [0, 1, 2, 3] 0 10 C0 hW (m_X10_ofB l D k a _ (u2 σ 1 (upd (upd (upd (σ 1) 10 t0) 11 ((σ 1 11) + ((P_X10_part (v2 * (σ 1 2)) (16 : Int32)) + t0))) 21 (0 : Int32))) v1 (1 : Int32) hs6) (cwV 2 hts gX10_takeBeat_X10_ofB rfl rfl rfl hd_X10_ofB ⟨Nat.le_of_ble_eq_true rfl, Nat.le_of_ble_eq_true rfl⟩) (by decide) (wX10_pl k a _) rfl (wX10_rec k a _) rfl hl rfl rfl (Nat.le_of_ble_eq_true rfl) dX10_takeBeat_140 ⟨Nat.le_refl 0, Nat.le_refl 0⟩ ?_
  refine lv_iload_n hx hb dX10_takeBeat_143 rfl (lv_at hl 4 rfl) ?_
  refine lv_isub hx hb dX10_takeBeat_144 ?_
  refine lv_istore (lv' := [(6, .int ((P_X10_ofB (u2 σ 1 (upd (upd (upd (σ 1) 10 t0) 11 ((σ 1 11) + ((P_X10_part (v2 * (σ 1 2)) (16 : Int32)) + t0))) 21 (0 : Int32))) v1 (1 : Int32)) - v3)), (5, .int t0), (0, .ref (a 0)), (1, .int v1), (2, .int v2), (3, .int v3), (4, .int v4)]) hx hb dX10_takeBeat_145 hl (by decide) rfl (fun ls hl => ?_)
  exact b_X10_takeBeat_b147n l D k a A C0 R (u2 σ 1 (upd (upd (upd (σ 1) 10 t0) 11 ((σ 1 11) + ((P_X10_part (v2 * (σ 1 2)) (16 : Int32)) + t0))) 21 (0 : Int32))) v1 v2 v3 v4 ((P_X10_ofB (u2 σ 1 (upd (upd (upd (σ 1) 10 t0) 11 ((σ 1 11) + ((P_X10_part (v2 * (σ 1 2)) (16 : Int32)) + t0))) 21 (0 : Int32))) v1 (1 : Int32)) - v3) hs hR H locs ls hW (lv_sub hl [2, 3, 4, 5, 6, 0] rfl)
set_option maxHeartbeats 400000 in
set_option maxRecDepth 100000 in
theorem b_X10_takeBeat_b40n {p : Program} {e : Env} {s : State} {m : MethodId} {args : Array Value} {below : List Frame} {meth : Method} {c : Code} (l : Launch) (D : va_G) (k : Nat → ClassId) (a : Nat → Nat) (A : Nat → Prop) (C0 : q_C p s m meth c args RX10 cX10_takeBeat 8 none wsX10_takeBeat D (tyL k) A) (R : T2) : ∀ (σ : T2) (v1 : Int32) (v2 : Int32) (v3 : Int32) (v4 : Int32) (v5 : Int32), S_X10_takeBeat_b40n σ v1 v2 v3 v4 v5 → P_X10_takeBeat_b40n σ v1 v2 v3 v4 v5 = R → ∀ (H : Heap) (locs : List Loc) (ls : Array Slot), q_W D A s.heap (wX10 k a σ) H locs → lv_has ls 8 [(0, .ref (a 0)), (1, .int v1), (2, .int v2), (3, .int v3), (4, .int v4), (5, .int v5)] → W p l e { frames := 2, cells := 0, slots := 0, locals := 48 } s m args below meth c H locs 0 0 (MQ below (va_Qv (fun u => u = R) (fun u => q_E D (tyL k) A (wX10 k a u)) A) args s 0 0 A) (F0 m 40 ls []) := by
  intro σ v1 v2 v3 v4 v5 hs hR H locs ls hW hl
  rw [P_X10_takeBeat_b40n_e] at hR
  rw [S_X10_takeBeat_b40n_e] at hs
  obtain ⟨hx, hb, hr, hml, hts, hown, hlocks, hK, hA⟩ := id C0
  have hf7 := hts (.fieldLink RX10 7 "BeatFollowerModel" "at" "[I") (by decide +kernel)
  have hinX10 : ∀ w ∈ u_ws RX10 TX10 18, w ∈ wsX10_takeBeat := hin_X10_takeBeat_X10
  refine lv_iload hx hb dX10_takeBeat_40 (lv_at hl 5 rfl) ?_
  refine lv_iconst (v := (2 : Int32)) hx hb dX10_takeBeat_42 (by decide) ?_
  refine lv_aload_n hx hb dX10_takeBeat_43 rfl (lv_at hl 0 rfl) ?_
  refine va_get (v := .ref (a 1)) (C := RX10) (T := TX10) (N := 18) hx hb hts hinX10 hown hK hW.1 0 rfl rfl 0 (by decide) hf7 (fun _ h9 => h9) rfl dX10_takeBeat_44 ?_
  refine lv_iconst (v := (0 : Int32)) hx hb dX10_takeBeat_47 (by decide) ?_
  refine q_iald (v := σ 1 0) C0 hW 1 rfl rfl vi_0_672 cl_0 rfl dX10_takeBeat_48 ?_
  refine lv_imul hx hb dX10_takeBeat_49 ?_
  refine lv_icmp_ge (tgt := 64) hx hb dX10_takeBeat_50 (by decide) (fun c_3 => ?_) (fun c_3 => ?_)
  · have hs := hs.1 c_3
    rw [if_pos c_3] at hR
    refine lv_iload hx hb dX10_takeBeat_64 (lv_at hl 5 rfl) ?_
    refine lv_bipush (v := (8 : Int32)) hx hb dX10_takeBeat_66 (by decide) ?_
    refine lv_aload_n hx hb dX10_takeBeat_68 rfl (lv_at hl 0 rfl) ?_
    refine va_get (v := .ref (a 1)) (C := RX10) (T := TX10) (N := 18) hx hb hts hinX10 hown hK hW.1 0 rfl rfl 0 (by decide) hf7 (fun _ h9 => h9) rfl dX10_takeBeat_69 ?_
    refine lv_iconst (v := (0 : Int32)) hx hb dX10_takeBeat_72 (by decide) ?_
    refine q_iald (v := σ 1 0) C0 hW 1 rfl rfl vi_0_672 cl_0 rfl dX10_takeBeat_73 ?_
    refine lv_imul hx hb dX10_takeBeat_74 ?_
    refine lv_icmp_le (tgt := 90) hx hb dX10_takeBeat_75 (by decide) (fun c_4 => ?_) (fun c_4 => ?_)
    · have hs := hs.1 c_4
      rw [if_pos c_4] at hR
      refine lv_iload hx hb dX10_takeBeat_90 (lv_at hl 5 rfl) ?_
      exact b_X10_takeBeat_b92 l D k a A C0 R σ v1 v2 v3 v4 v5 hs hR H locs ls hW (lv_sub hl [0, 1, 2, 3, 4] rfl)
    · have hs := hs.2 c_4
      rw [if_neg c_4] at hR
      refine lv_bipush (v := (8 : Int32)) hx hb dX10_takeBeat_78 (by decide) ?_
      refine lv_aload_n hx hb dX10_takeBeat_80 rfl (lv_at hl 0 rfl) ?_
      refine va_get (v := .ref (a 1)) (C := RX10) (T := TX10) (N := 18) hx hb hts hinX10 hown hK hW.1 0 rfl rfl 0 (by decide) hf7 (fun _ h9 => h9) rfl dX10_takeBeat_81 ?_
      refine lv_iconst (v := (0 : Int32)) hx hb dX10_takeBeat_84 (by decide) ?_
      refine q_iald (v := σ 1 0) C0 hW 1 rfl rfl vi_0_672 cl_0 rfl dX10_takeBeat_85 ?_
      refine lv_imul hx hb dX10_takeBeat_86 ?_
      refine lv_goto (tgt := 92) hx hb dX10_takeBeat_87 (by decide) ?_
      exact b_X10_takeBeat_b92 l D k a A C0 R σ v1 v2 v3 v4 ((8 : Int32) * (σ 1 0)) hs hR H locs ls hW (lv_sub hl [0, 1, 2, 3, 4] rfl)
  · have hs := hs.2 c_3
    rw [if_neg c_3] at hR
    refine lv_iconst (v := (2 : Int32)) hx hb dX10_takeBeat_53 (by decide) ?_
    refine lv_aload_n hx hb dX10_takeBeat_54 rfl (lv_at hl 0 rfl) ?_
    refine va_get (v := .ref (a 1)) (C := RX10) (T := TX10) (N := 18) hx hb hts hinX10 hown hK hW.1 0 rfl rfl 0 (by decide) hf7 (fun _ h9 => h9) rfl dX10_takeBeat_55 ?_
    refine lv_iconst (v := (0 : Int32)) hx hb dX10_takeBeat_58 (by decide) ?_
    refine q_iald (v := σ 1 0) C0 hW 1 rfl rfl vi_0_672 cl_0 rfl dX10_takeBeat_59 ?_
    refine lv_imul hx hb dX10_takeBeat_60 ?_
    refine lv_goto (tgt := 92) hx hb dX10_takeBeat_61 (by decide) ?_
    exact b_X10_takeBeat_b92 l D k a A C0 R σ v1 v2 v3 v4 ((2 : Int32) * (σ 1 0)) hs hR H locs ls hW (lv_sub hl [0, 1, 2, 3, 4] rfl)
set_option maxHeartbeats 400000 in
set_option maxRecDepth 100000 in
theorem b_X10_takeBeat_b12c {p : Program} {e : Env} {s : State} {m : MethodId} {args : Array Value} {below : List Frame} {meth : Method} {c : Code} (l : Launch) (D : va_G) (k : Nat → ClassId) (a : Nat → Nat) (A : Nat → Prop) (C0 : q_C p s m meth c args RX10 cX10_takeBeat 8 none wsX10_takeBeat D (tyL k) A) (R : T2) : ∀ (σ : T2) (v1 : Int32) (v2 : Int32) (t0 : Int32), S_X10_takeBeat_b12c σ v1 v2 t0 → P_X10_takeBeat_b12c σ v1 v2 t0 = R → ∀ (H : Heap) (locs : List Loc) (ls : Array Slot), q_W D A s.heap (wX10 k a σ) H locs → lv_has ls 8 [(0, .ref (a 0)), (1, .int v1), (2, .int v2)] → W p l e { frames := 2, cells := 0, slots := 0, locals := 48 } s m args below meth c H locs 0 0 (MQ below (va_Qv (fun u => u = R) (fun u => q_E D (tyL k) A (wX10 k a u)) A) args s 0 0 A) (F0 m 12 ls [.int t0]) := by
  intro σ v1 v2 t0 hs hR H locs ls hW hl
  rw [P_X10_takeBeat_b12c_e] at hR
  rw [S_X10_takeBeat_b12c_e] at hs
  obtain ⟨hx, hb, hr, hml, hts, hown, hlocks, hK, hA⟩ := id C0
  have hf7 := hts (.fieldLink RX10 7 "BeatFollowerModel" "at" "[I") (by decide +kernel)
  have hinX10 : ∀ w ∈ u_ws RX10 TX10 18, w ∈ wsX10_takeBeat := hin_X10_takeBeat_X10
  refine lv_istore_n (lv' := [(3, .int t0), (0, .ref (a 0)), (1, .int v1), (2, .int v2)]) hx hb dX10_takeBeat_12 rfl hl (by decide) rfl (fun ls hl => ?_)
  refine lv_aload_n hx hb dX10_takeBeat_13 rfl (lv_at hl 1 rfl) ?_
  refine va_get (v := .ref (a 1)) (C := RX10) (T := TX10) (N := 18) hx hb hts hinX10 hown hK hW.1 0 rfl rfl 0 (by decide) hf7 (fun _ h9 => h9) rfl dX10_takeBeat_14 ?_
  refine lv_bipush (v := (10 : Int32)) hx hb dX10_takeBeat_17 (by decide) ?_
  refine q_iald (v := σ 1 10) C0 hW 1 rfl rfl vi_10_672 cl_10 rfl dX10_takeBeat_19 ?_
  refine lv_istore (lv' := [(4, .int (σ 1 10)), (3, .int t0), (0, .ref (a 0)), (1, .int v1), (2, .int v2)]) hx hb dX10_takeBeat_20 hl (by decide) rfl (fun ls hl => ?_)
  refine lv_iload hx hb dX10_takeBeat_22 (lv_at hl 0 rfl) ?_
  refine lv_iload_n hx hb dX10_takeBeat_24 rfl (lv_at hl 4 rfl) ?_
  refine lv_aload_n hx hb dX10_takeBeat_25 rfl (lv_at hl 2 rfl) ?_
  refine va_get (v := .ref (a 1)) (C := RX10) (T := TX10) (N := 18) hx hb hts hinX10 hown hK hW.1 0 rfl rfl 0 (by decide) hf7 (fun _ h9 => h9) rfl dX10_takeBeat_26 ?_
  refine lv_iconst (v := (3 : Int32)) hx hb dX10_takeBeat_29 (by decide) ?_
  refine q_iald (v := σ 1 3) C0 hW 1 rfl rfl vi_3_672 cl_3 rfl dX10_takeBeat_30 ?_
  refine lv_imul hx hb dX10_takeBeat_31 ?_
  refine lv_bipush (v := (16 : Int32)) hx hb dX10_takeBeat_32 (by decide) ?_
  have hs2 := hs.1
  have hs := hs.2
  refine q_Si (As := [.int (v2 * (σ 1 3)), .int (16 : Int32)]) (rest := [.int (σ 1 10)]) (R := P_X10_part (v2 * (σ 1 3)) (16 : Int32)) ⟨hx, hb, hml, hown, hts⟩ (m_X10_part l (v2 * (σ 1 3)) (16 : Int32) hs2) (va_cwS 2 hts gX10_takeBeat_X10_part rfl rfl rfl hd_X10_part ⟨Nat.le_of_ble_eq_true rfl, Nat.le_of_ble_eq_true rfl⟩) hl rfl rfl (Nat.le_of_ble_eq_true rfl) dX10_takeBeat_34 ⟨Nat.le_refl 0, Nat.le_refl 0⟩ ?_
  refine lv_iadd hx hb dX10_takeBeat_37 ?_
  refine lv_istore (lv' := [(5, .int ((σ 1 10) + (P_X10_part (v2 * (σ 1 3)) (16 : Int32)))), (4, .int (σ 1 10)), (3, .int t0), (0, .ref (a 0)), (1, .int v1), (2, .int v2)]) hx hb dX10_takeBeat_38 hl (by decide) rfl (fun ls hl => ?_)
  exact b_X10_takeBeat_b40n l D k a A C0 R σ v1 v2 t0 (σ 1 10) ((σ 1 10) + (P_X10_part (v2 * (σ 1 3)) (16 : Int32))) hs hR H locs ls hW (lv_sub hl [3, 4, 5, 2, 1, 0] rfl)
set_option maxHeartbeats 400000 in
set_option maxRecDepth 100000 in
theorem b_X10_takeBeat_b0 {p : Program} {e : Env} {s : State} {m : MethodId} {args : Array Value} {below : List Frame} {meth : Method} {c : Code} (l : Launch) (D : va_G) (k : Nat → ClassId) (a : Nat → Nat) (A : Nat → Prop) (C0 : q_C p s m meth c args RX10 cX10_takeBeat 8 none wsX10_takeBeat D (tyL k) A) (R : T2) : ∀ (σ : T2) (v1 : Int32) (v2 : Int32), S_X10_takeBeat_b0 σ v1 v2 → P_X10_takeBeat_b0 σ v1 v2 = R → ∀ (H : Heap) (locs : List Loc) (ls : Array Slot), q_W D A s.heap (wX10 k a σ) H locs → lv_has ls 8 [(0, .ref (a 0)), (1, .int v1), (2, .int v2)] → W p l e { frames := 2, cells := 0, slots := 0, locals := 48 } s m args below meth c H locs 0 0 (MQ below (va_Qv (fun u => u = R) (fun u => q_E D (tyL k) A (wX10 k a u)) A) args s 0 0 A) (F0 m 0 ls []) := by
  intro σ v1 v2 hs hR H locs ls hW hl
  rw [P_X10_takeBeat_b0_e] at hR
  rw [S_X10_takeBeat_b0_e] at hs
  obtain ⟨hx, hb, hr, hml, hts, hown, hlocks, hK, hA⟩ := id C0
  have hf7 := hts (.fieldLink RX10 7 "BeatFollowerModel" "at" "[I") (by decide +kernel)
  have hinX10 : ∀ w ∈ u_ws RX10 TX10 18, w ∈ wsX10_takeBeat := hin_X10_takeBeat_X10
  refine lv_aload_n hx hb dX10_takeBeat_0 rfl (lv_at hl 0 rfl) ?_
  refine lv_aload_n hx hb dX10_takeBeat_1 rfl (lv_at hl 0 rfl) ?_
  refine va_get (v := .ref (a 1)) (C := RX10) (T := TX10) (N := 18) hx hb hts hinX10 hown hK hW.1 0 rfl rfl 0 (by decide) hf7 (fun _ h9 => h9) rfl dX10_takeBeat_2 ?_
  refine lv_bipush (v := (11 : Int32)) hx hb dX10_takeBeat_5 (by decide) ?_
  refine q_iald (v := σ 1 11) C0 hW 1 rfl rfl vi_11_672 cl_11 rfl dX10_takeBeat_7 ?_
  refine lv_iload_n hx hb dX10_takeBeat_8 rfl (lv_at hl 1 rfl) ?_
  have hs1 := hs.1
  have hs := hs.2
  refine q_Viw (As := [.int (σ 1 11), .int v1]) (rest := []) (wf := wX10 k a) (R := P_X10_strike σ (σ 1 11) v1) (wd' := wX10 k a ((P_X10_strike σ (σ 1 11) v1).2)) [0, 1, 2, 3, 4, 5, 6, 7, 8] [0, 1, 2, 3] 0 10 C0 hW (m_X10_strike l D k a H.size σ (σ 1 11) v1 hs1) (cwV 2 hts gX10_takeBeat_X10_strike rfl rfl rfl hd_X10_strike ⟨Nat.le_of_ble_eq_true rfl, Nat.le_of_ble_eq_true rfl⟩) (by decide) (wX10_pl k a _) rfl (wX10_rec k a _) rfl (wX10_fst k a _ _) (wX10_put k a _ _) hl rfl rfl (Nat.le_of_ble_eq_true rfl) dX10_takeBeat_9 ⟨Nat.le_refl 0, Nat.le_refl 0⟩ (fun H locs hW => ?_)
  exact b_X10_takeBeat_b12c l D k a A C0 R ((P_X10_strike σ (σ 1 11) v1).2) v1 v2 ((P_X10_strike σ (σ 1 11) v1).1) hs hR H locs ls hW (lv_sub hl [0, 1, 2] rfl)
set_option maxHeartbeats 400000 in
set_option maxRecDepth 100000 in
theorem m_X10_takeBeat (l : Launch) (D : va_G) (k : Nat → ClassId) (a : Nat → Nat) (sz : Nat) (σ : T2) (p0 : Int32) (p1 : Int32) (hs : S_X10_takeBeat σ p0 p1) : Met l yX10_takeBeat wsX10_takeBeat { frames := 2, cells := 0, slots := 0, locals := 48 } (va_Pc [.ref (a 0), .int p0, .int p1] (q_B D (tyL k) (wX10 k a σ) sz)) (va_Qv (fun u => u = P_X10_takeBeat σ p0 p1) (fun u => q_E D (tyL k) (va_A (wX10 k a σ) sz) (wX10 k a u)) (va_A (wX10 k a σ) sz)) 0 0 (va_A (wX10 k a σ) sz) := by
  refine q_met [.ref (a 0), .int p0, .int p1] (wX10 k a σ) sz (cc := cX10_takeBeat) (maxL := 8) (ret := none) (by decide) rfl (Nat.le_of_ble_eq_true rfl) ?_
  intro p e s m args below meth c ls hsz C0 hW hl hin
  subst hsz
  exact b_X10_takeBeat_b0 l D k a _ C0 _ σ p0 p1 hs rfl s.heap [] ls hW (lv_sub hl [0, 1, 2] rfl)
theorem hin_X10_hear_X10 : ∀ w ∈ u_ws RX10 TX10 18, w ∈ wsX10_hear := by decide +kernel
theorem hd_X10_hear : yX10_hear.cls = RX10 ∧ yX10_hear.cls ≠ "java/lang/invoke/MethodHandle" ∧ yX10_hear.cls ≠ "java/lang/invoke/VarHandle" ∧ (parseMethodDescriptor yX10_hear.desc).map (fun d => d.parameters.length) = some 0 := by decide +kernel
noncomputable def P_X10_hear_b124c (σ : T2) : T2 := σ
def S_X10_hear_b124c (σ : T2) : Prop := True
theorem P_X10_hear_b124c_e (σ : T2) : P_X10_hear_b124c σ = σ := rfl
theorem S_X10_hear_b124c_e (σ : T2) : S_X10_hear_b124c σ = (True) := rfl
noncomputable def P_X10_hear_b107c (σ : T2) : T2 := P_X10_hear_b124c (P_X10_judge (u2 σ 1 (upd (σ 1) 15 ((σ 1 15) + (1 : Int32)))) (0 : Int32) (0 : Int32))
def S_X10_hear_b107c (σ : T2) : Prop := (S_X10_judge (u2 σ 1 (upd (σ 1) 15 ((σ 1 15) + (1 : Int32)))) (0 : Int32) (0 : Int32)) ∧ (S_X10_hear_b124c (P_X10_judge (u2 σ 1 (upd (σ 1) 15 ((σ 1 15) + (1 : Int32)))) (0 : Int32) (0 : Int32)))
theorem P_X10_hear_b107c_e (σ : T2) : P_X10_hear_b107c σ = P_X10_hear_b124c (P_X10_judge (u2 σ 1 (upd (σ 1) 15 ((σ 1 15) + (1 : Int32)))) (0 : Int32) (0 : Int32)) := rfl
theorem S_X10_hear_b107c_e (σ : T2) : S_X10_hear_b107c σ = ((S_X10_judge (u2 σ 1 (upd (σ 1) 15 ((σ 1 15) + (1 : Int32)))) (0 : Int32) (0 : Int32)) ∧ (S_X10_hear_b124c (P_X10_judge (u2 σ 1 (upd (σ 1) 15 ((σ 1 15) + (1 : Int32)))) (0 : Int32) (0 : Int32)))) := rfl
noncomputable def P_X10_hear_b87n (σ : T2) (v1 : Int32) (v2 : Int32) : T2 := if (-(P_X10_halfWindow σ)) ≤ v2 then (P_X10_takeBeat σ v1 v2) else (P_X10_hear_b107c (P_X10_become σ v1 (1 : Int32) (-6 : Int32) v2 (-6 : Int32)))
def S_X10_hear_b87n (σ : T2) (v1 : Int32) (v2 : Int32) : Prop := (S_X10_halfWindow σ ) ∧ (((-(P_X10_halfWindow σ)) ≤ v2 → ((S_X10_takeBeat σ v1 v2) ∧ (True))) ∧ (¬ ((-(P_X10_halfWindow σ)) ≤ v2) → ((S_X10_become σ v1 (1 : Int32) (-6 : Int32) v2 (-6 : Int32)) ∧ (S_X10_hear_b107c (P_X10_become σ v1 (1 : Int32) (-6 : Int32) v2 (-6 : Int32))))))
theorem P_X10_hear_b87n_e (σ : T2) (v1 : Int32) (v2 : Int32) : P_X10_hear_b87n σ v1 v2 = if (-(P_X10_halfWindow σ)) ≤ v2 then (P_X10_takeBeat σ v1 v2) else (P_X10_hear_b107c (P_X10_become σ v1 (1 : Int32) (-6 : Int32) v2 (-6 : Int32))) := rfl
theorem S_X10_hear_b87n_e (σ : T2) (v1 : Int32) (v2 : Int32) : S_X10_hear_b87n σ v1 v2 = ((S_X10_halfWindow σ ) ∧ (((-(P_X10_halfWindow σ)) ≤ v2 → ((S_X10_takeBeat σ v1 v2) ∧ (True))) ∧ (¬ ((-(P_X10_halfWindow σ)) ≤ v2) → ((S_X10_become σ v1 (1 : Int32) (-6 : Int32) v2 (-6 : Int32)) ∧ (S_X10_hear_b107c (P_X10_become σ v1 (1 : Int32) (-6 : Int32) v2 (-6 : Int32))))))) := rfl
noncomputable def P_X10_hear_b52 (σ : T2) (v1 : Int32) (t0 : Int32) (t1 : Int32) : T2 := if 0 ≤ (σ 1 11) then (P_X10_hear_b87n (u2 σ 1 (upd (σ 1) 27 (t1 + t0))) v1 (((4 : Int32) * (P_X10_ofB (u2 σ 1 (upd (σ 1) 27 (t1 + t0))) v1 (0 : Int32))) - (σ 1 11))) else (P_X10_begin (u2 σ 1 (upd (σ 1) 27 (t1 + t0))) v1)
def S_X10_hear_b52 (σ : T2) (v1 : Int32) (t0 : Int32) (t1 : Int32) : Prop := (0 ≤ (σ 1 11) → ((S_X10_ofB (u2 σ 1 (upd (σ 1) 27 (t1 + t0))) v1 (0 : Int32)) ∧ (S_X10_hear_b87n (u2 σ 1 (upd (σ 1) 27 (t1 + t0))) v1 (((4 : Int32) * (P_X10_ofB (u2 σ 1 (upd (σ 1) 27 (t1 + t0))) v1 (0 : Int32))) - (σ 1 11))))) ∧ (¬ (0 ≤ (σ 1 11)) → ((S_X10_begin (u2 σ 1 (upd (σ 1) 27 (t1 + t0))) v1) ∧ (True)))
theorem P_X10_hear_b52_e (σ : T2) (v1 : Int32) (t0 : Int32) (t1 : Int32) : P_X10_hear_b52 σ v1 t0 t1 = if 0 ≤ (σ 1 11) then (P_X10_hear_b87n (u2 σ 1 (upd (σ 1) 27 (t1 + t0))) v1 (((4 : Int32) * (P_X10_ofB (u2 σ 1 (upd (σ 1) 27 (t1 + t0))) v1 (0 : Int32))) - (σ 1 11))) else (P_X10_begin (u2 σ 1 (upd (σ 1) 27 (t1 + t0))) v1) := rfl
theorem S_X10_hear_b52_e (σ : T2) (v1 : Int32) (t0 : Int32) (t1 : Int32) : S_X10_hear_b52 σ v1 t0 t1 = ((0 ≤ (σ 1 11) → ((S_X10_ofB (u2 σ 1 (upd (σ 1) 27 (t1 + t0))) v1 (0 : Int32)) ∧ (S_X10_hear_b87n (u2 σ 1 (upd (σ 1) 27 (t1 + t0))) v1 (((4 : Int32) * (P_X10_ofB (u2 σ 1 (upd (σ 1) 27 (t1 + t0))) v1 (0 : Int32))) - (σ 1 11))))) ∧ (¬ (0 ≤ (σ 1 11)) → ((S_X10_begin (u2 σ 1 (upd (σ 1) 27 (t1 + t0))) v1) ∧ (True)))) := rfl
noncomputable def P_X10_hear_b0 (σ : T2) : T2 := if (σ 1 14) = (σ 0 7) then (u2 σ 1 (upd (σ 1) 14 ((σ 1 14) + (1 : Int32)))) else (if (σ 1 9) = (1 : Int32) then (P_X10_hear_b52 (u2 σ 1 (upd (σ 1) 14 ((σ 1 14) + (1 : Int32)))) (σ 1 14) (1 : Int32) (σ 1 27)) else (P_X10_hear_b52 (u2 σ 1 (upd (σ 1) 14 ((σ 1 14) + (1 : Int32)))) (σ 1 14) (0 : Int32) (σ 1 27)))
def S_X10_hear_b0 (σ : T2) : Prop := ((σ 1 14) = (σ 0 7) → (True)) ∧ (¬ ((σ 1 14) = (σ 0 7)) → (((σ 1 9) = (1 : Int32) → (S_X10_hear_b52 (u2 σ 1 (upd (σ 1) 14 ((σ 1 14) + (1 : Int32)))) (σ 1 14) (1 : Int32) (σ 1 27))) ∧ (¬ ((σ 1 9) = (1 : Int32)) → (S_X10_hear_b52 (u2 σ 1 (upd (σ 1) 14 ((σ 1 14) + (1 : Int32)))) (σ 1 14) (0 : Int32) (σ 1 27)))))
theorem P_X10_hear_b0_e (σ : T2) : P_X10_hear_b0 σ = if (σ 1 14) = (σ 0 7) then (u2 σ 1 (upd (σ 1) 14 ((σ 1 14) + (1 : Int32)))) else (if (σ 1 9) = (1 : Int32) then (P_X10_hear_b52 (u2 σ 1 (upd (σ 1) 14 ((σ 1 14) + (1 : Int32)))) (σ 1 14) (1 : Int32) (σ 1 27)) else (P_X10_hear_b52 (u2 σ 1 (upd (σ 1) 14 ((σ 1 14) + (1 : Int32)))) (σ 1 14) (0 : Int32) (σ 1 27))) := rfl
theorem S_X10_hear_b0_e (σ : T2) : S_X10_hear_b0 σ = (((σ 1 14) = (σ 0 7) → (True)) ∧ (¬ ((σ 1 14) = (σ 0 7)) → (((σ 1 9) = (1 : Int32) → (S_X10_hear_b52 (u2 σ 1 (upd (σ 1) 14 ((σ 1 14) + (1 : Int32)))) (σ 1 14) (1 : Int32) (σ 1 27))) ∧ (¬ ((σ 1 9) = (1 : Int32)) → (S_X10_hear_b52 (u2 σ 1 (upd (σ 1) 14 ((σ 1 14) + (1 : Int32)))) (σ 1 14) (0 : Int32) (σ 1 27)))))) := rfl
noncomputable def P_X10_hear (σ : T2) : T2 := P_X10_hear_b0 σ
def S_X10_hear (σ : T2) : Prop := S_X10_hear_b0 σ
set_option maxHeartbeats 400000 in
set_option maxRecDepth 100000 in
theorem b_X10_hear_b124c {p : Program} {e : Env} {s : State} {m : MethodId} {args : Array Value} {below : List Frame} {meth : Method} {c : Code} (l : Launch) (D : va_G) (k : Nat → ClassId) (a : Nat → Nat) (A : Nat → Prop) (C0 : q_C p s m meth c args RX10 cX10_hear 3 none wsX10_hear D (tyL k) A) (R : T2) : ∀ (σ : T2), S_X10_hear_b124c σ → P_X10_hear_b124c σ = R → ∀ (H : Heap) (locs : List Loc) (ls : Array Slot), q_W D A s.heap (wX10 k a σ) H locs → lv_has ls 3 [] → W p l e { frames := 3, cells := 0, slots := 0, locals := 75 } s m args below meth c H locs 0 0 (MQ below (va_Qv (fun u => u = R) (fun u => q_E D (tyL k) A (wX10 k a u)) A) args s 0 0 A) (F0 m 124 ls []) := by
  intro σ hs hR H locs ls hW hl
  rw [P_X10_hear_b124c_e] at hR
  rw [S_X10_hear_b124c_e] at hs
  obtain ⟨hx, hb, hr, hml, hts, hown, hlocks, hK, hA⟩ := id C0
  refine lv_goto (tgt := 133) hx hb dX10_hear_124 (by decide) ?_
  exact q_vret C0 hW hR dX10_hear_133
set_option maxHeartbeats 400000 in
set_option maxRecDepth 100000 in
theorem b_X10_hear_b107c {p : Program} {e : Env} {s : State} {m : MethodId} {args : Array Value} {below : List Frame} {meth : Method} {c : Code} (l : Launch) (D : va_G) (k : Nat → ClassId) (a : Nat → Nat) (A : Nat → Prop) (C0 : q_C p s m meth c args RX10 cX10_hear 3 none wsX10_hear D (tyL k) A) (R : T2) : ∀ (σ : T2), S_X10_hear_b107c σ → P_X10_hear_b107c σ = R → ∀ (H : Heap) (locs : List Loc) (ls : Array Slot), q_W D A s.heap (wX10 k a σ) H locs → lv_has ls 3 [(0, .ref (a 0))] → W p l e { frames := 3, cells := 0, slots := 0, locals := 75 } s m args below meth c H locs 0 0 (MQ below (va_Qv (fun u => u = R) (fun u => q_E D (tyL k) A (wX10 k a u)) A) args s 0 0 A) (F0 m 107 ls []) := by
  intro σ hs hR H locs ls hW hl
  rw [P_X10_hear_b107c_e] at hR
  rw [S_X10_hear_b107c_e] at hs
  obtain ⟨hx, hb, hr, hml, hts, hown, hlocks, hK, hA⟩ := id C0
  have hf7 := hts (.fieldLink RX10 7 "BeatFollowerModel" "at" "[I") (by decide +kernel)
  have hinX10 : ∀ w ∈ u_ws RX10 TX10 18, w ∈ wsX10_hear := hin_X10_hear_X10
  refine lv_aload_n hx hb dX10_hear_107 rfl (lv_at hl 0 rfl) ?_
  refine va_get (v := .ref (a 1)) (C := RX10) (T := TX10) (N := 18) hx hb hts hinX10 hown hK hW.1 0 rfl rfl 0 (by decide) hf7 (fun _ h9 => h9) rfl dX10_hear_108 ?_
  refine lv_bipush (v := (15 : Int32)) hx hb dX10_hear_111 (by decide) ?_
  refine lv_dup2_11 hx hb dX10_hear_113 rfl rfl ?_
  refine q_iald (v := σ 1 15) C0 hW 1 rfl rfl vi_15_672 cl_15 rfl dX10_hear_114 ?_
  refine lv_iconst (v := (1 : Int32)) hx hb dX10_hear_115 (by decide) ?_
  refine lv_iadd hx hb dX10_hear_116 ?_
  refine q_iast (f := σ 1) (wd' := wX10 k a (u2 σ 1 (upd (σ 1) 15 ((σ 1 15) + (1 : Int32))))) C0 hW 1 rfl rfl vi_15_672 cl_15 dX10_hear_117 (wX10_s1 k a _ _) (fun H locs hW => ?_)
  refine lv_aload_n hx hb dX10_hear_118 rfl (lv_at hl 0 rfl) ?_
  refine lv_iconst (v := (0 : Int32)) hx hb dX10_hear_119 (by decide) ?_
  refine lv_iconst (v := (0 : Int32)) hx hb dX10_hear_120 (by decide) ?_
  have hs9 := hs.1
  have hs := hs.2
  refine q_Vv (As := [.int (0 : Int32), .int (0 : Int32)]) (rest := []) (wf := wX10 k a) (R := P_X10_judge (u2 σ 1 (upd (σ 1) 15 ((σ 1 15) + (1 : Int32)))) (0 : Int32) (0 : Int32)) (wd' := wX10 k a (P_X10_judge (u2 σ 1 (upd (σ 1) 15 ((σ 1 15) + (1 : Int32)))) (0 : Int32) (0 : Int32))) [0, 1, 2, 3, 4, 5, 6, 7, 8] [0, 1, 2, 3] 0 10 C0 hW (m_X10_judge l D k a H.size (u2 σ 1 (upd (σ 1) 15 ((σ 1 15) + (1 : Int32)))) (0 : Int32) (0 : Int32) hs9) (cwV 2 hts gX10_hear_X10_judge rfl rfl rfl hd_X10_judge ⟨Nat.le_of_ble_eq_true rfl, Nat.le_of_ble_eq_true rfl⟩) (by decide) (wX10_pl k a _) rfl (wX10_rec k a _) rfl (wX10_fst k a _ _) (wX10_put k a _ _) hl rfl rfl (Nat.le_of_ble_eq_true rfl) dX10_hear_121 ⟨Nat.le_refl 0, Nat.le_refl 0⟩ (fun H locs hW => ?_)
  exact b_X10_hear_b124c l D k a A C0 R (P_X10_judge (u2 σ 1 (upd (σ 1) 15 ((σ 1 15) + (1 : Int32)))) (0 : Int32) (0 : Int32)) hs hR H locs ls hW (lv_sub hl [] rfl)
set_option maxHeartbeats 400000 in
set_option maxRecDepth 100000 in
theorem b_X10_hear_b87n {p : Program} {e : Env} {s : State} {m : MethodId} {args : Array Value} {below : List Frame} {meth : Method} {c : Code} (l : Launch) (D : va_G) (k : Nat → ClassId) (a : Nat → Nat) (A : Nat → Prop) (C0 : q_C p s m meth c args RX10 cX10_hear 3 none wsX10_hear D (tyL k) A) (R : T2) : ∀ (σ : T2) (v1 : Int32) (v2 : Int32), S_X10_hear_b87n σ v1 v2 → P_X10_hear_b87n σ v1 v2 = R → ∀ (H : Heap) (locs : List Loc) (ls : Array Slot), q_W D A s.heap (wX10 k a σ) H locs → lv_has ls 3 [(0, .ref (a 0)), (1, .int v1), (2, .int v2)] → W p l e { frames := 3, cells := 0, slots := 0, locals := 75 } s m args below meth c H locs 0 0 (MQ below (va_Qv (fun u => u = R) (fun u => q_E D (tyL k) A (wX10 k a u)) A) args s 0 0 A) (F0 m 87 ls []) := by
  intro σ v1 v2 hs hR H locs ls hW hl
  rw [P_X10_hear_b87n_e] at hR
  rw [S_X10_hear_b87n_e] at hs
  obtain ⟨hx, hb, hr, hml, hts, hown, hlocks, hK, hA⟩ := id C0
  refine lv_iload_n hx hb dX10_hear_87 rfl (lv_at hl 2 rfl) ?_
  refine lv_aload_n hx hb dX10_hear_88 rfl (lv_at hl 0 rfl) ?_
  have hs5 := hs.1
  have hs := hs.2
  refine q_Vi (As := []) (rest := [.int v2]) (R := P_X10_halfWindow σ) [0, 1, 2, 3, 4, 5, 6, 7, 8] [0, 1, 2, 3] 0 10 C0 hW (m_X10_halfWindow l D k a _ σ  hs5) (cwV 0 hts gX10_hear_X10_halfWindow rfl rfl rfl hd_X10_halfWindow ⟨Nat.le_of_ble_eq_true rfl, Nat.le_of_ble_eq_true rfl⟩) (by decide) (wX10_pl k a _) rfl (wX10_rec k a _) rfl hl rfl rfl (Nat.le_of_ble_eq_true rfl) dX10_hear_89 ⟨Nat.le_refl 0, Nat.le_refl 0⟩ ?_
  refine lv_ineg hx hb dX10_hear_92 ?_
  refine lv_icmp_ge (tgt := 127) hx hb dX10_hear_93 (by decide) (fun c_6 => ?_) (fun c_6 => ?_)
  · have hs := hs.1 c_6
    rw [if_pos c_6] at hR
    refine lv_aload_n hx hb dX10_hear_127 rfl (lv_at hl 0 rfl) ?_
    refine lv_iload_n hx hb dX10_hear_128 rfl (lv_at hl 1 rfl) ?_
    refine lv_iload_n hx hb dX10_hear_129 rfl (lv_at hl 2 rfl) ?_
    have hs7 := hs.1
    have hs := hs.2
    refine q_Vv (As := [.int v1, .int v2]) (rest := []) (wf := wX10 k a) (R := P_X10_takeBeat σ v1 v2) (wd' := wX10 k a (P_X10_takeBeat σ v1 v2)) [0, 1, 2, 3, 4, 5, 6, 7, 8] [0, 1, 2, 3] 0 10 C0 hW (m_X10_takeBeat l D k a H.size σ v1 v2 hs7) (cwV 2 hts gX10_hear_X10_takeBeat rfl rfl rfl hd_X10_takeBeat ⟨Nat.le_of_ble_eq_true rfl, Nat.le_of_ble_eq_true rfl⟩) (by decide) (wX10_pl k a _) rfl (wX10_rec k a _) rfl (wX10_fst k a _ _) (wX10_put k a _ _) hl rfl rfl (Nat.le_of_ble_eq_true rfl) dX10_hear_130 ⟨Nat.le_refl 0, Nat.le_refl 0⟩ (fun H locs hW => ?_)
    exact q_vret C0 hW hR dX10_hear_133
  · have hs := hs.2 c_6
    rw [if_neg c_6] at hR
    refine lv_aload_n hx hb dX10_hear_96 rfl (lv_at hl 0 rfl) ?_
    refine lv_iload_n hx hb dX10_hear_97 rfl (lv_at hl 1 rfl) ?_
    refine lv_iconst (v := (1 : Int32)) hx hb dX10_hear_98 (by decide) ?_
    refine lv_bipush (v := (-6 : Int32)) hx hb dX10_hear_99 (by decide) ?_
    refine lv_iload_n hx hb dX10_hear_101 rfl (lv_at hl 2 rfl) ?_
    refine lv_bipush (v := (-6 : Int32)) hx hb dX10_hear_102 (by decide) ?_
    have hs8 := hs.1
    have hs := hs.2
    refine q_Vv (As := [.int v1, .int (1 : Int32), .int (-6 : Int32), .int v2, .int (-6 : Int32)]) (rest := []) (wf := wX10 k a) (R := P_X10_become σ v1 (1 : Int32) (-6 : Int32) v2 (-6 : Int32)) (wd' := wX10 k a (P_X10_become σ v1 (1 : Int32) (-6 : Int32) v2 (-6 : Int32))) [0, 1, 2, 3, 4, 5, 6, 7, 8] [0, 1, 2, 3] 0 10 C0 hW (m_X10_become l D k a H.size σ v1 (1 : Int32) (-6 : Int32) v2 (-6 : Int32) hs8) (cwV 5 hts gX10_hear_X10_become rfl rfl rfl hd_X10_become ⟨Nat.le_of_ble_eq_true rfl, Nat.le_of_ble_eq_true rfl⟩) (by decide) (wX10_pl k a _) rfl (wX10_rec k a _) rfl (wX10_fst k a _ _) (wX10_put k a _ _) hl rfl rfl (Nat.le_of_ble_eq_true rfl) dX10_hear_104 ⟨Nat.le_refl 0, Nat.le_refl 0⟩ (fun H locs hW => ?_)
    exact b_X10_hear_b107c l D k a A C0 R (P_X10_become σ v1 (1 : Int32) (-6 : Int32) v2 (-6 : Int32)) hs hR H locs ls hW (lv_sub hl [0] rfl)
set_option maxHeartbeats 400000 in
set_option maxRecDepth 100000 in
theorem b_X10_hear_b52 {p : Program} {e : Env} {s : State} {m : MethodId} {args : Array Value} {below : List Frame} {meth : Method} {c : Code} (l : Launch) (D : va_G) (k : Nat → ClassId) (a : Nat → Nat) (A : Nat → Prop) (C0 : q_C p s m meth c args RX10 cX10_hear 3 none wsX10_hear D (tyL k) A) (R : T2) : ∀ (σ : T2) (v1 : Int32) (t0 : Int32) (t1 : Int32), S_X10_hear_b52 σ v1 t0 t1 → P_X10_hear_b52 σ v1 t0 t1 = R → ∀ (H : Heap) (locs : List Loc) (ls : Array Slot), q_W D A s.heap (wX10 k a σ) H locs → lv_has ls 3 [(0, .ref (a 0)), (1, .int v1)] → W p l e { frames := 3, cells := 0, slots := 0, locals := 75 } s m args below meth c H locs 0 0 (MQ below (va_Qv (fun u => u = R) (fun u => q_E D (tyL k) A (wX10 k a u)) A) args s 0 0 A) (F0 m 52 ls [.int t0, .int t1, .int (27 : Int32), .ref (a 1)]) := by
  intro σ v1 t0 t1 hs hR H locs ls hW hl
  rw [P_X10_hear_b52_e] at hR
  rw [S_X10_hear_b52_e] at hs
  obtain ⟨hx, hb, hr, hml, hts, hown, hlocks, hK, hA⟩ := id C0
  have hf7 := hts (.fieldLink RX10 7 "BeatFollowerModel" "at" "[I") (by decide +kernel)
  have hinX10 : ∀ w ∈ u_ws RX10 TX10 18, w ∈ wsX10_hear := hin_X10_hear_X10
  refine lv_iadd hx hb dX10_hear_52 ?_
  refine q_iast (f := σ 1) (wd' := wX10 k a (u2 σ 1 (upd (σ 1) 27 (t1 + t0)))) C0 hW 1 rfl rfl vi_27_672 cl_27 dX10_hear_53 (wX10_s1 k a _ _) (fun H locs hW => ?_)
  refine lv_aload_n hx hb dX10_hear_54 rfl (lv_at hl 0 rfl) ?_
  refine va_get (v := .ref (a 1)) (C := RX10) (T := TX10) (N := 18) hx hb hts hinX10 hown hK hW.1 0 rfl rfl 0 (by decide) hf7 (fun _ h9 => h9) rfl dX10_hear_55 ?_
  refine lv_bipush (v := (11 : Int32)) hx hb dX10_hear_58 (by decide) ?_
  refine q_iald (v := σ 1 11) C0 hW 1 rfl rfl vi_11_672 cl_11 rfl dX10_hear_60 ?_
  refine lv_if_ge (tgt := 70) hx hb dX10_hear_61 (by decide) (fun c_3 => ?_) (fun c_3 => ?_)
  · have hs := hs.1 c_3
    rw [if_pos c_3] at hR
    refine lv_iconst (v := (4 : Int32)) hx hb dX10_hear_70 (by decide) ?_
    refine lv_aload_n hx hb dX10_hear_71 rfl (lv_at hl 0 rfl) ?_
    refine lv_iload_n hx hb dX10_hear_72 rfl (lv_at hl 1 rfl) ?_
    refine lv_iconst (v := (0 : Int32)) hx hb dX10_hear_73 (by decide) ?_
    have hs4 := hs.1
    have hs := hs.2
    refine q_Vi (As := [.int v1, .int (0 : Int32)]) (rest := [.int (4 : Int32)]) (R := P_X10_ofB (u2 σ 1 (upd (σ 1) 27 (t1 + t0))) v1 (0 : Int32)) [0, 1, 2, 3, 4, 5, 6, 7, 8] [0, 1, 2, 3] 0 10 C0 hW (m_X10_ofB l D k a _ (u2 σ 1 (upd (σ 1) 27 (t1 + t0))) v1 (0 : Int32) hs4) (cwV 2 hts gX10_hear_X10_ofB rfl rfl rfl hd_X10_ofB ⟨Nat.le_of_ble_eq_true rfl, Nat.le_of_ble_eq_true rfl⟩) (by decide) (wX10_pl k a _) rfl (wX10_rec k a _) rfl hl rfl rfl (Nat.le_of_ble_eq_true rfl) dX10_hear_74 ⟨Nat.le_refl 0, Nat.le_refl 0⟩ ?_
    refine lv_imul hx hb dX10_hear_77 ?_
    refine lv_aload_n hx hb dX10_hear_78 rfl (lv_at hl 0 rfl) ?_
    refine va_get (v := .ref (a 1)) (C := RX10) (T := TX10) (N := 18) hx hb hts hinX10 hown hK hW.1 0 rfl rfl 0 (by decide) hf7 (fun _ h9 => h9) rfl dX10_hear_79 ?_
    refine lv_bipush (v := (11 : Int32)) hx hb dX10_hear_82 (by decide) ?_
    refine q_iald (v := σ 1 11) C0 hW 1 rfl rfl vi_11_672 cl_11 rfl dX10_hear_84 ?_
    refine lv_isub hx hb dX10_hear_85 ?_
    refine lv_istore_n (lv' := [(2, .int (((4 : Int32) * (P_X10_ofB (u2 σ 1 (upd (σ 1) 27 (t1 + t0))) v1 (0 : Int32))) - (σ 1 11))), (0, .ref (a 0)), (1, .int v1)]) hx hb dX10_hear_86 rfl hl (by decide) rfl (fun ls hl => ?_)
    exact b_X10_hear_b87n l D k a A C0 R (u2 σ 1 (upd (σ 1) 27 (t1 + t0))) v1 (((4 : Int32) * (P_X10_ofB (u2 σ 1 (upd (σ 1) 27 (t1 + t0))) v1 (0 : Int32))) - (σ 1 11)) hs hR H locs ls hW (lv_sub hl [1, 2, 0] rfl)
  · have hs := hs.2 c_3
    rw [if_neg c_3] at hR
    refine lv_aload_n hx hb dX10_hear_64 rfl (lv_at hl 0 rfl) ?_
    refine lv_iload_n hx hb dX10_hear_65 rfl (lv_at hl 1 rfl) ?_
    have hs10 := hs.1
    have hs := hs.2
    refine q_Vv (As := [.int v1]) (rest := []) (wf := wX10 k a) (R := P_X10_begin (u2 σ 1 (upd (σ 1) 27 (t1 + t0))) v1) (wd' := wX10 k a (P_X10_begin (u2 σ 1 (upd (σ 1) 27 (t1 + t0))) v1)) [0, 1, 2, 3, 4, 5, 6, 7, 8] [0, 1, 2, 3] 0 10 C0 hW (m_X10_begin l D k a H.size (u2 σ 1 (upd (σ 1) 27 (t1 + t0))) v1 hs10) (cwV 1 hts gX10_hear_X10_begin rfl rfl rfl hd_X10_begin ⟨Nat.le_of_ble_eq_true rfl, Nat.le_of_ble_eq_true rfl⟩) (by decide) (wX10_pl k a _) rfl (wX10_rec k a _) rfl (wX10_fst k a _ _) (wX10_put k a _ _) hl rfl rfl (Nat.le_of_ble_eq_true rfl) dX10_hear_66 ⟨Nat.le_refl 0, Nat.le_refl 0⟩ (fun H locs hW => ?_)
    exact q_vret C0 hW hR dX10_hear_69
set_option maxHeartbeats 400000 in
set_option maxRecDepth 100000 in
theorem b_X10_hear_b0 {p : Program} {e : Env} {s : State} {m : MethodId} {args : Array Value} {below : List Frame} {meth : Method} {c : Code} (l : Launch) (D : va_G) (k : Nat → ClassId) (a : Nat → Nat) (A : Nat → Prop) (C0 : q_C p s m meth c args RX10 cX10_hear 3 none wsX10_hear D (tyL k) A) (R : T2) : ∀ (σ : T2), S_X10_hear_b0 σ → P_X10_hear_b0 σ = R → ∀ (H : Heap) (locs : List Loc) (ls : Array Slot), q_W D A s.heap (wX10 k a σ) H locs → lv_has ls 3 [(0, .ref (a 0))] → W p l e { frames := 3, cells := 0, slots := 0, locals := 75 } s m args below meth c H locs 0 0 (MQ below (va_Qv (fun u => u = R) (fun u => q_E D (tyL k) A (wX10 k a u)) A) args s 0 0 A) (F0 m 0 ls []) := by
  intro σ hs hR H locs ls hW hl
  rw [P_X10_hear_b0_e] at hR
  rw [S_X10_hear_b0_e] at hs
  obtain ⟨hx, hb, hr, hml, hts, hown, hlocks, hK, hA⟩ := id C0
  have hf7 := hts (.fieldLink RX10 7 "BeatFollowerModel" "at" "[I") (by decide +kernel)
  have hf26 := hts (.fieldLink RX10 26 "BeatFollowerModel" "leftOut" "I") (by decide +kernel)
  have hinX10 : ∀ w ∈ u_ws RX10 TX10 18, w ∈ wsX10_hear := hin_X10_hear_X10
  refine lv_aload_n hx hb dX10_hear_0 rfl (lv_at hl 0 rfl) ?_
  refine va_get (v := .ref (a 1)) (C := RX10) (T := TX10) (N := 18) hx hb hts hinX10 hown hK hW.1 0 rfl rfl 0 (by decide) hf7 (fun _ h9 => h9) rfl dX10_hear_1 ?_
  refine lv_bipush (v := (14 : Int32)) hx hb dX10_hear_4 (by decide) ?_
  refine q_iald (v := σ 1 14) C0 hW 1 rfl rfl vi_14_672 cl_14 rfl dX10_hear_6 ?_
  refine lv_istore_n (lv' := [(1, .int (σ 1 14)), (0, .ref (a 0))]) hx hb dX10_hear_7 rfl hl (by decide) rfl (fun ls hl => ?_)
  refine lv_aload_n hx hb dX10_hear_8 rfl (lv_at hl 1 rfl) ?_
  refine va_get (v := .ref (a 1)) (C := RX10) (T := TX10) (N := 18) hx hb hts hinX10 hown hK hW.1 0 rfl rfl 0 (by decide) hf7 (fun _ h9 => h9) rfl dX10_hear_9 ?_
  refine lv_bipush (v := (14 : Int32)) hx hb dX10_hear_12 (by decide) ?_
  refine lv_dup2_11 hx hb dX10_hear_14 rfl rfl ?_
  refine q_iald (v := σ 1 14) C0 hW 1 rfl rfl vi_14_672 cl_14 rfl dX10_hear_15 ?_
  refine lv_iconst (v := (1 : Int32)) hx hb dX10_hear_16 (by decide) ?_
  refine lv_iadd hx hb dX10_hear_17 ?_
  refine q_iast (f := σ 1) (wd' := wX10 k a (u2 σ 1 (upd (σ 1) 14 ((σ 1 14) + (1 : Int32))))) C0 hW 1 rfl rfl vi_14_672 cl_14 dX10_hear_18 (wX10_s1 k a _ _) (fun H locs hW => ?_)
  refine lv_iload_n hx hb dX10_hear_19 rfl (lv_at hl 0 rfl) ?_
  refine lv_aload_n hx hb dX10_hear_20 rfl (lv_at hl 1 rfl) ?_
  refine va_get (v := .int (σ 0 7)) (C := RX10) (T := TX10) (N := 18) hx hb hts hinX10 hown hK hW.1 0 rfl rfl 7 (by decide) hf26 (fun _ h9 => h9) rfl dX10_hear_21 ?_
  refine lv_icmp_ne (tgt := 28) hx hb dX10_hear_24 (by decide) (fun c_1 => ?_) (fun c_1 => ?_)
  · have hs := hs.2 c_1
    rw [if_neg c_1] at hR
    refine lv_aload_n hx hb dX10_hear_28 rfl (lv_at hl 1 rfl) ?_
    refine va_get (v := .ref (a 1)) (C := RX10) (T := TX10) (N := 18) hx hb hts hinX10 hown hK hW.1 0 rfl rfl 0 (by decide) hf7 (fun _ h9 => h9) rfl dX10_hear_29 ?_
    refine lv_bipush (v := (27 : Int32)) hx hb dX10_hear_32 (by decide) ?_
    refine lv_dup2_11 hx hb dX10_hear_34 rfl rfl ?_
    refine q_iald (v := σ 1 27) C0 hW 1 rfl rfl vi_27_672 cl_27 rfl dX10_hear_35 ?_
    refine lv_aload_n hx hb dX10_hear_36 rfl (lv_at hl 1 rfl) ?_
    refine va_get (v := .ref (a 1)) (C := RX10) (T := TX10) (N := 18) hx hb hts hinX10 hown hK hW.1 0 rfl rfl 0 (by decide) hf7 (fun _ h9 => h9) rfl dX10_hear_37 ?_
    refine lv_bipush (v := (9 : Int32)) hx hb dX10_hear_40 (by decide) ?_
    refine q_iald (v := σ 1 9) C0 hW 1 rfl rfl vi_9_672 cl_9 rfl dX10_hear_42 ?_
    refine lv_iconst (v := (1 : Int32)) hx hb dX10_hear_43 (by decide) ?_
    refine lv_icmp_ne (tgt := 51) hx hb dX10_hear_44 (by decide) (fun c_2 => ?_) (fun c_2 => ?_)
    · have hs := hs.2 c_2
      rw [if_neg c_2] at hR
      refine lv_iconst (v := (0 : Int32)) hx hb dX10_hear_51 (by decide) ?_
      exact b_X10_hear_b52 l D k a A C0 R (u2 σ 1 (upd (σ 1) 14 ((σ 1 14) + (1 : Int32)))) (σ 1 14) (0 : Int32) (σ 1 27) hs hR H locs ls hW (lv_sub hl [1, 0] rfl)
    · have hs := hs.1 c_2
      rw [if_pos c_2] at hR
      refine lv_iconst (v := (1 : Int32)) hx hb dX10_hear_47 (by decide) ?_
      refine lv_goto (tgt := 52) hx hb dX10_hear_48 (by decide) ?_
      exact b_X10_hear_b52 l D k a A C0 R (u2 σ 1 (upd (σ 1) 14 ((σ 1 14) + (1 : Int32)))) (σ 1 14) (1 : Int32) (σ 1 27) hs hR H locs ls hW (lv_sub hl [1, 0] rfl)
  · have hs := hs.1 c_1
    rw [if_pos c_1] at hR
    exact q_vret C0 hW hR dX10_hear_27
set_option maxHeartbeats 400000 in
set_option maxRecDepth 100000 in
theorem m_X10_hear (l : Launch) (D : va_G) (k : Nat → ClassId) (a : Nat → Nat) (sz : Nat) (σ : T2) (hs : S_X10_hear σ) : Met l yX10_hear wsX10_hear { frames := 3, cells := 0, slots := 0, locals := 75 } (va_Pc [.ref (a 0)] (q_B D (tyL k) (wX10 k a σ) sz)) (va_Qv (fun u => u = P_X10_hear σ) (fun u => q_E D (tyL k) (va_A (wX10 k a σ) sz) (wX10 k a u)) (va_A (wX10 k a σ) sz)) 0 0 (va_A (wX10 k a σ) sz) := by
  refine q_met [.ref (a 0)] (wX10 k a σ) sz (cc := cX10_hear) (maxL := 3) (ret := none) (by decide) rfl (Nat.le_of_ble_eq_true rfl) ?_
  intro p e s m args below meth c ls hsz C0 hW hl hin
  subst hsz
  exact b_X10_hear_b0 l D k a _ C0 _ σ  hs rfl s.heap [] ls hW (lv_sub hl [0] rfl)
theorem hin_X10_holdOn_X10 : ∀ w ∈ u_ws RX10 TX10 18, w ∈ wsX10_holdOn := by decide +kernel
theorem hd_X10_holdOn : yX10_holdOn.cls = RX10 ∧ yX10_holdOn.cls ≠ "java/lang/invoke/MethodHandle" ∧ yX10_holdOn.cls ≠ "java/lang/invoke/VarHandle" ∧ (parseMethodDescriptor yX10_holdOn.desc).map (fun d => d.parameters.length) = some 0 := by decide +kernel
noncomputable def P_X10_holdOn_b182 (σ : T2) : T2 := P_X10_endBlow σ
def S_X10_holdOn_b182 (σ : T2) : Prop := (S_X10_endBlow σ ) ∧ (True)
theorem P_X10_holdOn_b182_e (σ : T2) : P_X10_holdOn_b182 σ = P_X10_endBlow σ := rfl
theorem S_X10_holdOn_b182_e (σ : T2) : S_X10_holdOn_b182 σ = ((S_X10_endBlow σ ) ∧ (True)) := rfl
noncomputable def P_X10_holdOn_b139 (σ : T2) (t0 : Int32) (t1 : Int32) : T2 := P_X10_holdOn_b182 (u2 σ 1 (upd (upd (upd (upd (upd (upd (σ 1) 17 (t1 + t0)) 9 (0 : Int32)) 19 (0 : Int32)) 20 (0 : Int32)) 21 (0 : Int32)) 11 (-6 : Int32)))
def S_X10_holdOn_b139 (σ : T2) (t0 : Int32) (t1 : Int32) : Prop := S_X10_holdOn_b182 (u2 σ 1 (upd (upd (upd (upd (upd (upd (σ 1) 17 (t1 + t0)) 9 (0 : Int32)) 19 (0 : Int32)) 20 (0 : Int32)) 21 (0 : Int32)) 11 (-6 : Int32)))
theorem P_X10_holdOn_b139_e (σ : T2) (t0 : Int32) (t1 : Int32) : P_X10_holdOn_b139 σ t0 t1 = P_X10_holdOn_b182 (u2 σ 1 (upd (upd (upd (upd (upd (upd (σ 1) 17 (t1 + t0)) 9 (0 : Int32)) 19 (0 : Int32)) 20 (0 : Int32)) 21 (0 : Int32)) 11 (-6 : Int32))) := rfl
theorem S_X10_holdOn_b139_e (σ : T2) (t0 : Int32) (t1 : Int32) : S_X10_holdOn_b139 σ t0 t1 = (S_X10_holdOn_b182 (u2 σ 1 (upd (upd (upd (upd (upd (upd (σ 1) 17 (t1 + t0)) 9 (0 : Int32)) 19 (0 : Int32)) 20 (0 : Int32)) 21 (0 : Int32)) 11 (-6 : Int32)))) := rfl
noncomputable def P_X10_holdOn_b88c (σ : T2) : T2 := if (σ 1 21) < (σ 1 7) then (P_X10_holdOn_b182 σ) else (if (σ 1 9) = 0 then (P_X10_holdOn_b139 (u2 σ 1 (upd (σ 1) 23 ((σ 1 23) + (1 : Int32)))) (0 : Int32) (σ 1 17)) else (P_X10_holdOn_b139 (u2 σ 1 (upd (σ 1) 23 ((σ 1 23) + (1 : Int32)))) (1 : Int32) (σ 1 17)))
def S_X10_holdOn_b88c (σ : T2) : Prop := ((σ 1 21) < (σ 1 7) → (S_X10_holdOn_b182 σ)) ∧ (¬ ((σ 1 21) < (σ 1 7)) → (((σ 1 9) = 0 → (S_X10_holdOn_b139 (u2 σ 1 (upd (σ 1) 23 ((σ 1 23) + (1 : Int32)))) (0 : Int32) (σ 1 17))) ∧ (¬ ((σ 1 9) = 0) → (S_X10_holdOn_b139 (u2 σ 1 (upd (σ 1) 23 ((σ 1 23) + (1 : Int32)))) (1 : Int32) (σ 1 17)))))
theorem P_X10_holdOn_b88c_e (σ : T2) : P_X10_holdOn_b88c σ = if (σ 1 21) < (σ 1 7) then (P_X10_holdOn_b182 σ) else (if (σ 1 9) = 0 then (P_X10_holdOn_b139 (u2 σ 1 (upd (σ 1) 23 ((σ 1 23) + (1 : Int32)))) (0 : Int32) (σ 1 17)) else (P_X10_holdOn_b139 (u2 σ 1 (upd (σ 1) 23 ((σ 1 23) + (1 : Int32)))) (1 : Int32) (σ 1 17))) := rfl
theorem S_X10_holdOn_b88c_e (σ : T2) : S_X10_holdOn_b88c σ = (((σ 1 21) < (σ 1 7) → (S_X10_holdOn_b182 σ)) ∧ (¬ ((σ 1 21) < (σ 1 7)) → (((σ 1 9) = 0 → (S_X10_holdOn_b139 (u2 σ 1 (upd (σ 1) 23 ((σ 1 23) + (1 : Int32)))) (0 : Int32) (σ 1 17))) ∧ (¬ ((σ 1 9) = 0) → (S_X10_holdOn_b139 (u2 σ 1 (upd (σ 1) 23 ((σ 1 23) + (1 : Int32)))) (1 : Int32) (σ 1 17)))))) := rfl
noncomputable def P_X10_holdOn_b81 (σ : T2) (t0 : Int32) : T2 := P_X10_holdOn_b88c (P_X10_judge (u2 σ 1 (upd (σ 1) 9 t0)) (0 : Int32) (0 : Int32))
def S_X10_holdOn_b81 (σ : T2) (t0 : Int32) : Prop := (S_X10_judge (u2 σ 1 (upd (σ 1) 9 t0)) (0 : Int32) (0 : Int32)) ∧ (S_X10_holdOn_b88c (P_X10_judge (u2 σ 1 (upd (σ 1) 9 t0)) (0 : Int32) (0 : Int32)))
theorem P_X10_holdOn_b81_e (σ : T2) (t0 : Int32) : P_X10_holdOn_b81 σ t0 = P_X10_holdOn_b88c (P_X10_judge (u2 σ 1 (upd (σ 1) 9 t0)) (0 : Int32) (0 : Int32)) := rfl
theorem S_X10_holdOn_b81_e (σ : T2) (t0 : Int32) : S_X10_holdOn_b81 σ t0 = ((S_X10_judge (u2 σ 1 (upd (σ 1) 9 t0)) (0 : Int32) (0 : Int32)) ∧ (S_X10_holdOn_b88c (P_X10_judge (u2 σ 1 (upd (σ 1) 9 t0)) (0 : Int32) (0 : Int32)))) := rfl
noncomputable def P_X10_holdOn_b13c (σ : T2) (t0 : Int32) : T2 := if (σ 1 9) = (1 : Int32) then (P_X10_holdOn_b81 (u2 σ 1 (upd (upd (upd (σ 1) 11 ((σ 1 11) + (σ 1 10))) 13 ((σ 1 13) + (1 : Int32))) 21 ((σ 1 21) + (1 : Int32)))) (2 : Int32)) else (P_X10_holdOn_b81 (u2 σ 1 (upd (upd (upd (σ 1) 11 ((σ 1 11) + (σ 1 10))) 13 ((σ 1 13) + (1 : Int32))) 21 ((σ 1 21) + (1 : Int32)))) (σ 1 9))
def S_X10_holdOn_b13c (σ : T2) (t0 : Int32) : Prop := ((σ 1 9) = (1 : Int32) → (S_X10_holdOn_b81 (u2 σ 1 (upd (upd (upd (σ 1) 11 ((σ 1 11) + (σ 1 10))) 13 ((σ 1 13) + (1 : Int32))) 21 ((σ 1 21) + (1 : Int32)))) (2 : Int32))) ∧ (¬ ((σ 1 9) = (1 : Int32)) → (S_X10_holdOn_b81 (u2 σ 1 (upd (upd (upd (σ 1) 11 ((σ 1 11) + (σ 1 10))) 13 ((σ 1 13) + (1 : Int32))) 21 ((σ 1 21) + (1 : Int32)))) (σ 1 9)))
theorem P_X10_holdOn_b13c_e (σ : T2) (t0 : Int32) : P_X10_holdOn_b13c σ t0 = if (σ 1 9) = (1 : Int32) then (P_X10_holdOn_b81 (u2 σ 1 (upd (upd (upd (σ 1) 11 ((σ 1 11) + (σ 1 10))) 13 ((σ 1 13) + (1 : Int32))) 21 ((σ 1 21) + (1 : Int32)))) (2 : Int32)) else (P_X10_holdOn_b81 (u2 σ 1 (upd (upd (upd (σ 1) 11 ((σ 1 11) + (σ 1 10))) 13 ((σ 1 13) + (1 : Int32))) 21 ((σ 1 21) + (1 : Int32)))) (σ 1 9)) := rfl
theorem S_X10_holdOn_b13c_e (σ : T2) (t0 : Int32) : S_X10_holdOn_b13c σ t0 = (((σ 1 9) = (1 : Int32) → (S_X10_holdOn_b81 (u2 σ 1 (upd (upd (upd (σ 1) 11 ((σ 1 11) + (σ 1 10))) 13 ((σ 1 13) + (1 : Int32))) 21 ((σ 1 21) + (1 : Int32)))) (2 : Int32))) ∧ (¬ ((σ 1 9) = (1 : Int32)) → (S_X10_holdOn_b81 (u2 σ 1 (upd (upd (upd (σ 1) 11 ((σ 1 11) + (σ 1 10))) 13 ((σ 1 13) + (1 : Int32))) 21 ((σ 1 21) + (1 : Int32)))) (σ 1 9)))) := rfl
noncomputable def P_X10_holdOn_b0 (σ : T2) : T2 := P_X10_holdOn_b13c ((P_X10_strike σ (σ 1 11) (-6 : Int32)).2) ((P_X10_strike σ (σ 1 11) (-6 : Int32)).1)
def S_X10_holdOn_b0 (σ : T2) : Prop := (S_X10_strike σ (σ 1 11) (-6 : Int32)) ∧ (S_X10_holdOn_b13c ((P_X10_strike σ (σ 1 11) (-6 : Int32)).2) ((P_X10_strike σ (σ 1 11) (-6 : Int32)).1))
theorem P_X10_holdOn_b0_e (σ : T2) : P_X10_holdOn_b0 σ = P_X10_holdOn_b13c ((P_X10_strike σ (σ 1 11) (-6 : Int32)).2) ((P_X10_strike σ (σ 1 11) (-6 : Int32)).1) := rfl
theorem S_X10_holdOn_b0_e (σ : T2) : S_X10_holdOn_b0 σ = ((S_X10_strike σ (σ 1 11) (-6 : Int32)) ∧ (S_X10_holdOn_b13c ((P_X10_strike σ (σ 1 11) (-6 : Int32)).2) ((P_X10_strike σ (σ 1 11) (-6 : Int32)).1))) := rfl
noncomputable def P_X10_holdOn (σ : T2) : T2 := P_X10_holdOn_b0 σ
def S_X10_holdOn (σ : T2) : Prop := S_X10_holdOn_b0 σ
set_option maxHeartbeats 400000 in
set_option maxRecDepth 100000 in
theorem b_X10_holdOn_b182 {p : Program} {e : Env} {s : State} {m : MethodId} {args : Array Value} {below : List Frame} {meth : Method} {c : Code} (l : Launch) (D : va_G) (k : Nat → ClassId) (a : Nat → Nat) (A : Nat → Prop) (C0 : q_C p s m meth c args RX10 cX10_holdOn 1 none wsX10_holdOn D (tyL k) A) (R : T2) : ∀ (σ : T2), S_X10_holdOn_b182 σ → P_X10_holdOn_b182 σ = R → ∀ (H : Heap) (locs : List Loc) (ls : Array Slot), q_W D A s.heap (wX10 k a σ) H locs → lv_has ls 1 [(0, .ref (a 0))] → W p l e { frames := 2, cells := 0, slots := 0, locals := 42 } s m args below meth c H locs 0 0 (MQ below (va_Qv (fun u => u = R) (fun u => q_E D (tyL k) A (wX10 k a u)) A) args s 0 0 A) (F0 m 182 ls []) := by
  intro σ hs hR H locs ls hW hl
  rw [P_X10_holdOn_b182_e] at hR
  rw [S_X10_holdOn_b182_e] at hs
  obtain ⟨hx, hb, hr, hml, hts, hown, hlocks, hK, hA⟩ := id C0
  refine lv_aload_n hx hb dX10_holdOn_182 rfl (lv_at hl 0 rfl) ?_
  have hs5 := hs.1
  have hs := hs.2
  refine q_Vv (As := []) (rest := []) (wf := wX10 k a) (R := P_X10_endBlow σ) (wd' := wX10 k a (P_X10_endBlow σ)) [0, 1, 2, 3, 4, 5, 6, 7, 8] [0, 1, 2, 3] 0 10 C0 hW (m_X10_endBlow l D k a H.size σ  hs5) (cwV 0 hts gX10_holdOn_X10_endBlow rfl rfl rfl hd_X10_endBlow ⟨Nat.le_of_ble_eq_true rfl, Nat.le_of_ble_eq_true rfl⟩) (by decide) (wX10_pl k a _) rfl (wX10_rec k a _) rfl (wX10_fst k a _ _) (wX10_put k a _ _) hl rfl rfl (Nat.le_of_ble_eq_true rfl) dX10_holdOn_183 ⟨Nat.le_refl 0, Nat.le_refl 0⟩ (fun H locs hW => ?_)
  exact q_vret C0 hW hR dX10_holdOn_186
set_option maxHeartbeats 400000 in
set_option maxRecDepth 100000 in
theorem b_X10_holdOn_b139 {p : Program} {e : Env} {s : State} {m : MethodId} {args : Array Value} {below : List Frame} {meth : Method} {c : Code} (l : Launch) (D : va_G) (k : Nat → ClassId) (a : Nat → Nat) (A : Nat → Prop) (C0 : q_C p s m meth c args RX10 cX10_holdOn 1 none wsX10_holdOn D (tyL k) A) (R : T2) : ∀ (σ : T2) (t0 : Int32) (t1 : Int32), S_X10_holdOn_b139 σ t0 t1 → P_X10_holdOn_b139 σ t0 t1 = R → ∀ (H : Heap) (locs : List Loc) (ls : Array Slot), q_W D A s.heap (wX10 k a σ) H locs → lv_has ls 1 [(0, .ref (a 0))] → W p l e { frames := 2, cells := 0, slots := 0, locals := 42 } s m args below meth c H locs 0 0 (MQ below (va_Qv (fun u => u = R) (fun u => q_E D (tyL k) A (wX10 k a u)) A) args s 0 0 A) (F0 m 139 ls [.int t0, .int t1, .int (17 : Int32), .ref (a 1)]) := by
  intro σ t0 t1 hs hR H locs ls hW hl
  rw [P_X10_holdOn_b139_e] at hR
  rw [S_X10_holdOn_b139_e] at hs
  obtain ⟨hx, hb, hr, hml, hts, hown, hlocks, hK, hA⟩ := id C0
  have hf7 := hts (.fieldLink RX10 7 "BeatFollowerModel" "at" "[I") (by decide +kernel)
  have hinX10 : ∀ w ∈ u_ws RX10 TX10 18, w ∈ wsX10_holdOn := hin_X10_holdOn_X10
  refine lv_iadd hx hb dX10_holdOn_139 ?_
  refine q_iast (f := σ 1) (wd' := wX10 k a (u2 σ 1 (upd (σ 1) 17 (t1 + t0)))) C0 hW 1 rfl rfl vi_17_672 cl_17 dX10_holdOn_140 (wX10_s1 k a _ _) (fun H locs hW => ?_)
  refine lv_aload_n hx hb dX10_holdOn_141 rfl (lv_at hl 0 rfl) ?_
  refine va_get (v := .ref (a 1)) (C := RX10) (T := TX10) (N := 18) hx hb hts hinX10 hown hK hW.1 0 rfl rfl 0 (by decide) hf7 (fun _ h9 => h9) rfl dX10_holdOn_142 ?_
  refine lv_bipush (v := (9 : Int32)) hx hb dX10_holdOn_145 (by decide) ?_
  refine lv_iconst (v := (0 : Int32)) hx hb dX10_holdOn_147 (by decide) ?_
  refine q_iast (f := upd (σ 1) 17 (t1 + t0)) (wd' := wX10 k a (u2 σ 1 (upd (upd (σ 1) 17 (t1 + t0)) 9 (0 : Int32)))) C0 hW 1 rfl rfl vi_9_672 cl_9 dX10_holdOn_148 ((wX10_s1 k a _ _).trans (congrArg (wX10 k a) (u2_same _ _ _ _))) (fun H locs hW => ?_)
  refine lv_aload_n hx hb dX10_holdOn_149 rfl (lv_at hl 0 rfl) ?_
  refine va_get (v := .ref (a 1)) (C := RX10) (T := TX10) (N := 18) hx hb hts hinX10 hown hK hW.1 0 rfl rfl 0 (by decide) hf7 (fun _ h9 => h9) rfl dX10_holdOn_150 ?_
  refine lv_bipush (v := (19 : Int32)) hx hb dX10_holdOn_153 (by decide) ?_
  refine lv_iconst (v := (0 : Int32)) hx hb dX10_holdOn_155 (by decide) ?_
  refine q_iast (f := upd (upd (σ 1) 17 (t1 + t0)) 9 (0 : Int32)) (wd' := wX10 k a (u2 σ 1 (upd (upd (upd (σ 1) 17 (t1 + t0)) 9 (0 : Int32)) 19 (0 : Int32)))) C0 hW 1 rfl rfl vi_19_672 cl_19 dX10_holdOn_156 ((wX10_s1 k a _ _).trans (congrArg (wX10 k a) (u2_same _ _ _ _))) (fun H locs hW => ?_)
  refine lv_aload_n hx hb dX10_holdOn_157 rfl (lv_at hl 0 rfl) ?_
  refine va_get (v := .ref (a 1)) (C := RX10) (T := TX10) (N := 18) hx hb hts hinX10 hown hK hW.1 0 rfl rfl 0 (by decide) hf7 (fun _ h9 => h9) rfl dX10_holdOn_158 ?_
  refine lv_bipush (v := (20 : Int32)) hx hb dX10_holdOn_161 (by decide) ?_
  refine lv_iconst (v := (0 : Int32)) hx hb dX10_holdOn_163 (by decide) ?_
  refine q_iast (f := upd (upd (upd (σ 1) 17 (t1 + t0)) 9 (0 : Int32)) 19 (0 : Int32)) (wd' := wX10 k a (u2 σ 1 (upd (upd (upd (upd (σ 1) 17 (t1 + t0)) 9 (0 : Int32)) 19 (0 : Int32)) 20 (0 : Int32)))) C0 hW 1 rfl rfl vi_20_672 cl_20 dX10_holdOn_164 ((wX10_s1 k a _ _).trans (congrArg (wX10 k a) (u2_same _ _ _ _))) (fun H locs hW => ?_)
  refine lv_aload_n hx hb dX10_holdOn_165 rfl (lv_at hl 0 rfl) ?_
  refine va_get (v := .ref (a 1)) (C := RX10) (T := TX10) (N := 18) hx hb hts hinX10 hown hK hW.1 0 rfl rfl 0 (by decide) hf7 (fun _ h9 => h9) rfl dX10_holdOn_166 ?_
  refine lv_bipush (v := (21 : Int32)) hx hb dX10_holdOn_169 (by decide) ?_
  refine lv_iconst (v := (0 : Int32)) hx hb dX10_holdOn_171 (by decide) ?_
  refine q_iast (f := upd (upd (upd (upd (σ 1) 17 (t1 + t0)) 9 (0 : Int32)) 19 (0 : Int32)) 20 (0 : Int32)) (wd' := wX10 k a (u2 σ 1 (upd (upd (upd (upd (upd (σ 1) 17 (t1 + t0)) 9 (0 : Int32)) 19 (0 : Int32)) 20 (0 : Int32)) 21 (0 : Int32)))) C0 hW 1 rfl rfl vi_21_672 cl_21 dX10_holdOn_172 ((wX10_s1 k a _ _).trans (congrArg (wX10 k a) (u2_same _ _ _ _))) (fun H locs hW => ?_)
  refine lv_aload_n hx hb dX10_holdOn_173 rfl (lv_at hl 0 rfl) ?_
  refine va_get (v := .ref (a 1)) (C := RX10) (T := TX10) (N := 18) hx hb hts hinX10 hown hK hW.1 0 rfl rfl 0 (by decide) hf7 (fun _ h9 => h9) rfl dX10_holdOn_174 ?_
  refine lv_bipush (v := (11 : Int32)) hx hb dX10_holdOn_177 (by decide) ?_
  refine lv_bipush (v := (-6 : Int32)) hx hb dX10_holdOn_179 (by decide) ?_
  refine q_iast (f := upd (upd (upd (upd (upd (σ 1) 17 (t1 + t0)) 9 (0 : Int32)) 19 (0 : Int32)) 20 (0 : Int32)) 21 (0 : Int32)) (wd' := wX10 k a (u2 σ 1 (upd (upd (upd (upd (upd (upd (σ 1) 17 (t1 + t0)) 9 (0 : Int32)) 19 (0 : Int32)) 20 (0 : Int32)) 21 (0 : Int32)) 11 (-6 : Int32)))) C0 hW 1 rfl rfl vi_11_672 cl_11 dX10_holdOn_181 ((wX10_s1 k a _ _).trans (congrArg (wX10 k a) (u2_same _ _ _ _))) (fun H locs hW => ?_)
  exact b_X10_holdOn_b182 l D k a A C0 R (u2 σ 1 (upd (upd (upd (upd (upd (upd (σ 1) 17 (t1 + t0)) 9 (0 : Int32)) 19 (0 : Int32)) 20 (0 : Int32)) 21 (0 : Int32)) 11 (-6 : Int32))) hs hR H locs ls hW (lv_sub hl [0] rfl)
set_option maxHeartbeats 400000 in
set_option maxRecDepth 100000 in
theorem b_X10_holdOn_b88c {p : Program} {e : Env} {s : State} {m : MethodId} {args : Array Value} {below : List Frame} {meth : Method} {c : Code} (l : Launch) (D : va_G) (k : Nat → ClassId) (a : Nat → Nat) (A : Nat → Prop) (C0 : q_C p s m meth c args RX10 cX10_holdOn 1 none wsX10_holdOn D (tyL k) A) (R : T2) : ∀ (σ : T2), S_X10_holdOn_b88c σ → P_X10_holdOn_b88c σ = R → ∀ (H : Heap) (locs : List Loc) (ls : Array Slot), q_W D A s.heap (wX10 k a σ) H locs → lv_has ls 1 [(0, .ref (a 0))] → W p l e { frames := 2, cells := 0, slots := 0, locals := 42 } s m args below meth c H locs 0 0 (MQ below (va_Qv (fun u => u = R) (fun u => q_E D (tyL k) A (wX10 k a u)) A) args s 0 0 A) (F0 m 88 ls []) := by
  intro σ hs hR H locs ls hW hl
  rw [P_X10_holdOn_b88c_e] at hR
  rw [S_X10_holdOn_b88c_e] at hs
  obtain ⟨hx, hb, hr, hml, hts, hown, hlocks, hK, hA⟩ := id C0
  have hf7 := hts (.fieldLink RX10 7 "BeatFollowerModel" "at" "[I") (by decide +kernel)
  have hinX10 : ∀ w ∈ u_ws RX10 TX10 18, w ∈ wsX10_holdOn := hin_X10_holdOn_X10
  refine lv_aload_n hx hb dX10_holdOn_88 rfl (lv_at hl 0 rfl) ?_
  refine va_get (v := .ref (a 1)) (C := RX10) (T := TX10) (N := 18) hx hb hts hinX10 hown hK hW.1 0 rfl rfl 0 (by decide) hf7 (fun _ h9 => h9) rfl dX10_holdOn_89 ?_
  refine lv_bipush (v := (21 : Int32)) hx hb dX10_holdOn_92 (by decide) ?_
  refine q_iald (v := σ 1 21) C0 hW 1 rfl rfl vi_21_672 cl_21 rfl dX10_holdOn_94 ?_
  refine lv_aload_n hx hb dX10_holdOn_95 rfl (lv_at hl 0 rfl) ?_
  refine va_get (v := .ref (a 1)) (C := RX10) (T := TX10) (N := 18) hx hb hts hinX10 hown hK hW.1 0 rfl rfl 0 (by decide) hf7 (fun _ h9 => h9) rfl dX10_holdOn_96 ?_
  refine lv_bipush (v := (7 : Int32)) hx hb dX10_holdOn_99 (by decide) ?_
  refine q_iald (v := σ 1 7) C0 hW 1 rfl rfl vi_7_672 cl_7 rfl dX10_holdOn_101 ?_
  refine lv_icmp_lt (tgt := 182) hx hb dX10_holdOn_102 (by decide) (fun c_4 => ?_) (fun c_4 => ?_)
  · have hs := hs.1 c_4
    rw [if_pos c_4] at hR
    exact b_X10_holdOn_b182 l D k a A C0 R σ hs hR H locs ls hW (lv_sub hl [0] rfl)
  · have hs := hs.2 c_4
    rw [if_neg c_4] at hR
    refine lv_aload_n hx hb dX10_holdOn_105 rfl (lv_at hl 0 rfl) ?_
    refine va_get (v := .ref (a 1)) (C := RX10) (T := TX10) (N := 18) hx hb hts hinX10 hown hK hW.1 0 rfl rfl 0 (by decide) hf7 (fun _ h9 => h9) rfl dX10_holdOn_106 ?_
    refine lv_bipush (v := (23 : Int32)) hx hb dX10_holdOn_109 (by decide) ?_
    refine lv_dup2_11 hx hb dX10_holdOn_111 rfl rfl ?_
    refine q_iald (v := σ 1 23) C0 hW 1 rfl rfl vi_23_672 cl_23 rfl dX10_holdOn_112 ?_
    refine lv_iconst (v := (1 : Int32)) hx hb dX10_holdOn_113 (by decide) ?_
    refine lv_iadd hx hb dX10_holdOn_114 ?_
    refine q_iast (f := σ 1) (wd' := wX10 k a (u2 σ 1 (upd (σ 1) 23 ((σ 1 23) + (1 : Int32))))) C0 hW 1 rfl rfl vi_23_672 cl_23 dX10_holdOn_115 (wX10_s1 k a _ _) (fun H locs hW => ?_)
    refine lv_aload_n hx hb dX10_holdOn_116 rfl (lv_at hl 0 rfl) ?_
    refine va_get (v := .ref (a 1)) (C := RX10) (T := TX10) (N := 18) hx hb hts hinX10 hown hK hW.1 0 rfl rfl 0 (by decide) hf7 (fun _ h9 => h9) rfl dX10_holdOn_117 ?_
    refine lv_bipush (v := (17 : Int32)) hx hb dX10_holdOn_120 (by decide) ?_
    refine lv_dup2_11 hx hb dX10_holdOn_122 rfl rfl ?_
    refine q_iald (v := σ 1 17) C0 hW 1 rfl rfl vi_17_672 cl_17 rfl dX10_holdOn_123 ?_
    refine lv_aload_n hx hb dX10_holdOn_124 rfl (lv_at hl 0 rfl) ?_
    refine va_get (v := .ref (a 1)) (C := RX10) (T := TX10) (N := 18) hx hb hts hinX10 hown hK hW.1 0 rfl rfl 0 (by decide) hf7 (fun _ h9 => h9) rfl dX10_holdOn_125 ?_
    refine lv_bipush (v := (9 : Int32)) hx hb dX10_holdOn_128 (by decide) ?_
    refine q_iald (v := σ 1 9) C0 hW 1 rfl rfl vi_9_672 cl_9 rfl dX10_holdOn_130 ?_
    refine lv_if_ne (tgt := 138) hx hb dX10_holdOn_131 (by decide) (fun c_6 => ?_) (fun c_6 => ?_)
    · have hs := hs.2 c_6
      rw [if_neg c_6] at hR
      refine lv_iconst (v := (1 : Int32)) hx hb dX10_holdOn_138 (by decide) ?_
      exact b_X10_holdOn_b139 l D k a A C0 R (u2 σ 1 (upd (σ 1) 23 ((σ 1 23) + (1 : Int32)))) (1 : Int32) (σ 1 17) hs hR H locs ls hW (lv_sub hl [0] rfl)
    · have hs := hs.1 c_6
      rw [if_pos c_6] at hR
      refine lv_iconst (v := (0 : Int32)) hx hb dX10_holdOn_134 (by decide) ?_
      refine lv_goto (tgt := 139) hx hb dX10_holdOn_135 (by decide) ?_
      exact b_X10_holdOn_b139 l D k a A C0 R (u2 σ 1 (upd (σ 1) 23 ((σ 1 23) + (1 : Int32)))) (0 : Int32) (σ 1 17) hs hR H locs ls hW (lv_sub hl [0] rfl)
set_option maxHeartbeats 400000 in
set_option maxRecDepth 100000 in
theorem b_X10_holdOn_b81 {p : Program} {e : Env} {s : State} {m : MethodId} {args : Array Value} {below : List Frame} {meth : Method} {c : Code} (l : Launch) (D : va_G) (k : Nat → ClassId) (a : Nat → Nat) (A : Nat → Prop) (C0 : q_C p s m meth c args RX10 cX10_holdOn 1 none wsX10_holdOn D (tyL k) A) (R : T2) : ∀ (σ : T2) (t0 : Int32), S_X10_holdOn_b81 σ t0 → P_X10_holdOn_b81 σ t0 = R → ∀ (H : Heap) (locs : List Loc) (ls : Array Slot), q_W D A s.heap (wX10 k a σ) H locs → lv_has ls 1 [(0, .ref (a 0))] → W p l e { frames := 2, cells := 0, slots := 0, locals := 42 } s m args below meth c H locs 0 0 (MQ below (va_Qv (fun u => u = R) (fun u => q_E D (tyL k) A (wX10 k a u)) A) args s 0 0 A) (F0 m 81 ls [.int t0, .int (9 : Int32), .ref (a 1)]) := by
  intro σ t0 hs hR H locs ls hW hl
  rw [P_X10_holdOn_b81_e] at hR
  rw [S_X10_holdOn_b81_e] at hs
  obtain ⟨hx, hb, hr, hml, hts, hown, hlocks, hK, hA⟩ := id C0
  refine q_iast (f := σ 1) (wd' := wX10 k a (u2 σ 1 (upd (σ 1) 9 t0))) C0 hW 1 rfl rfl vi_9_672 cl_9 dX10_holdOn_81 (wX10_s1 k a _ _) (fun H locs hW => ?_)
  refine lv_aload_n hx hb dX10_holdOn_82 rfl (lv_at hl 0 rfl) ?_
  refine lv_iconst (v := (0 : Int32)) hx hb dX10_holdOn_83 (by decide) ?_
  refine lv_iconst (v := (0 : Int32)) hx hb dX10_holdOn_84 (by decide) ?_
  have hs3 := hs.1
  have hs := hs.2
  refine q_Vv (As := [.int (0 : Int32), .int (0 : Int32)]) (rest := []) (wf := wX10 k a) (R := P_X10_judge (u2 σ 1 (upd (σ 1) 9 t0)) (0 : Int32) (0 : Int32)) (wd' := wX10 k a (P_X10_judge (u2 σ 1 (upd (σ 1) 9 t0)) (0 : Int32) (0 : Int32))) [0, 1, 2, 3, 4, 5, 6, 7, 8] [0, 1, 2, 3] 0 10 C0 hW (m_X10_judge l D k a H.size (u2 σ 1 (upd (σ 1) 9 t0)) (0 : Int32) (0 : Int32) hs3) (cwV 2 hts gX10_holdOn_X10_judge rfl rfl rfl hd_X10_judge ⟨Nat.le_of_ble_eq_true rfl, Nat.le_of_ble_eq_true rfl⟩) (by decide) (wX10_pl k a _) rfl (wX10_rec k a _) rfl (wX10_fst k a _ _) (wX10_put k a _ _) hl rfl rfl (Nat.le_of_ble_eq_true rfl) dX10_holdOn_85 ⟨Nat.le_refl 0, Nat.le_refl 0⟩ (fun H locs hW => ?_)
  exact b_X10_holdOn_b88c l D k a A C0 R (P_X10_judge (u2 σ 1 (upd (σ 1) 9 t0)) (0 : Int32) (0 : Int32)) hs hR H locs ls hW (lv_sub hl [0] rfl)
set_option maxHeartbeats 400000 in
set_option maxRecDepth 100000 in
theorem b_X10_holdOn_b13c {p : Program} {e : Env} {s : State} {m : MethodId} {args : Array Value} {below : List Frame} {meth : Method} {c : Code} (l : Launch) (D : va_G) (k : Nat → ClassId) (a : Nat → Nat) (A : Nat → Prop) (C0 : q_C p s m meth c args RX10 cX10_holdOn 1 none wsX10_holdOn D (tyL k) A) (R : T2) : ∀ (σ : T2) (t0 : Int32), S_X10_holdOn_b13c σ t0 → P_X10_holdOn_b13c σ t0 = R → ∀ (H : Heap) (locs : List Loc) (ls : Array Slot), q_W D A s.heap (wX10 k a σ) H locs → lv_has ls 1 [(0, .ref (a 0))] → W p l e { frames := 2, cells := 0, slots := 0, locals := 42 } s m args below meth c H locs 0 0 (MQ below (va_Qv (fun u => u = R) (fun u => q_E D (tyL k) A (wX10 k a u)) A) args s 0 0 A) (F0 m 13 ls [.int t0]) := by
  intro σ t0 hs hR H locs ls hW hl
  rw [P_X10_holdOn_b13c_e] at hR
  rw [S_X10_holdOn_b13c_e] at hs
  obtain ⟨hx, hb, hr, hml, hts, hown, hlocks, hK, hA⟩ := id C0
  have hf7 := hts (.fieldLink RX10 7 "BeatFollowerModel" "at" "[I") (by decide +kernel)
  have hinX10 : ∀ w ∈ u_ws RX10 TX10 18, w ∈ wsX10_holdOn := hin_X10_holdOn_X10
  refine lv_pop hx hb dX10_holdOn_13 rfl ?_
  refine lv_aload_n hx hb dX10_holdOn_14 rfl (lv_at hl 0 rfl) ?_
  refine va_get (v := .ref (a 1)) (C := RX10) (T := TX10) (N := 18) hx hb hts hinX10 hown hK hW.1 0 rfl rfl 0 (by decide) hf7 (fun _ h9 => h9) rfl dX10_holdOn_15 ?_
  refine lv_bipush (v := (11 : Int32)) hx hb dX10_holdOn_18 (by decide) ?_
  refine lv_dup2_11 hx hb dX10_holdOn_20 rfl rfl ?_
  refine q_iald (v := σ 1 11) C0 hW 1 rfl rfl vi_11_672 cl_11 rfl dX10_holdOn_21 ?_
  refine lv_aload_n hx hb dX10_holdOn_22 rfl (lv_at hl 0 rfl) ?_
  refine va_get (v := .ref (a 1)) (C := RX10) (T := TX10) (N := 18) hx hb hts hinX10 hown hK hW.1 0 rfl rfl 0 (by decide) hf7 (fun _ h9 => h9) rfl dX10_holdOn_23 ?_
  refine lv_bipush (v := (10 : Int32)) hx hb dX10_holdOn_26 (by decide) ?_
  refine q_iald (v := σ 1 10) C0 hW 1 rfl rfl vi_10_672 cl_10 rfl dX10_holdOn_28 ?_
  refine lv_iadd hx hb dX10_holdOn_29 ?_
  refine q_iast (f := σ 1) (wd' := wX10 k a (u2 σ 1 (upd (σ 1) 11 ((σ 1 11) + (σ 1 10))))) C0 hW 1 rfl rfl vi_11_672 cl_11 dX10_holdOn_30 (wX10_s1 k a _ _) (fun H locs hW => ?_)
  refine lv_aload_n hx hb dX10_holdOn_31 rfl (lv_at hl 0 rfl) ?_
  refine va_get (v := .ref (a 1)) (C := RX10) (T := TX10) (N := 18) hx hb hts hinX10 hown hK hW.1 0 rfl rfl 0 (by decide) hf7 (fun _ h9 => h9) rfl dX10_holdOn_32 ?_
  refine lv_bipush (v := (13 : Int32)) hx hb dX10_holdOn_35 (by decide) ?_
  refine lv_dup2_11 hx hb dX10_holdOn_37 rfl rfl ?_
  refine q_iald (v := σ 1 13) C0 hW 1 rfl rfl vi_13_672 cl_13 rfl dX10_holdOn_38 ?_
  refine lv_iconst (v := (1 : Int32)) hx hb dX10_holdOn_39 (by decide) ?_
  refine lv_iadd hx hb dX10_holdOn_40 ?_
  refine q_iast (f := upd (σ 1) 11 ((σ 1 11) + (σ 1 10))) (wd' := wX10 k a (u2 σ 1 (upd (upd (σ 1) 11 ((σ 1 11) + (σ 1 10))) 13 ((σ 1 13) + (1 : Int32))))) C0 hW 1 rfl rfl vi_13_672 cl_13 dX10_holdOn_41 ((wX10_s1 k a _ _).trans (congrArg (wX10 k a) (u2_same _ _ _ _))) (fun H locs hW => ?_)
  refine lv_aload_n hx hb dX10_holdOn_42 rfl (lv_at hl 0 rfl) ?_
  refine va_get (v := .ref (a 1)) (C := RX10) (T := TX10) (N := 18) hx hb hts hinX10 hown hK hW.1 0 rfl rfl 0 (by decide) hf7 (fun _ h9 => h9) rfl dX10_holdOn_43 ?_
  refine lv_bipush (v := (21 : Int32)) hx hb dX10_holdOn_46 (by decide) ?_
  refine lv_dup2_11 hx hb dX10_holdOn_48 rfl rfl ?_
  refine q_iald (v := σ 1 21) C0 hW 1 rfl rfl vi_21_672 cl_21 rfl dX10_holdOn_49 ?_
  refine lv_iconst (v := (1 : Int32)) hx hb dX10_holdOn_50 (by decide) ?_
  refine lv_iadd hx hb dX10_holdOn_51 ?_
  refine q_iast (f := upd (upd (σ 1) 11 ((σ 1 11) + (σ 1 10))) 13 ((σ 1 13) + (1 : Int32))) (wd' := wX10 k a (u2 σ 1 (upd (upd (upd (σ 1) 11 ((σ 1 11) + (σ 1 10))) 13 ((σ 1 13) + (1 : Int32))) 21 ((σ 1 21) + (1 : Int32))))) C0 hW 1 rfl rfl vi_21_672 cl_21 dX10_holdOn_52 ((wX10_s1 k a _ _).trans (congrArg (wX10 k a) (u2_same _ _ _ _))) (fun H locs hW => ?_)
  refine lv_aload_n hx hb dX10_holdOn_53 rfl (lv_at hl 0 rfl) ?_
  refine va_get (v := .ref (a 1)) (C := RX10) (T := TX10) (N := 18) hx hb hts hinX10 hown hK hW.1 0 rfl rfl 0 (by decide) hf7 (fun _ h9 => h9) rfl dX10_holdOn_54 ?_
  refine lv_bipush (v := (9 : Int32)) hx hb dX10_holdOn_57 (by decide) ?_
  refine lv_aload_n hx hb dX10_holdOn_59 rfl (lv_at hl 0 rfl) ?_
  refine va_get (v := .ref (a 1)) (C := RX10) (T := TX10) (N := 18) hx hb hts hinX10 hown hK hW.1 0 rfl rfl 0 (by decide) hf7 (fun _ h9 => h9) rfl dX10_holdOn_60 ?_
  refine lv_bipush (v := (9 : Int32)) hx hb dX10_holdOn_63 (by decide) ?_
  refine q_iald (v := σ 1 9) C0 hW 1 rfl rfl vi_9_672 cl_9 rfl dX10_holdOn_65 ?_
  refine lv_iconst (v := (1 : Int32)) hx hb dX10_holdOn_66 (by decide) ?_
  refine lv_icmp_ne (tgt := 74) hx hb dX10_holdOn_67 (by decide) (fun c_2 => ?_) (fun c_2 => ?_)
  · have hs := hs.2 c_2
    rw [if_neg c_2] at hR
    refine lv_aload_n hx hb dX10_holdOn_74 rfl (lv_at hl 0 rfl) ?_
    refine va_get (v := .ref (a 1)) (C := RX10) (T := TX10) (N := 18) hx hb hts hinX10 hown hK hW.1 0 rfl rfl 0 (by decide) hf7 (fun _ h9 => h9) rfl dX10_holdOn_75 ?_
    refine lv_bipush (v := (9 : Int32)) hx hb dX10_holdOn_78 (by decide) ?_
    refine q_iald (v := σ 1 9) C0 hW 1 rfl rfl vi_9_672 cl_9 rfl dX10_holdOn_80 ?_
    exact b_X10_holdOn_b81 l D k a A C0 R (u2 σ 1 (upd (upd (upd (σ 1) 11 ((σ 1 11) + (σ 1 10))) 13 ((σ 1 13) + (1 : Int32))) 21 ((σ 1 21) + (1 : Int32)))) (σ 1 9) hs hR H locs ls hW (lv_sub hl [0] rfl)
  · have hs := hs.1 c_2
    rw [if_pos c_2] at hR
    refine lv_iconst (v := (2 : Int32)) hx hb dX10_holdOn_70 (by decide) ?_
    refine lv_goto (tgt := 81) hx hb dX10_holdOn_71 (by decide) ?_
    exact b_X10_holdOn_b81 l D k a A C0 R (u2 σ 1 (upd (upd (upd (σ 1) 11 ((σ 1 11) + (σ 1 10))) 13 ((σ 1 13) + (1 : Int32))) 21 ((σ 1 21) + (1 : Int32)))) (2 : Int32) hs hR H locs ls hW (lv_sub hl [0] rfl)
set_option maxHeartbeats 400000 in
set_option maxRecDepth 100000 in
theorem b_X10_holdOn_b0 {p : Program} {e : Env} {s : State} {m : MethodId} {args : Array Value} {below : List Frame} {meth : Method} {c : Code} (l : Launch) (D : va_G) (k : Nat → ClassId) (a : Nat → Nat) (A : Nat → Prop) (C0 : q_C p s m meth c args RX10 cX10_holdOn 1 none wsX10_holdOn D (tyL k) A) (R : T2) : ∀ (σ : T2), S_X10_holdOn_b0 σ → P_X10_holdOn_b0 σ = R → ∀ (H : Heap) (locs : List Loc) (ls : Array Slot), q_W D A s.heap (wX10 k a σ) H locs → lv_has ls 1 [(0, .ref (a 0))] → W p l e { frames := 2, cells := 0, slots := 0, locals := 42 } s m args below meth c H locs 0 0 (MQ below (va_Qv (fun u => u = R) (fun u => q_E D (tyL k) A (wX10 k a u)) A) args s 0 0 A) (F0 m 0 ls []) := by
  intro σ hs hR H locs ls hW hl
  rw [P_X10_holdOn_b0_e] at hR
  rw [S_X10_holdOn_b0_e] at hs
  obtain ⟨hx, hb, hr, hml, hts, hown, hlocks, hK, hA⟩ := id C0
  have hf7 := hts (.fieldLink RX10 7 "BeatFollowerModel" "at" "[I") (by decide +kernel)
  have hinX10 : ∀ w ∈ u_ws RX10 TX10 18, w ∈ wsX10_holdOn := hin_X10_holdOn_X10
  refine lv_aload_n hx hb dX10_holdOn_0 rfl (lv_at hl 0 rfl) ?_
  refine lv_aload_n hx hb dX10_holdOn_1 rfl (lv_at hl 0 rfl) ?_
  refine va_get (v := .ref (a 1)) (C := RX10) (T := TX10) (N := 18) hx hb hts hinX10 hown hK hW.1 0 rfl rfl 0 (by decide) hf7 (fun _ h9 => h9) rfl dX10_holdOn_2 ?_
  refine lv_bipush (v := (11 : Int32)) hx hb dX10_holdOn_5 (by decide) ?_
  refine q_iald (v := σ 1 11) C0 hW 1 rfl rfl vi_11_672 cl_11 rfl dX10_holdOn_7 ?_
  refine lv_bipush (v := (-6 : Int32)) hx hb dX10_holdOn_8 (by decide) ?_
  have hs1 := hs.1
  have hs := hs.2
  refine q_Viw (As := [.int (σ 1 11), .int (-6 : Int32)]) (rest := []) (wf := wX10 k a) (R := P_X10_strike σ (σ 1 11) (-6 : Int32)) (wd' := wX10 k a ((P_X10_strike σ (σ 1 11) (-6 : Int32)).2)) [0, 1, 2, 3, 4, 5, 6, 7, 8] [0, 1, 2, 3] 0 10 C0 hW (m_X10_strike l D k a H.size σ (σ 1 11) (-6 : Int32) hs1) (cwV 2 hts gX10_holdOn_X10_strike rfl rfl rfl hd_X10_strike ⟨Nat.le_of_ble_eq_true rfl, Nat.le_of_ble_eq_true rfl⟩) (by decide) (wX10_pl k a _) rfl (wX10_rec k a _) rfl (wX10_fst k a _ _) (wX10_put k a _ _) hl rfl rfl (Nat.le_of_ble_eq_true rfl) dX10_holdOn_10 ⟨Nat.le_refl 0, Nat.le_refl 0⟩ (fun H locs hW => ?_)
  exact b_X10_holdOn_b13c l D k a A C0 R ((P_X10_strike σ (σ 1 11) (-6 : Int32)).2) ((P_X10_strike σ (σ 1 11) (-6 : Int32)).1) hs hR H locs ls hW (lv_sub hl [0] rfl)
set_option maxHeartbeats 400000 in
set_option maxRecDepth 100000 in
theorem m_X10_holdOn (l : Launch) (D : va_G) (k : Nat → ClassId) (a : Nat → Nat) (sz : Nat) (σ : T2) (hs : S_X10_holdOn σ) : Met l yX10_holdOn wsX10_holdOn { frames := 2, cells := 0, slots := 0, locals := 42 } (va_Pc [.ref (a 0)] (q_B D (tyL k) (wX10 k a σ) sz)) (va_Qv (fun u => u = P_X10_holdOn σ) (fun u => q_E D (tyL k) (va_A (wX10 k a σ) sz) (wX10 k a u)) (va_A (wX10 k a σ) sz)) 0 0 (va_A (wX10 k a σ) sz) := by
  refine q_met [.ref (a 0)] (wX10 k a σ) sz (cc := cX10_holdOn) (maxL := 1) (ret := none) (by decide) rfl (Nat.le_of_ble_eq_true rfl) ?_
  intro p e s m args below meth c ls hsz C0 hW hl hin
  subst hsz
  exact b_X10_holdOn_b0 l D k a _ C0 _ σ  hs rfl s.heap [] ls hW (lv_sub hl [0] rfl)
theorem hin_X10_holdUpTo_X10 : ∀ w ∈ u_ws RX10 TX10 18, w ∈ wsX10_holdUpTo := by decide +kernel
theorem hd_X10_holdUpTo : yX10_holdUpTo.cls = RX10 ∧ yX10_holdUpTo.cls ≠ "java/lang/invoke/MethodHandle" ∧ yX10_holdUpTo.cls ≠ "java/lang/invoke/VarHandle" ∧ (parseMethodDescriptor yX10_holdUpTo.desc).map (fun d => d.parameters.length) = some 1 := by decide +kernel
noncomputable def P_X10_holdUpTo_b32c (pk0 : T2 → Int32 → T2) (σ : T2) (v1 : Int32) : T2 := pk0 σ v1
def S_X10_holdUpTo_b32c (sk0 : T2 → Int32 → Prop) (σ : T2) (v1 : Int32) : Prop := sk0 σ v1
theorem P_X10_holdUpTo_b32c_e (pk0 : T2 → Int32 → T2) (σ : T2) (v1 : Int32) : P_X10_holdUpTo_b32c pk0 σ v1 = pk0 σ v1 := rfl
theorem S_X10_holdUpTo_b32c_e (sk0 : T2 → Int32 → Prop) (σ : T2) (v1 : Int32) : S_X10_holdUpTo_b32c sk0 σ v1 = (sk0 σ v1) := rfl
noncomputable def P_X10_holdUpTo_b0 (n : Nat) : T2 → Int32 → T2 := Nat.rec (motive := fun _ => T2 → Int32 → T2) (fun _ _ => (fun _ _ => 0)) (fun _ pk0 => fun σ v1 => if (σ 1 11) < 0 then (σ) else (if v1 < (((σ 1 11) + (P_X10_halfWindow σ)) + (1 : Int32)) then (σ) else (P_X10_holdUpTo_b32c pk0 (P_X10_holdOn σ) v1))) n
def S_X10_holdUpTo_b0 (n : Nat) : T2 → Int32 → Prop := Nat.rec (motive := fun _ => T2 → Int32 → Prop) (fun _ _ => False) (fun _ sk0 => fun σ v1 => ((σ 1 11) < 0 → (True)) ∧ (¬ ((σ 1 11) < 0) → ((S_X10_halfWindow σ ) ∧ ((v1 < (((σ 1 11) + (P_X10_halfWindow σ)) + (1 : Int32)) → (True)) ∧ (¬ (v1 < (((σ 1 11) + (P_X10_halfWindow σ)) + (1 : Int32))) → ((S_X10_holdOn σ ) ∧ (S_X10_holdUpTo_b32c sk0 (P_X10_holdOn σ) v1))))))) n
theorem P_X10_holdUpTo_b0_e (n : Nat) (σ : T2) (v1 : Int32) : P_X10_holdUpTo_b0 (n + 1) σ v1 = if (σ 1 11) < 0 then (σ) else (if v1 < (((σ 1 11) + (P_X10_halfWindow σ)) + (1 : Int32)) then (σ) else (P_X10_holdUpTo_b32c (P_X10_holdUpTo_b0 n) (P_X10_holdOn σ) v1)) := rfl
theorem S_X10_holdUpTo_b0_e (n : Nat) (σ : T2) (v1 : Int32) : S_X10_holdUpTo_b0 (n + 1) σ v1 = (((σ 1 11) < 0 → (True)) ∧ (¬ ((σ 1 11) < 0) → ((S_X10_halfWindow σ ) ∧ ((v1 < (((σ 1 11) + (P_X10_halfWindow σ)) + (1 : Int32)) → (True)) ∧ (¬ (v1 < (((σ 1 11) + (P_X10_halfWindow σ)) + (1 : Int32))) → ((S_X10_holdOn σ ) ∧ (S_X10_holdUpTo_b32c (S_X10_holdUpTo_b0 n) (P_X10_holdOn σ) v1))))))) := rfl
noncomputable def P_X10_holdUpTo (σ : T2) (p0 : Int32) : T2 := P_X10_holdUpTo_b0 FU σ p0
def S_X10_holdUpTo (σ : T2) (p0 : Int32) : Prop := S_X10_holdUpTo_b0 FU σ p0
set_option maxHeartbeats 400000 in
set_option maxRecDepth 100000 in
theorem b_X10_holdUpTo_b32c {p : Program} {e : Env} {s : State} {m : MethodId} {args : Array Value} {below : List Frame} {meth : Method} {c : Code} (l : Launch) (D : va_G) (k : Nat → ClassId) (a : Nat → Nat) (A : Nat → Prop) (C0 : q_C p s m meth c args RX10 cX10_holdUpTo 2 none wsX10_holdUpTo D (tyL k) A) (R : T2) (pk0 : T2 → Int32 → T2) (sk0 : T2 → Int32 → Prop) (hk0 : ∀ (σ : T2) (v1 : Int32), sk0 σ v1 → pk0 σ v1 = R → ∀ (H : Heap) (locs : List Loc) (ls : Array Slot), q_W D A s.heap (wX10 k a σ) H locs → lv_has ls 2 [(0, .ref (a 0)), (1, .int v1)] → W p l e { frames := 3, cells := 0, slots := 0, locals := 62 } s m args below meth c H locs 0 0 (MQ below (va_Qv (fun u => u = R) (fun u => q_E D (tyL k) A (wX10 k a u)) A) args s 0 0 A) (F0 m 0 ls [])) : ∀ (σ : T2) (v1 : Int32), S_X10_holdUpTo_b32c sk0 σ v1 → P_X10_holdUpTo_b32c pk0 σ v1 = R → ∀ (H : Heap) (locs : List Loc) (ls : Array Slot), q_W D A s.heap (wX10 k a σ) H locs → lv_has ls 2 [(0, .ref (a 0)), (1, .int v1)] → W p l e { frames := 3, cells := 0, slots := 0, locals := 62 } s m args below meth c H locs 0 0 (MQ below (va_Qv (fun u => u = R) (fun u => q_E D (tyL k) A (wX10 k a u)) A) args s 0 0 A) (F0 m 32 ls []) := by
  intro σ v1 hs hR H locs ls hW hl
  rw [P_X10_holdUpTo_b32c_e] at hR
  rw [S_X10_holdUpTo_b32c_e] at hs
  obtain ⟨hx, hb, hr, hml, hts, hown, hlocks, hK, hA⟩ := id C0
  refine lv_goto (tgt := 0) hx hb dX10_holdUpTo_32 (by decide) ?_
  exact hk0 σ v1 hs hR H locs ls hW (lv_sub hl [0, 1] rfl)
set_option maxHeartbeats 400000 in
set_option maxRecDepth 100000 in
theorem b_X10_holdUpTo_b0 {p : Program} {e : Env} {s : State} {m : MethodId} {args : Array Value} {below : List Frame} {meth : Method} {c : Code} (l : Launch) (D : va_G) (k : Nat → ClassId) (a : Nat → Nat) (A : Nat → Prop) (C0 : q_C p s m meth c args RX10 cX10_holdUpTo 2 none wsX10_holdUpTo D (tyL k) A) (R : T2) : ∀ n : Nat, ∀ (σ : T2) (v1 : Int32), S_X10_holdUpTo_b0 n σ v1 → P_X10_holdUpTo_b0 n σ v1 = R → ∀ (H : Heap) (locs : List Loc) (ls : Array Slot), q_W D A s.heap (wX10 k a σ) H locs → lv_has ls 2 [(0, .ref (a 0)), (1, .int v1)] → W p l e { frames := 3, cells := 0, slots := 0, locals := 62 } s m args below meth c H locs 0 0 (MQ below (va_Qv (fun u => u = R) (fun u => q_E D (tyL k) A (wX10 k a u)) A) args s 0 0 A) (F0 m 0 ls []) := by
  intro n
  induction n with
  | zero => intro σ v1 hs; exact False.elim hs
  | succ n ih =>
    intro σ v1 hs hR H locs ls hW hl
    rw [P_X10_holdUpTo_b0_e] at hR
    rw [S_X10_holdUpTo_b0_e] at hs
    obtain ⟨hx, hb, hr, hml, hts, hown, hlocks, hK, hA⟩ := id C0
    have hf7 := hts (.fieldLink RX10 7 "BeatFollowerModel" "at" "[I") (by decide +kernel)
    have hinX10 : ∀ w ∈ u_ws RX10 TX10 18, w ∈ wsX10_holdUpTo := hin_X10_holdUpTo_X10
    refine lv_aload_n hx hb dX10_holdUpTo_0 rfl (lv_at hl 0 rfl) ?_
    refine va_get (v := .ref (a 1)) (C := RX10) (T := TX10) (N := 18) hx hb hts hinX10 hown hK hW.1 0 rfl rfl 0 (by decide) hf7 (fun _ h9 => h9) rfl dX10_holdUpTo_1 ?_
    refine lv_bipush (v := (11 : Int32)) hx hb dX10_holdUpTo_4 (by decide) ?_
    refine q_iald (v := σ 1 11) C0 hW 1 rfl rfl vi_11_672 cl_11 rfl dX10_holdUpTo_6 ?_
    refine lv_if_lt (tgt := 35) hx hb dX10_holdUpTo_7 (by decide) (fun c_1 => ?_) (fun c_1 => ?_)
    · have hs := hs.1 c_1
      rw [if_pos c_1] at hR
      exact q_vret C0 hW hR dX10_holdUpTo_35
    · have hs := hs.2 c_1
      rw [if_neg c_1] at hR
      refine lv_aload_n hx hb dX10_holdUpTo_10 rfl (lv_at hl 0 rfl) ?_
      refine va_get (v := .ref (a 1)) (C := RX10) (T := TX10) (N := 18) hx hb hts hinX10 hown hK hW.1 0 rfl rfl 0 (by decide) hf7 (fun _ h9 => h9) rfl dX10_holdUpTo_11 ?_
      refine lv_bipush (v := (11 : Int32)) hx hb dX10_holdUpTo_14 (by decide) ?_
      refine q_iald (v := σ 1 11) C0 hW 1 rfl rfl vi_11_672 cl_11 rfl dX10_holdUpTo_16 ?_
      refine lv_aload_n hx hb dX10_holdUpTo_17 rfl (lv_at hl 0 rfl) ?_
      have hs2 := hs.1
      have hs := hs.2
      refine q_Vi (As := []) (rest := [.int (σ 1 11)]) (R := P_X10_halfWindow σ) [0, 1, 2, 3, 4, 5, 6, 7, 8] [0, 1, 2, 3] 0 10 C0 hW (m_X10_halfWindow l D k a _ σ  hs2) (cwV 0 hts gX10_holdUpTo_X10_halfWindow rfl rfl rfl hd_X10_halfWindow ⟨Nat.le_of_ble_eq_true rfl, Nat.le_of_ble_eq_true rfl⟩) (by decide) (wX10_pl k a _) rfl (wX10_rec k a _) rfl hl rfl rfl (Nat.le_of_ble_eq_true rfl) dX10_holdUpTo_18 ⟨Nat.le_refl 0, Nat.le_refl 0⟩ ?_
      refine lv_iadd hx hb dX10_holdUpTo_21 ?_
      refine lv_iconst (v := (1 : Int32)) hx hb dX10_holdUpTo_22 (by decide) ?_
      refine lv_iadd hx hb dX10_holdUpTo_23 ?_
      refine lv_iload_n hx hb dX10_holdUpTo_24 rfl (lv_at hl 1 rfl) ?_
      refine lv_icmp_gt (tgt := 35) hx hb dX10_holdUpTo_25 (by decide) (fun c_3 => ?_) (fun c_3 => ?_)
      · have hs := hs.1 c_3
        rw [if_pos c_3] at hR
        exact q_vret C0 hW hR dX10_holdUpTo_35
      · have hs := hs.2 c_3
        rw [if_neg c_3] at hR
        refine lv_aload_n hx hb dX10_holdUpTo_28 rfl (lv_at hl 0 rfl) ?_
        have hs4 := hs.1
        have hs := hs.2
        refine q_Vv (As := []) (rest := []) (wf := wX10 k a) (R := P_X10_holdOn σ) (wd' := wX10 k a (P_X10_holdOn σ)) [0, 1, 2, 3, 4, 5, 6, 7, 8] [0, 1, 2, 3] 0 10 C0 hW (m_X10_holdOn l D k a H.size σ  hs4) (cwV 0 hts gX10_holdUpTo_X10_holdOn rfl rfl rfl hd_X10_holdOn ⟨Nat.le_of_ble_eq_true rfl, Nat.le_of_ble_eq_true rfl⟩) (by decide) (wX10_pl k a _) rfl (wX10_rec k a _) rfl (wX10_fst k a _ _) (wX10_put k a _ _) hl rfl rfl (Nat.le_of_ble_eq_true rfl) dX10_holdUpTo_29 ⟨Nat.le_refl 0, Nat.le_refl 0⟩ (fun H locs hW => ?_)
        exact b_X10_holdUpTo_b32c l D k a A C0 R _ _ ih (P_X10_holdOn σ) v1 hs hR H locs ls hW (lv_sub hl [0, 1] rfl)
set_option maxHeartbeats 400000 in
set_option maxRecDepth 100000 in
theorem m_X10_holdUpTo (l : Launch) (D : va_G) (k : Nat → ClassId) (a : Nat → Nat) (sz : Nat) (σ : T2) (p0 : Int32) (hs : S_X10_holdUpTo σ p0) : Met l yX10_holdUpTo wsX10_holdUpTo { frames := 3, cells := 0, slots := 0, locals := 62 } (va_Pc [.ref (a 0), .int p0] (q_B D (tyL k) (wX10 k a σ) sz)) (va_Qv (fun u => u = P_X10_holdUpTo σ p0) (fun u => q_E D (tyL k) (va_A (wX10 k a σ) sz) (wX10 k a u)) (va_A (wX10 k a σ) sz)) 0 0 (va_A (wX10 k a σ) sz) := by
  refine q_met [.ref (a 0), .int p0] (wX10 k a σ) sz (cc := cX10_holdUpTo) (maxL := 2) (ret := none) (by decide) rfl (Nat.le_of_ble_eq_true rfl) ?_
  intro p e s m args below meth c ls hsz C0 hW hl hin
  subst hsz
  exact b_X10_holdUpTo_b0 l D k a _ C0 _ FU σ p0 hs rfl s.heap [] ls hW (lv_sub hl [0, 1] rfl)
theorem hin_X10_happenUpTo_X10 : ∀ w ∈ u_ws RX10 TX10 18, w ∈ wsX10_happenUpTo := by decide +kernel
theorem hd_X10_happenUpTo : yX10_happenUpTo.cls = RX10 ∧ yX10_happenUpTo.cls ≠ "java/lang/invoke/MethodHandle" ∧ yX10_happenUpTo.cls ≠ "java/lang/invoke/VarHandle" ∧ (parseMethodDescriptor yX10_happenUpTo.desc).map (fun d => d.parameters.length) = some 1 := by decide +kernel
noncomputable def P_X10_happenUpTo_b79 (σ : T2) (v1 : Int32) : T2 := P_X10_holdUpTo σ v1
def S_X10_happenUpTo_b79 (σ : T2) (v1 : Int32) : Prop := (S_X10_holdUpTo σ v1) ∧ (True)
theorem P_X10_happenUpTo_b79_e (σ : T2) (v1 : Int32) : P_X10_happenUpTo_b79 σ v1 = P_X10_holdUpTo σ v1 := rfl
theorem S_X10_happenUpTo_b79_e (σ : T2) (v1 : Int32) : S_X10_happenUpTo_b79 σ v1 = ((S_X10_holdUpTo σ v1) ∧ (True)) := rfl
noncomputable def P_X10_happenUpTo_b76c (pk0 : T2 → Int32 → T2) (σ : T2) (v1 : Int32) : T2 := pk0 σ v1
def S_X10_happenUpTo_b76c (sk0 : T2 → Int32 → Prop) (σ : T2) (v1 : Int32) : Prop := sk0 σ v1
theorem P_X10_happenUpTo_b76c_e (pk0 : T2 → Int32 → T2) (σ : T2) (v1 : Int32) : P_X10_happenUpTo_b76c pk0 σ v1 = pk0 σ v1 := rfl
theorem S_X10_happenUpTo_b76c_e (sk0 : T2 → Int32 → Prop) (σ : T2) (v1 : Int32) : S_X10_happenUpTo_b76c sk0 σ v1 = (sk0 σ v1) := rfl
noncomputable def P_X10_happenUpTo_b72c (pk0 : T2 → Int32 → T2) (σ : T2) (v1 : Int32) : T2 := P_X10_happenUpTo_b76c pk0 (P_X10_hear σ) v1
def S_X10_happenUpTo_b72c (sk0 : T2 → Int32 → Prop) (σ : T2) (v1 : Int32) : Prop := (S_X10_hear σ ) ∧ (S_X10_happenUpTo_b76c sk0 (P_X10_hear σ) v1)
theorem P_X10_happenUpTo_b72c_e (pk0 : T2 → Int32 → T2) (σ : T2) (v1 : Int32) : P_X10_happenUpTo_b72c pk0 σ v1 = P_X10_happenUpTo_b76c pk0 (P_X10_hear σ) v1 := rfl
theorem S_X10_happenUpTo_b72c_e (sk0 : T2 → Int32 → Prop) (σ : T2) (v1 : Int32) : S_X10_happenUpTo_b72c sk0 σ v1 = ((S_X10_hear σ ) ∧ (S_X10_happenUpTo_b76c sk0 (P_X10_hear σ) v1)) := rfl
noncomputable def P_X10_happenUpTo_b69 (pk0 : T2 → Int32 → T2) (σ : T2) (v1 : Int32) (t0 : Int32) : T2 := P_X10_happenUpTo_b72c pk0 (P_X10_holdUpTo σ t0) v1
def S_X10_happenUpTo_b69 (sk0 : T2 → Int32 → Prop) (σ : T2) (v1 : Int32) (t0 : Int32) : Prop := (S_X10_holdUpTo σ t0) ∧ (S_X10_happenUpTo_b72c sk0 (P_X10_holdUpTo σ t0) v1)
theorem P_X10_happenUpTo_b69_e (pk0 : T2 → Int32 → T2) (σ : T2) (v1 : Int32) (t0 : Int32) : P_X10_happenUpTo_b69 pk0 σ v1 t0 = P_X10_happenUpTo_b72c pk0 (P_X10_holdUpTo σ t0) v1 := rfl
theorem S_X10_happenUpTo_b69_e (sk0 : T2 → Int32 → Prop) (σ : T2) (v1 : Int32) (t0 : Int32) : S_X10_happenUpTo_b69 sk0 σ v1 t0 = ((S_X10_holdUpTo σ t0) ∧ (S_X10_happenUpTo_b72c sk0 (P_X10_holdUpTo σ t0) v1)) := rfl
noncomputable def P_X10_happenUpTo_b0 (n : Nat) : T2 → Int32 → T2 := Nat.rec (motive := fun _ => T2 → Int32 → T2) (fun _ _ => (fun _ _ => 0)) (fun _ pk0 => fun σ v1 => if (σ 1 22) ≤ (σ 1 14) then (P_X10_happenUpTo_b79 σ v1) else (if v1 < ((4 : Int32) * (P_X10_ofB σ (σ 1 14) (0 : Int32))) then (P_X10_happenUpTo_b79 σ v1) else (if (σ 1 14) = (σ 0 7) then (P_X10_happenUpTo_b69 pk0 σ v1 (-6 : Int32)) else (P_X10_happenUpTo_b69 pk0 σ v1 ((4 : Int32) * (P_X10_ofB σ (σ 1 14) (0 : Int32))))))) n
def S_X10_happenUpTo_b0 (n : Nat) : T2 → Int32 → Prop := Nat.rec (motive := fun _ => T2 → Int32 → Prop) (fun _ _ => False) (fun _ sk0 => fun σ v1 => ((σ 1 22) ≤ (σ 1 14) → (S_X10_happenUpTo_b79 σ v1)) ∧ (¬ ((σ 1 22) ≤ (σ 1 14)) → ((S_X10_ofB σ (σ 1 14) (0 : Int32)) ∧ ((v1 < ((4 : Int32) * (P_X10_ofB σ (σ 1 14) (0 : Int32))) → (S_X10_happenUpTo_b79 σ v1)) ∧ (¬ (v1 < ((4 : Int32) * (P_X10_ofB σ (σ 1 14) (0 : Int32)))) → (((σ 1 14) = (σ 0 7) → (S_X10_happenUpTo_b69 sk0 σ v1 (-6 : Int32))) ∧ (¬ ((σ 1 14) = (σ 0 7)) → ((S_X10_ofB σ (σ 1 14) (0 : Int32)) ∧ (S_X10_happenUpTo_b69 sk0 σ v1 ((4 : Int32) * (P_X10_ofB σ (σ 1 14) (0 : Int32)))))))))))) n
theorem P_X10_happenUpTo_b0_e (n : Nat) (σ : T2) (v1 : Int32) : P_X10_happenUpTo_b0 (n + 1) σ v1 = if (σ 1 22) ≤ (σ 1 14) then (P_X10_happenUpTo_b79 σ v1) else (if v1 < ((4 : Int32) * (P_X10_ofB σ (σ 1 14) (0 : Int32))) then (P_X10_happenUpTo_b79 σ v1) else (if (σ 1 14) = (σ 0 7) then (P_X10_happenUpTo_b69 (P_X10_happenUpTo_b0 n) σ v1 (-6 : Int32)) else (P_X10_happenUpTo_b69 (P_X10_happenUpTo_b0 n) σ v1 ((4 : Int32) * (P_X10_ofB σ (σ 1 14) (0 : Int32)))))) := rfl
theorem S_X10_happenUpTo_b0_e (n : Nat) (σ : T2) (v1 : Int32) : S_X10_happenUpTo_b0 (n + 1) σ v1 = (((σ 1 22) ≤ (σ 1 14) → (S_X10_happenUpTo_b79 σ v1)) ∧ (¬ ((σ 1 22) ≤ (σ 1 14)) → ((S_X10_ofB σ (σ 1 14) (0 : Int32)) ∧ ((v1 < ((4 : Int32) * (P_X10_ofB σ (σ 1 14) (0 : Int32))) → (S_X10_happenUpTo_b79 σ v1)) ∧ (¬ (v1 < ((4 : Int32) * (P_X10_ofB σ (σ 1 14) (0 : Int32)))) → (((σ 1 14) = (σ 0 7) → (S_X10_happenUpTo_b69 (S_X10_happenUpTo_b0 n) σ v1 (-6 : Int32))) ∧ (¬ ((σ 1 14) = (σ 0 7)) → ((S_X10_ofB σ (σ 1 14) (0 : Int32)) ∧ (S_X10_happenUpTo_b69 (S_X10_happenUpTo_b0 n) σ v1 ((4 : Int32) * (P_X10_ofB σ (σ 1 14) (0 : Int32)))))))))))) := rfl
noncomputable def P_X10_happenUpTo (σ : T2) (p0 : Int32) : T2 := P_X10_happenUpTo_b0 FU σ p0
def S_X10_happenUpTo (σ : T2) (p0 : Int32) : Prop := S_X10_happenUpTo_b0 FU σ p0
set_option maxHeartbeats 400000 in
set_option maxRecDepth 100000 in
theorem b_X10_happenUpTo_b79 {p : Program} {e : Env} {s : State} {m : MethodId} {args : Array Value} {below : List Frame} {meth : Method} {c : Code} (l : Launch) (D : va_G) (k : Nat → ClassId) (a : Nat → Nat) (A : Nat → Prop) (C0 : q_C p s m meth c args RX10 cX10_happenUpTo 2 none wsX10_happenUpTo D (tyL k) A) (R : T2) : ∀ (σ : T2) (v1 : Int32), S_X10_happenUpTo_b79 σ v1 → P_X10_happenUpTo_b79 σ v1 = R → ∀ (H : Heap) (locs : List Loc) (ls : Array Slot), q_W D A s.heap (wX10 k a σ) H locs → lv_has ls 2 [(0, .ref (a 0)), (1, .int v1)] → W p l e { frames := 4, cells := 0, slots := 0, locals := 97 } s m args below meth c H locs 0 0 (MQ below (va_Qv (fun u => u = R) (fun u => q_E D (tyL k) A (wX10 k a u)) A) args s 0 0 A) (F0 m 79 ls []) := by
  intro σ v1 hs hR H locs ls hW hl
  rw [P_X10_happenUpTo_b79_e] at hR
  rw [S_X10_happenUpTo_b79_e] at hs
  obtain ⟨hx, hb, hr, hml, hts, hown, hlocks, hK, hA⟩ := id C0
  refine lv_aload_n hx hb dX10_happenUpTo_79 rfl (lv_at hl 0 rfl) ?_
  refine lv_iload_n hx hb dX10_happenUpTo_80 rfl (lv_at hl 1 rfl) ?_
  have hs2 := hs.1
  have hs := hs.2
  refine q_Vv (As := [.int v1]) (rest := []) (wf := wX10 k a) (R := P_X10_holdUpTo σ v1) (wd' := wX10 k a (P_X10_holdUpTo σ v1)) [0, 1, 2, 3, 4, 5, 6, 7, 8] [0, 1, 2, 3] 0 10 C0 hW (m_X10_holdUpTo l D k a H.size σ v1 hs2) (cwV 1 hts gX10_happenUpTo_X10_holdUpTo rfl rfl rfl hd_X10_holdUpTo ⟨Nat.le_of_ble_eq_true rfl, Nat.le_of_ble_eq_true rfl⟩) (by decide) (wX10_pl k a _) rfl (wX10_rec k a _) rfl (wX10_fst k a _ _) (wX10_put k a _ _) hl rfl rfl (Nat.le_of_ble_eq_true rfl) dX10_happenUpTo_81 ⟨Nat.le_refl 0, Nat.le_refl 0⟩ (fun H locs hW => ?_)
  exact q_vret C0 hW hR dX10_happenUpTo_84
set_option maxHeartbeats 400000 in
set_option maxRecDepth 100000 in
theorem b_X10_happenUpTo_b76c {p : Program} {e : Env} {s : State} {m : MethodId} {args : Array Value} {below : List Frame} {meth : Method} {c : Code} (l : Launch) (D : va_G) (k : Nat → ClassId) (a : Nat → Nat) (A : Nat → Prop) (C0 : q_C p s m meth c args RX10 cX10_happenUpTo 2 none wsX10_happenUpTo D (tyL k) A) (R : T2) (pk0 : T2 → Int32 → T2) (sk0 : T2 → Int32 → Prop) (hk0 : ∀ (σ : T2) (v1 : Int32), sk0 σ v1 → pk0 σ v1 = R → ∀ (H : Heap) (locs : List Loc) (ls : Array Slot), q_W D A s.heap (wX10 k a σ) H locs → lv_has ls 2 [(0, .ref (a 0)), (1, .int v1)] → W p l e { frames := 4, cells := 0, slots := 0, locals := 97 } s m args below meth c H locs 0 0 (MQ below (va_Qv (fun u => u = R) (fun u => q_E D (tyL k) A (wX10 k a u)) A) args s 0 0 A) (F0 m 0 ls [])) : ∀ (σ : T2) (v1 : Int32), S_X10_happenUpTo_b76c sk0 σ v1 → P_X10_happenUpTo_b76c pk0 σ v1 = R → ∀ (H : Heap) (locs : List Loc) (ls : Array Slot), q_W D A s.heap (wX10 k a σ) H locs → lv_has ls 2 [(0, .ref (a 0)), (1, .int v1)] → W p l e { frames := 4, cells := 0, slots := 0, locals := 97 } s m args below meth c H locs 0 0 (MQ below (va_Qv (fun u => u = R) (fun u => q_E D (tyL k) A (wX10 k a u)) A) args s 0 0 A) (F0 m 76 ls []) := by
  intro σ v1 hs hR H locs ls hW hl
  rw [P_X10_happenUpTo_b76c_e] at hR
  rw [S_X10_happenUpTo_b76c_e] at hs
  obtain ⟨hx, hb, hr, hml, hts, hown, hlocks, hK, hA⟩ := id C0
  refine lv_goto (tgt := 0) hx hb dX10_happenUpTo_76 (by decide) ?_
  exact hk0 σ v1 hs hR H locs ls hW (lv_sub hl [0, 1] rfl)
set_option maxHeartbeats 400000 in
set_option maxRecDepth 100000 in
theorem b_X10_happenUpTo_b72c {p : Program} {e : Env} {s : State} {m : MethodId} {args : Array Value} {below : List Frame} {meth : Method} {c : Code} (l : Launch) (D : va_G) (k : Nat → ClassId) (a : Nat → Nat) (A : Nat → Prop) (C0 : q_C p s m meth c args RX10 cX10_happenUpTo 2 none wsX10_happenUpTo D (tyL k) A) (R : T2) (pk0 : T2 → Int32 → T2) (sk0 : T2 → Int32 → Prop) (hk0 : ∀ (σ : T2) (v1 : Int32), sk0 σ v1 → pk0 σ v1 = R → ∀ (H : Heap) (locs : List Loc) (ls : Array Slot), q_W D A s.heap (wX10 k a σ) H locs → lv_has ls 2 [(0, .ref (a 0)), (1, .int v1)] → W p l e { frames := 4, cells := 0, slots := 0, locals := 97 } s m args below meth c H locs 0 0 (MQ below (va_Qv (fun u => u = R) (fun u => q_E D (tyL k) A (wX10 k a u)) A) args s 0 0 A) (F0 m 0 ls [])) : ∀ (σ : T2) (v1 : Int32), S_X10_happenUpTo_b72c sk0 σ v1 → P_X10_happenUpTo_b72c pk0 σ v1 = R → ∀ (H : Heap) (locs : List Loc) (ls : Array Slot), q_W D A s.heap (wX10 k a σ) H locs → lv_has ls 2 [(0, .ref (a 0)), (1, .int v1)] → W p l e { frames := 4, cells := 0, slots := 0, locals := 97 } s m args below meth c H locs 0 0 (MQ below (va_Qv (fun u => u = R) (fun u => q_E D (tyL k) A (wX10 k a u)) A) args s 0 0 A) (F0 m 72 ls []) := by
  intro σ v1 hs hR H locs ls hW hl
  rw [P_X10_happenUpTo_b72c_e] at hR
  rw [S_X10_happenUpTo_b72c_e] at hs
  obtain ⟨hx, hb, hr, hml, hts, hown, hlocks, hK, hA⟩ := id C0
  refine lv_aload_n hx hb dX10_happenUpTo_72 rfl (lv_at hl 0 rfl) ?_
  have hs8 := hs.1
  have hs := hs.2
  refine q_Vv (As := []) (rest := []) (wf := wX10 k a) (R := P_X10_hear σ) (wd' := wX10 k a (P_X10_hear σ)) [0, 1, 2, 3, 4, 5, 6, 7, 8] [0, 1, 2, 3] 0 10 C0 hW (m_X10_hear l D k a H.size σ  hs8) (cwV 0 hts gX10_happenUpTo_X10_hear rfl rfl rfl hd_X10_hear ⟨Nat.le_of_ble_eq_true rfl, Nat.le_of_ble_eq_true rfl⟩) (by decide) (wX10_pl k a _) rfl (wX10_rec k a _) rfl (wX10_fst k a _ _) (wX10_put k a _ _) hl rfl rfl (Nat.le_of_ble_eq_true rfl) dX10_happenUpTo_73 ⟨Nat.le_refl 0, Nat.le_refl 0⟩ (fun H locs hW => ?_)
  exact b_X10_happenUpTo_b76c l D k a A C0 R pk0 sk0 hk0 (P_X10_hear σ) v1 hs hR H locs ls hW (lv_sub hl [0, 1] rfl)
set_option maxHeartbeats 400000 in
set_option maxRecDepth 100000 in
theorem b_X10_happenUpTo_b69 {p : Program} {e : Env} {s : State} {m : MethodId} {args : Array Value} {below : List Frame} {meth : Method} {c : Code} (l : Launch) (D : va_G) (k : Nat → ClassId) (a : Nat → Nat) (A : Nat → Prop) (C0 : q_C p s m meth c args RX10 cX10_happenUpTo 2 none wsX10_happenUpTo D (tyL k) A) (R : T2) (pk0 : T2 → Int32 → T2) (sk0 : T2 → Int32 → Prop) (hk0 : ∀ (σ : T2) (v1 : Int32), sk0 σ v1 → pk0 σ v1 = R → ∀ (H : Heap) (locs : List Loc) (ls : Array Slot), q_W D A s.heap (wX10 k a σ) H locs → lv_has ls 2 [(0, .ref (a 0)), (1, .int v1)] → W p l e { frames := 4, cells := 0, slots := 0, locals := 97 } s m args below meth c H locs 0 0 (MQ below (va_Qv (fun u => u = R) (fun u => q_E D (tyL k) A (wX10 k a u)) A) args s 0 0 A) (F0 m 0 ls [])) : ∀ (σ : T2) (v1 : Int32) (t0 : Int32), S_X10_happenUpTo_b69 sk0 σ v1 t0 → P_X10_happenUpTo_b69 pk0 σ v1 t0 = R → ∀ (H : Heap) (locs : List Loc) (ls : Array Slot), q_W D A s.heap (wX10 k a σ) H locs → lv_has ls 2 [(0, .ref (a 0)), (1, .int v1)] → W p l e { frames := 4, cells := 0, slots := 0, locals := 97 } s m args below meth c H locs 0 0 (MQ below (va_Qv (fun u => u = R) (fun u => q_E D (tyL k) A (wX10 k a u)) A) args s 0 0 A) (F0 m 69 ls [.int t0, .ref (a 0)]) := by
  intro σ v1 t0 hs hR H locs ls hW hl
  rw [P_X10_happenUpTo_b69_e] at hR
  rw [S_X10_happenUpTo_b69_e] at hs
  obtain ⟨hx, hb, hr, hml, hts, hown, hlocks, hK, hA⟩ := id C0
  have hs7 := hs.1
  have hs := hs.2
  refine q_Vv (As := [.int t0]) (rest := []) (wf := wX10 k a) (R := P_X10_holdUpTo σ t0) (wd' := wX10 k a (P_X10_holdUpTo σ t0)) [0, 1, 2, 3, 4, 5, 6, 7, 8] [0, 1, 2, 3] 0 10 C0 hW (m_X10_holdUpTo l D k a H.size σ t0 hs7) (cwV 1 hts gX10_happenUpTo_X10_holdUpTo rfl rfl rfl hd_X10_holdUpTo ⟨Nat.le_of_ble_eq_true rfl, Nat.le_of_ble_eq_true rfl⟩) (by decide) (wX10_pl k a _) rfl (wX10_rec k a _) rfl (wX10_fst k a _ _) (wX10_put k a _ _) hl rfl rfl (Nat.le_of_ble_eq_true rfl) dX10_happenUpTo_69 ⟨Nat.le_refl 0, Nat.le_refl 0⟩ (fun H locs hW => ?_)
  exact b_X10_happenUpTo_b72c l D k a A C0 R pk0 sk0 hk0 (P_X10_holdUpTo σ t0) v1 hs hR H locs ls hW (lv_sub hl [0, 1] rfl)
set_option maxHeartbeats 400000 in
set_option maxRecDepth 100000 in
theorem b_X10_happenUpTo_b0 {p : Program} {e : Env} {s : State} {m : MethodId} {args : Array Value} {below : List Frame} {meth : Method} {c : Code} (l : Launch) (D : va_G) (k : Nat → ClassId) (a : Nat → Nat) (A : Nat → Prop) (C0 : q_C p s m meth c args RX10 cX10_happenUpTo 2 none wsX10_happenUpTo D (tyL k) A) (R : T2) : ∀ n : Nat, ∀ (σ : T2) (v1 : Int32), S_X10_happenUpTo_b0 n σ v1 → P_X10_happenUpTo_b0 n σ v1 = R → ∀ (H : Heap) (locs : List Loc) (ls : Array Slot), q_W D A s.heap (wX10 k a σ) H locs → lv_has ls 2 [(0, .ref (a 0)), (1, .int v1)] → W p l e { frames := 4, cells := 0, slots := 0, locals := 97 } s m args below meth c H locs 0 0 (MQ below (va_Qv (fun u => u = R) (fun u => q_E D (tyL k) A (wX10 k a u)) A) args s 0 0 A) (F0 m 0 ls []) := by
  intro n
  induction n with
  | zero => intro σ v1 hs; exact False.elim hs
  | succ n ih =>
    intro σ v1 hs hR H locs ls hW hl
    rw [P_X10_happenUpTo_b0_e] at hR
    rw [S_X10_happenUpTo_b0_e] at hs
    obtain ⟨hx, hb, hr, hml, hts, hown, hlocks, hK, hA⟩ := id C0
    have hf7 := hts (.fieldLink RX10 7 "BeatFollowerModel" "at" "[I") (by decide +kernel)
    have hf26 := hts (.fieldLink RX10 26 "BeatFollowerModel" "leftOut" "I") (by decide +kernel)
    have hinX10 : ∀ w ∈ u_ws RX10 TX10 18, w ∈ wsX10_happenUpTo := hin_X10_happenUpTo_X10
    refine lv_aload_n hx hb dX10_happenUpTo_0 rfl (lv_at hl 0 rfl) ?_
    refine va_get (v := .ref (a 1)) (C := RX10) (T := TX10) (N := 18) hx hb hts hinX10 hown hK hW.1 0 rfl rfl 0 (by decide) hf7 (fun _ h9 => h9) rfl dX10_happenUpTo_1 ?_
    refine lv_bipush (v := (14 : Int32)) hx hb dX10_happenUpTo_4 (by decide) ?_
    refine q_iald (v := σ 1 14) C0 hW 1 rfl rfl vi_14_672 cl_14 rfl dX10_happenUpTo_6 ?_
    refine lv_aload_n hx hb dX10_happenUpTo_7 rfl (lv_at hl 0 rfl) ?_
    refine va_get (v := .ref (a 1)) (C := RX10) (T := TX10) (N := 18) hx hb hts hinX10 hown hK hW.1 0 rfl rfl 0 (by decide) hf7 (fun _ h9 => h9) rfl dX10_happenUpTo_8 ?_
    refine lv_bipush (v := (22 : Int32)) hx hb dX10_happenUpTo_11 (by decide) ?_
    refine q_iald (v := σ 1 22) C0 hW 1 rfl rfl vi_22_672 cl_22 rfl dX10_happenUpTo_13 ?_
    refine lv_icmp_ge (tgt := 79) hx hb dX10_happenUpTo_14 (by decide) (fun c_1 => ?_) (fun c_1 => ?_)
    · have hs := hs.1 c_1
      rw [if_pos c_1] at hR
      exact b_X10_happenUpTo_b79 l D k a A C0 R σ v1 hs hR H locs ls hW (lv_sub hl [0, 1] rfl)
    · have hs := hs.2 c_1
      rw [if_neg c_1] at hR
      refine lv_iconst (v := (4 : Int32)) hx hb dX10_happenUpTo_17 (by decide) ?_
      refine lv_aload_n hx hb dX10_happenUpTo_18 rfl (lv_at hl 0 rfl) ?_
      refine lv_aload_n hx hb dX10_happenUpTo_19 rfl (lv_at hl 0 rfl) ?_
      refine va_get (v := .ref (a 1)) (C := RX10) (T := TX10) (N := 18) hx hb hts hinX10 hown hK hW.1 0 rfl rfl 0 (by decide) hf7 (fun _ h9 => h9) rfl dX10_happenUpTo_20 ?_
      refine lv_bipush (v := (14 : Int32)) hx hb dX10_happenUpTo_23 (by decide) ?_
      refine q_iald (v := σ 1 14) C0 hW 1 rfl rfl vi_14_672 cl_14 rfl dX10_happenUpTo_25 ?_
      refine lv_iconst (v := (0 : Int32)) hx hb dX10_happenUpTo_26 (by decide) ?_
      have hs3 := hs.1
      have hs := hs.2
      refine q_Vi (As := [.int (σ 1 14), .int (0 : Int32)]) (rest := [.int (4 : Int32)]) (R := P_X10_ofB σ (σ 1 14) (0 : Int32)) [0, 1, 2, 3, 4, 5, 6, 7, 8] [0, 1, 2, 3] 0 10 C0 hW (m_X10_ofB l D k a _ σ (σ 1 14) (0 : Int32) hs3) (cwV 2 hts gX10_happenUpTo_X10_ofB rfl rfl rfl hd_X10_ofB ⟨Nat.le_of_ble_eq_true rfl, Nat.le_of_ble_eq_true rfl⟩) (by decide) (wX10_pl k a _) rfl (wX10_rec k a _) rfl hl rfl rfl (Nat.le_of_ble_eq_true rfl) dX10_happenUpTo_27 ⟨Nat.le_refl 0, Nat.le_refl 0⟩ ?_
      refine lv_imul hx hb dX10_happenUpTo_30 ?_
      refine lv_iload_n hx hb dX10_happenUpTo_31 rfl (lv_at hl 1 rfl) ?_
      refine lv_icmp_gt (tgt := 79) hx hb dX10_happenUpTo_32 (by decide) (fun c_4 => ?_) (fun c_4 => ?_)
      · have hs := hs.1 c_4
        rw [if_pos c_4] at hR
        exact b_X10_happenUpTo_b79 l D k a A C0 R σ v1 hs hR H locs ls hW (lv_sub hl [0, 1] rfl)
      · have hs := hs.2 c_4
        rw [if_neg c_4] at hR
        refine lv_aload_n hx hb dX10_happenUpTo_35 rfl (lv_at hl 0 rfl) ?_
        refine lv_aload_n hx hb dX10_happenUpTo_36 rfl (lv_at hl 0 rfl) ?_
        refine va_get (v := .ref (a 1)) (C := RX10) (T := TX10) (N := 18) hx hb hts hinX10 hown hK hW.1 0 rfl rfl 0 (by decide) hf7 (fun _ h9 => h9) rfl dX10_happenUpTo_37 ?_
        refine lv_bipush (v := (14 : Int32)) hx hb dX10_happenUpTo_40 (by decide) ?_
        refine q_iald (v := σ 1 14) C0 hW 1 rfl rfl vi_14_672 cl_14 rfl dX10_happenUpTo_42 ?_
        refine lv_aload_n hx hb dX10_happenUpTo_43 rfl (lv_at hl 0 rfl) ?_
        refine va_get (v := .int (σ 0 7)) (C := RX10) (T := TX10) (N := 18) hx hb hts hinX10 hown hK hW.1 0 rfl rfl 7 (by decide) hf26 (fun _ h9 => h9) rfl dX10_happenUpTo_44 ?_
        refine lv_icmp_ne (tgt := 55) hx hb dX10_happenUpTo_47 (by decide) (fun c_5 => ?_) (fun c_5 => ?_)
        · have hs := hs.2 c_5
          rw [if_neg c_5] at hR
          refine lv_iconst (v := (4 : Int32)) hx hb dX10_happenUpTo_55 (by decide) ?_
          refine lv_aload_n hx hb dX10_happenUpTo_56 rfl (lv_at hl 0 rfl) ?_
          refine lv_aload_n hx hb dX10_happenUpTo_57 rfl (lv_at hl 0 rfl) ?_
          refine va_get (v := .ref (a 1)) (C := RX10) (T := TX10) (N := 18) hx hb hts hinX10 hown hK hW.1 0 rfl rfl 0 (by decide) hf7 (fun _ h9 => h9) rfl dX10_happenUpTo_58 ?_
          refine lv_bipush (v := (14 : Int32)) hx hb dX10_happenUpTo_61 (by decide) ?_
          refine q_iald (v := σ 1 14) C0 hW 1 rfl rfl vi_14_672 cl_14 rfl dX10_happenUpTo_63 ?_
          refine lv_iconst (v := (0 : Int32)) hx hb dX10_happenUpTo_64 (by decide) ?_
          have hs6 := hs.1
          have hs := hs.2
          refine q_Vi (As := [.int (σ 1 14), .int (0 : Int32)]) (rest := [.int (4 : Int32), .ref (a 0)]) (R := P_X10_ofB σ (σ 1 14) (0 : Int32)) [0, 1, 2, 3, 4, 5, 6, 7, 8] [0, 1, 2, 3] 0 10 C0 hW (m_X10_ofB l D k a _ σ (σ 1 14) (0 : Int32) hs6) (cwV 2 hts gX10_happenUpTo_X10_ofB rfl rfl rfl hd_X10_ofB ⟨Nat.le_of_ble_eq_true rfl, Nat.le_of_ble_eq_true rfl⟩) (by decide) (wX10_pl k a _) rfl (wX10_rec k a _) rfl hl rfl rfl (Nat.le_of_ble_eq_true rfl) dX10_happenUpTo_65 ⟨Nat.le_refl 0, Nat.le_refl 0⟩ ?_
          refine lv_imul hx hb dX10_happenUpTo_68 ?_
          exact b_X10_happenUpTo_b69 l D k a A C0 R _ _ ih σ v1 ((4 : Int32) * (P_X10_ofB σ (σ 1 14) (0 : Int32))) hs hR H locs ls hW (lv_sub hl [0, 1] rfl)
        · have hs := hs.1 c_5
          rw [if_pos c_5] at hR
          refine lv_bipush (v := (-6 : Int32)) hx hb dX10_happenUpTo_50 (by decide) ?_
          refine lv_goto (tgt := 69) hx hb dX10_happenUpTo_52 (by decide) ?_
          exact b_X10_happenUpTo_b69 l D k a A C0 R _ _ ih σ v1 (-6 : Int32) hs hR H locs ls hW (lv_sub hl [0, 1] rfl)
set_option maxHeartbeats 400000 in
set_option maxRecDepth 100000 in
theorem m_X10_happenUpTo (l : Launch) (D : va_G) (k : Nat → ClassId) (a : Nat → Nat) (sz : Nat) (σ : T2) (p0 : Int32) (hs : S_X10_happenUpTo σ p0) : Met l yX10_happenUpTo wsX10_happenUpTo { frames := 4, cells := 0, slots := 0, locals := 97 } (va_Pc [.ref (a 0), .int p0] (q_B D (tyL k) (wX10 k a σ) sz)) (va_Qv (fun u => u = P_X10_happenUpTo σ p0) (fun u => q_E D (tyL k) (va_A (wX10 k a σ) sz) (wX10 k a u)) (va_A (wX10 k a σ) sz)) 0 0 (va_A (wX10 k a σ) sz) := by
  refine q_met [.ref (a 0), .int p0] (wX10 k a σ) sz (cc := cX10_happenUpTo) (maxL := 2) (ret := none) (by decide) rfl (Nat.le_of_ble_eq_true rfl) ?_
  intro p e s m args below meth c ls hsz C0 hW hl hin
  subst hsz
  exact b_X10_happenUpTo_b0 l D k a _ C0 _ FU σ p0 hs rfl s.heap [] ls hW (lv_sub hl [0, 1] rfl)
