theorem cl_1 : (1 : Int32).toNatClampNeg = 1 := by decide
theorem cl_5 : (5 : Int32).toNatClampNeg = 5 := by decide
theorem cl_6 : (6 : Int32).toNatClampNeg = 6 := by decide
theorem cl_9 : (9 : Int32).toNatClampNeg = 9 := by decide
theorem cl_10 : (10 : Int32).toNatClampNeg = 10 := by decide
theorem cl_12 : (12 : Int32).toNatClampNeg = 12 := by decide
theorem cl_16 : (16 : Int32).toNatClampNeg = 16 := by decide
theorem cl_17 : (17 : Int32).toNatClampNeg = 17 := by decide
theorem cl_19 : (19 : Int32).toNatClampNeg = 19 := by decide
theorem cl_20 : (20 : Int32).toNatClampNeg = 20 := by decide
theorem vi_1_672 : vp_in 1 672 := by unfold vp_in; decide
theorem vi_5_672 : vp_in 5 672 := by unfold vp_in; decide
theorem vi_6_672 : vp_in 6 672 := by unfold vp_in; decide
theorem vi_9_672 : vp_in 9 672 := by unfold vp_in; decide
theorem vi_10_672 : vp_in 10 672 := by unfold vp_in; decide
theorem vi_12_672 : vp_in 12 672 := by unfold vp_in; decide
theorem vi_16_672 : vp_in 16 672 := by unfold vp_in; decide
theorem vi_17_672 : vp_in 17 672 := by unfold vp_in; decide
theorem vi_19_672 : vp_in 19 672 := by unfold vp_in; decide
theorem vi_20_672 : vp_in 20 672 := by unfold vp_in; decide
theorem hd_X10_in : yX10_in.cls ≠ "java/lang/invoke/MethodHandle" ∧ yX10_in.cls ≠ "java/lang/invoke/VarHandle" ∧ (parseMethodDescriptor yX10_in.desc).map (fun d => d.parameters.length) = some 3 := by decide +kernel
noncomputable def P_X10_in_b0 (v0 : Int32) (v1 : Int32) (v2 : Int32) : Int32 := if v0 < v1 then ((0 : Int32)) else (if v2 < v0 then ((0 : Int32)) else ((1 : Int32)))
def S_X10_in_b0 (v0 : Int32) (v1 : Int32) (v2 : Int32) : Prop := (v0 < v1 → (True)) ∧ (¬ (v0 < v1) → ((v2 < v0 → (True)) ∧ (¬ (v2 < v0) → (True))))
theorem P_X10_in_b0_e (v0 : Int32) (v1 : Int32) (v2 : Int32) : P_X10_in_b0 v0 v1 v2 = if v0 < v1 then ((0 : Int32)) else (if v2 < v0 then ((0 : Int32)) else ((1 : Int32))) := rfl
theorem S_X10_in_b0_e (v0 : Int32) (v1 : Int32) (v2 : Int32) : S_X10_in_b0 v0 v1 v2 = ((v0 < v1 → (True)) ∧ (¬ (v0 < v1) → ((v2 < v0 → (True)) ∧ (¬ (v2 < v0) → (True))))) := rfl
noncomputable def P_X10_in (p0 : Int32) (p1 : Int32) (p2 : Int32) : Int32 := P_X10_in_b0 p0 p1 p2
def S_X10_in (p0 : Int32) (p1 : Int32) (p2 : Int32) : Prop := S_X10_in_b0 p0 p1 p2
set_option maxHeartbeats 400000 in
set_option maxRecDepth 100000 in
theorem b_X10_in_b0 {p : Program} {e : Env} {s : State} {m : MethodId} {args : Array Value} {below : List Frame} {meth : Method} {c : Code} (l : Launch) (C0 : q_C1 p s m meth c args RX10 cX10_in 3 (some .boolean) wsX10_in) (R : Int32) : ∀ (v0 : Int32) (v1 : Int32) (v2 : Int32), S_X10_in_b0 v0 v1 v2 → P_X10_in_b0 v0 v1 v2 = R → ∀ (H : Heap) (locs : List Loc) (ls : Array Slot), lv_has ls 3 [(0, .int v0), (1, .int v1), (2, .int v2)] → W p l e { frames := 0, cells := 0, slots := 0, locals := 0 } s m args below meth c s.heap [] 0 0 (MQ below (vp_Si (fun r => r = R)) args s 0 0 (fun _ => False)) (F0 m 0 ls []) := by
  intro v0 v1 v2 hs hR H locs ls hl
  rw [P_X10_in_b0_e] at hR
  rw [S_X10_in_b0_e] at hs
  obtain ⟨hx, hb, hr, hml, hts, hown, hlocks⟩ := id C0
  refine lv_iload_n hx hb dX10_in_0 rfl (lv_at hl 0 rfl) ?_
  refine lv_iload_n hx hb dX10_in_1 rfl (lv_at hl 1 rfl) ?_
  refine lv_icmp_lt (tgt := 14) hx hb dX10_in_2 (by decide) (fun c_1 => ?_) (fun c_1 => ?_)
  · have hs := hs.1 c_1
    rw [if_pos c_1] at hR
    refine lv_iconst (v := (0 : Int32)) hx hb dX10_in_14 (by decide) ?_
    exact q_zretrs C0 (by decide) hR dX10_in_15
  · have hs := hs.2 c_1
    rw [if_neg c_1] at hR
    refine lv_iload_n hx hb dX10_in_5 rfl (lv_at hl 0 rfl) ?_
    refine lv_iload_n hx hb dX10_in_6 rfl (lv_at hl 2 rfl) ?_
    refine lv_icmp_gt (tgt := 14) hx hb dX10_in_7 (by decide) (fun c_2 => ?_) (fun c_2 => ?_)
    · have hs := hs.1 c_2
      rw [if_pos c_2] at hR
      refine lv_iconst (v := (0 : Int32)) hx hb dX10_in_14 (by decide) ?_
      exact q_zretrs C0 (by decide) hR dX10_in_15
    · have hs := hs.2 c_2
      rw [if_neg c_2] at hR
      refine lv_iconst (v := (1 : Int32)) hx hb dX10_in_10 (by decide) ?_
      refine lv_goto (tgt := 15) hx hb dX10_in_11 (by decide) ?_
      exact q_zretrs C0 (by decide) hR dX10_in_15
set_option maxHeartbeats 400000 in
set_option maxRecDepth 100000 in
theorem m_X10_in (l : Launch) (p0 : Int32) (p1 : Int32) (p2 : Int32) (hs : S_X10_in p0 p1 p2) : Met l yX10_in wsX10_in { frames := 0, cells := 0, slots := 0, locals := 0 } (va_Pc [.int p0, .int p1, .int p2] (fun _ => True)) (vp_Si (fun r => r = P_X10_in p0 p1 p2)) 0 0 (fun _ => False) := by
  refine q_mets [.int p0, .int p1, .int p2] (cc := cX10_in) (maxL := 3) (ret := (some .boolean)) (by decide) rfl (Nat.le_of_ble_eq_true rfl) ?_
  intro p e s m args below meth c ls C0 hl
  exact b_X10_in_b0 l C0 _ p0 p1 p2 hs rfl s.heap [] ls (lv_sub hl [0, 1, 2] rfl)
theorem hd_X10_size : yX10_size.cls ≠ "java/lang/invoke/MethodHandle" ∧ yX10_size.cls ≠ "java/lang/invoke/VarHandle" ∧ (parseMethodDescriptor yX10_size.desc).map (fun d => d.parameters.length) = some 1 := by decide +kernel
noncomputable def P_X10_size_b0 (v0 : Int32) : Int32 := if 0 ≤ v0 then (v0) else (-v0)
def S_X10_size_b0 (v0 : Int32) : Prop := (0 ≤ v0 → (True)) ∧ (¬ (0 ≤ v0) → (True))
theorem P_X10_size_b0_e (v0 : Int32) : P_X10_size_b0 v0 = if 0 ≤ v0 then (v0) else (-v0) := rfl
theorem S_X10_size_b0_e (v0 : Int32) : S_X10_size_b0 v0 = ((0 ≤ v0 → (True)) ∧ (¬ (0 ≤ v0) → (True))) := rfl
noncomputable def P_X10_size (p0 : Int32) : Int32 := P_X10_size_b0 p0
def S_X10_size (p0 : Int32) : Prop := S_X10_size_b0 p0
set_option maxHeartbeats 400000 in
set_option maxRecDepth 100000 in
theorem b_X10_size_b0 {p : Program} {e : Env} {s : State} {m : MethodId} {args : Array Value} {below : List Frame} {meth : Method} {c : Code} (l : Launch) (C0 : q_C1 p s m meth c args RX10 cX10_size 1 (some .int) wsX10_size) (R : Int32) : ∀ (v0 : Int32), S_X10_size_b0 v0 → P_X10_size_b0 v0 = R → ∀ (H : Heap) (locs : List Loc) (ls : Array Slot), lv_has ls 1 [(0, .int v0)] → W p l e { frames := 0, cells := 0, slots := 0, locals := 0 } s m args below meth c s.heap [] 0 0 (MQ below (vp_Si (fun r => r = R)) args s 0 0 (fun _ => False)) (F0 m 0 ls []) := by
  intro v0 hs hR H locs ls hl
  rw [P_X10_size_b0_e] at hR
  rw [S_X10_size_b0_e] at hs
  obtain ⟨hx, hb, hr, hml, hts, hown, hlocks⟩ := id C0
  refine lv_iload_n hx hb dX10_size_0 rfl (lv_at hl 0 rfl) ?_
  refine lv_if_ge (tgt := 9) hx hb dX10_size_1 (by decide) (fun c_1 => ?_) (fun c_1 => ?_)
  · have hs := hs.1 c_1
    rw [if_pos c_1] at hR
    refine lv_iload_n hx hb dX10_size_9 rfl (lv_at hl 0 rfl) ?_
    exact q_iretrs C0 hR dX10_size_10
  · have hs := hs.2 c_1
    rw [if_neg c_1] at hR
    refine lv_iload_n hx hb dX10_size_4 rfl (lv_at hl 0 rfl) ?_
    refine lv_ineg hx hb dX10_size_5 ?_
    refine lv_goto (tgt := 10) hx hb dX10_size_6 (by decide) ?_
    exact q_iretrs C0 hR dX10_size_10
set_option maxHeartbeats 400000 in
set_option maxRecDepth 100000 in
theorem m_X10_size (l : Launch) (p0 : Int32) (hs : S_X10_size p0) : Met l yX10_size wsX10_size { frames := 0, cells := 0, slots := 0, locals := 0 } (va_Pc [.int p0] (fun _ => True)) (vp_Si (fun r => r = P_X10_size p0)) 0 0 (fun _ => False) := by
  refine q_mets [.int p0] (cc := cX10_size) (maxL := 1) (ret := (some .int)) (by decide) rfl (Nat.le_of_ble_eq_true rfl) ?_
  intro p e s m args below meth c ls C0 hl
  exact b_X10_size_b0 l C0 _ p0 hs rfl s.heap [] ls (lv_sub hl [0] rfl)
theorem hd_X10_part : yX10_part.cls ≠ "java/lang/invoke/MethodHandle" ∧ yX10_part.cls ≠ "java/lang/invoke/VarHandle" ∧ (parseMethodDescriptor yX10_part.desc).map (fun d => d.parameters.length) = some 2 := by decide +kernel
noncomputable def P_X10_part_b0 (v0 : Int32) (v1 : Int32) : Int32 := if v0 < 0 then (-(((v1 - (1 : Int32)) - v0) / v1)) else (v0 / v1)
def S_X10_part_b0 (v0 : Int32) (v1 : Int32) : Prop := (v0 < 0 → ((¬ v1 = 0) ∧ (True))) ∧ (¬ (v0 < 0) → ((¬ v1 = 0) ∧ (True)))
theorem P_X10_part_b0_e (v0 : Int32) (v1 : Int32) : P_X10_part_b0 v0 v1 = if v0 < 0 then (-(((v1 - (1 : Int32)) - v0) / v1)) else (v0 / v1) := rfl
theorem S_X10_part_b0_e (v0 : Int32) (v1 : Int32) : S_X10_part_b0 v0 v1 = ((v0 < 0 → ((¬ v1 = 0) ∧ (True))) ∧ (¬ (v0 < 0) → ((¬ v1 = 0) ∧ (True)))) := rfl
noncomputable def P_X10_part (p0 : Int32) (p1 : Int32) : Int32 := P_X10_part_b0 p0 p1
def S_X10_part (p0 : Int32) (p1 : Int32) : Prop := S_X10_part_b0 p0 p1
set_option maxHeartbeats 400000 in
set_option maxRecDepth 100000 in
theorem b_X10_part_b0 {p : Program} {e : Env} {s : State} {m : MethodId} {args : Array Value} {below : List Frame} {meth : Method} {c : Code} (l : Launch) (C0 : q_C1 p s m meth c args RX10 cX10_part 2 (some .int) wsX10_part) (R : Int32) : ∀ (v0 : Int32) (v1 : Int32), S_X10_part_b0 v0 v1 → P_X10_part_b0 v0 v1 = R → ∀ (H : Heap) (locs : List Loc) (ls : Array Slot), lv_has ls 2 [(0, .int v0), (1, .int v1)] → W p l e { frames := 0, cells := 0, slots := 0, locals := 0 } s m args below meth c s.heap [] 0 0 (MQ below (vp_Si (fun r => r = R)) args s 0 0 (fun _ => False)) (F0 m 0 ls []) := by
  intro v0 v1 hs hR H locs ls hl
  rw [P_X10_part_b0_e] at hR
  rw [S_X10_part_b0_e] at hs
  obtain ⟨hx, hb, hr, hml, hts, hown, hlocks⟩ := id C0
  refine lv_iload_n hx hb dX10_part_0 rfl (lv_at hl 0 rfl) ?_
  refine lv_if_lt (tgt := 10) hx hb dX10_part_1 (by decide) (fun c_1 => ?_) (fun c_1 => ?_)
  · have hs := hs.1 c_1
    rw [if_pos c_1] at hR
    refine lv_iload_n hx hb dX10_part_10 rfl (lv_at hl 1 rfl) ?_
    refine lv_iconst (v := (1 : Int32)) hx hb dX10_part_11 (by decide) ?_
    refine lv_isub hx hb dX10_part_12 ?_
    refine lv_iload_n hx hb dX10_part_13 rfl (lv_at hl 0 rfl) ?_
    refine lv_isub hx hb dX10_part_14 ?_
    refine lv_iload_n hx hb dX10_part_15 rfl (lv_at hl 1 rfl) ?_
    have hz2 := hs.1
    have hs := hs.2
    refine lv_idiv hx hb dX10_part_16 hz2 ?_
    refine lv_ineg hx hb dX10_part_17 ?_
    exact q_iretrs C0 hR dX10_part_18
  · have hs := hs.2 c_1
    rw [if_neg c_1] at hR
    refine lv_iload_n hx hb dX10_part_4 rfl (lv_at hl 0 rfl) ?_
    refine lv_iload_n hx hb dX10_part_5 rfl (lv_at hl 1 rfl) ?_
    have hz3 := hs.1
    have hs := hs.2
    refine lv_idiv hx hb dX10_part_6 hz3 ?_
    refine lv_goto (tgt := 18) hx hb dX10_part_7 (by decide) ?_
    exact q_iretrs C0 hR dX10_part_18
set_option maxHeartbeats 400000 in
set_option maxRecDepth 100000 in
theorem m_X10_part (l : Launch) (p0 : Int32) (p1 : Int32) (hs : S_X10_part p0 p1) : Met l yX10_part wsX10_part { frames := 0, cells := 0, slots := 0, locals := 0 } (va_Pc [.int p0, .int p1] (fun _ => True)) (vp_Si (fun r => r = P_X10_part p0 p1)) 0 0 (fun _ => False) := by
  refine q_mets [.int p0, .int p1] (cc := cX10_part) (maxL := 2) (ret := (some .int)) (by decide) rfl (Nat.le_of_ble_eq_true rfl) ?_
  intro p e s m args below meth c ls C0 hl
  exact b_X10_part_b0 l C0 _ p0 p1 hs rfl s.heap [] ls (lv_sub hl [0, 1] rfl)
theorem hin_X10_ofB_X10 : ∀ w ∈ u_ws RX10 TX10 18, w ∈ wsX10_ofB := by decide +kernel
theorem hd_X10_ofB : yX10_ofB.cls = RX10 ∧ yX10_ofB.cls ≠ "java/lang/invoke/MethodHandle" ∧ yX10_ofB.cls ≠ "java/lang/invoke/VarHandle" ∧ (parseMethodDescriptor yX10_ofB.desc).map (fun d => d.parameters.length) = some 2 := by decide +kernel
noncomputable def P_X10_ofB_b0 (σ : T2) (v1 : Int32) (v2 : Int32) : Int32 := σ 1 ((((32 : Int32) + ((6 : Int32) * v1)) + v2).toNatClampNeg)
def S_X10_ofB_b0 (σ : T2) (v1 : Int32) (v2 : Int32) : Prop := (vp_in (((32 : Int32) + ((6 : Int32) * v1)) + v2) 672) ∧ (True)
theorem P_X10_ofB_b0_e (σ : T2) (v1 : Int32) (v2 : Int32) : P_X10_ofB_b0 σ v1 v2 = σ 1 ((((32 : Int32) + ((6 : Int32) * v1)) + v2).toNatClampNeg) := rfl
theorem S_X10_ofB_b0_e (σ : T2) (v1 : Int32) (v2 : Int32) : S_X10_ofB_b0 σ v1 v2 = ((vp_in (((32 : Int32) + ((6 : Int32) * v1)) + v2) 672) ∧ (True)) := rfl
noncomputable def P_X10_ofB (σ : T2) (p0 : Int32) (p1 : Int32) : Int32 := P_X10_ofB_b0 σ p0 p1
def S_X10_ofB (σ : T2) (p0 : Int32) (p1 : Int32) : Prop := S_X10_ofB_b0 σ p0 p1
set_option maxHeartbeats 400000 in
set_option maxRecDepth 100000 in
theorem b_X10_ofB_b0 {p : Program} {e : Env} {s : State} {m : MethodId} {args : Array Value} {below : List Frame} {meth : Method} {c : Code} (l : Launch) (D : va_G) (k : Nat → ClassId) (a : Nat → Nat) (A : Nat → Prop) (C0 : q_C p s m meth c args RX10 cX10_ofB 3 (some .int) wsX10_ofB D (tyL k) A) (R : Int32) : ∀ (σ : T2) (v1 : Int32) (v2 : Int32), S_X10_ofB_b0 σ v1 v2 → P_X10_ofB_b0 σ v1 v2 = R → ∀ (H : Heap) (locs : List Loc) (ls : Array Slot), q_W D A s.heap (wX10 k a σ) s.heap [] → lv_has ls 3 [(0, .ref (a 0)), (1, .int v1), (2, .int v2)] → W p l e { frames := 0, cells := 0, slots := 0, locals := 0 } s m args below meth c s.heap [] 0 0 (MQ below (vp_Si (fun r => r = R)) args s 0 0 (fun _ => False)) (F0 m 0 ls []) := by
  intro σ v1 v2 hs hR H locs ls hW hl
  rw [P_X10_ofB_b0_e] at hR
  rw [S_X10_ofB_b0_e] at hs
  obtain ⟨hx, hb, hr, hml, hts, hown, hlocks, hK, hA⟩ := id C0
  have hf7 := hts (.fieldLink RX10 7 "BeatFollowerModel" "at" "[I") (by decide +kernel)
  have hinX10 : ∀ w ∈ u_ws RX10 TX10 18, w ∈ wsX10_ofB := hin_X10_ofB_X10
  refine lv_aload_n hx hb dX10_ofB_0 rfl (lv_at hl 0 rfl) ?_
  refine va_get (v := .ref (a 1)) (C := RX10) (T := TX10) (N := 18) hx hb hts hinX10 hown hK hW.1 0 rfl rfl 0 (by decide) hf7 (fun _ h9 => h9) rfl dX10_ofB_1 ?_
  refine lv_bipush (v := (32 : Int32)) hx hb dX10_ofB_4 (by decide) ?_
  refine lv_bipush (v := (6 : Int32)) hx hb dX10_ofB_6 (by decide) ?_
  refine lv_iload_n hx hb dX10_ofB_8 rfl (lv_at hl 1 rfl) ?_
  refine lv_imul hx hb dX10_ofB_9 ?_
  refine lv_iadd hx hb dX10_ofB_10 ?_
  refine lv_iload_n hx hb dX10_ofB_11 rfl (lv_at hl 2 rfl) ?_
  refine lv_iadd hx hb dX10_ofB_12 ?_
  have hi1 := hs.1
  have hs := hs.2
  refine q_iald (v := σ 1 ((((32 : Int32) + ((6 : Int32) * v1)) + v2).toNatClampNeg)) C0 hW 1 rfl rfl hi1 rfl rfl dX10_ofB_13 ?_
  exact q_iretr C0 hR dX10_ofB_14
set_option maxHeartbeats 400000 in
set_option maxRecDepth 100000 in
theorem m_X10_ofB (l : Launch) (D : va_G) (k : Nat → ClassId) (a : Nat → Nat) (sz : Nat) (σ : T2) (p0 : Int32) (p1 : Int32) (hs : S_X10_ofB σ p0 p1) : Met l yX10_ofB wsX10_ofB { frames := 0, cells := 0, slots := 0, locals := 0 } (va_Pc [.ref (a 0), .int p0, .int p1] (q_B D (tyL k) (wX10 k a σ) sz)) (vp_Si (fun r => r = P_X10_ofB σ p0 p1)) 0 0 (fun _ => False) := by
  refine q_met [.ref (a 0), .int p0, .int p1] (wX10 k a σ) sz (cc := cX10_ofB) (maxL := 3) (ret := (some .int)) (by decide) rfl (Nat.le_of_ble_eq_true rfl) ?_
  intro p e s m args below meth c ls hsz C0 hW hl hin
  subst hsz
  exact b_X10_ofB_b0 l D k a _ C0 _ σ p0 p1 hs rfl s.heap [] ls hW (lv_sub hl [0, 1, 2] rfl)
theorem hin_X10_layB_X10 : ∀ w ∈ u_ws RX10 TX10 18, w ∈ wsX10_layB := by decide +kernel
theorem hd_X10_layB : yX10_layB.cls = RX10 ∧ yX10_layB.cls ≠ "java/lang/invoke/MethodHandle" ∧ yX10_layB.cls ≠ "java/lang/invoke/VarHandle" ∧ (parseMethodDescriptor yX10_layB.desc).map (fun d => d.parameters.length) = some 3 := by decide +kernel
noncomputable def P_X10_layB_b0 (σ : T2) (v1 : Int32) (v2 : Int32) (v3 : Int32) : T2 := u2 σ 1 (upd (σ 1) ((((32 : Int32) + ((6 : Int32) * v1)) + v2).toNatClampNeg) v3)
def S_X10_layB_b0 (σ : T2) (v1 : Int32) (v2 : Int32) (v3 : Int32) : Prop := (vp_in (((32 : Int32) + ((6 : Int32) * v1)) + v2) 672) ∧ (True)
theorem P_X10_layB_b0_e (σ : T2) (v1 : Int32) (v2 : Int32) (v3 : Int32) : P_X10_layB_b0 σ v1 v2 v3 = u2 σ 1 (upd (σ 1) ((((32 : Int32) + ((6 : Int32) * v1)) + v2).toNatClampNeg) v3) := rfl
theorem S_X10_layB_b0_e (σ : T2) (v1 : Int32) (v2 : Int32) (v3 : Int32) : S_X10_layB_b0 σ v1 v2 v3 = ((vp_in (((32 : Int32) + ((6 : Int32) * v1)) + v2) 672) ∧ (True)) := rfl
noncomputable def P_X10_layB (σ : T2) (p0 : Int32) (p1 : Int32) (p2 : Int32) : T2 := P_X10_layB_b0 σ p0 p1 p2
def S_X10_layB (σ : T2) (p0 : Int32) (p1 : Int32) (p2 : Int32) : Prop := S_X10_layB_b0 σ p0 p1 p2
set_option maxHeartbeats 400000 in
set_option maxRecDepth 100000 in
theorem b_X10_layB_b0 {p : Program} {e : Env} {s : State} {m : MethodId} {args : Array Value} {below : List Frame} {meth : Method} {c : Code} (l : Launch) (D : va_G) (k : Nat → ClassId) (a : Nat → Nat) (A : Nat → Prop) (C0 : q_C p s m meth c args RX10 cX10_layB 4 none wsX10_layB D (tyL k) A) (R : T2) : ∀ (σ : T2) (v1 : Int32) (v2 : Int32) (v3 : Int32), S_X10_layB_b0 σ v1 v2 v3 → P_X10_layB_b0 σ v1 v2 v3 = R → ∀ (H : Heap) (locs : List Loc) (ls : Array Slot), q_W D A s.heap (wX10 k a σ) H locs → lv_has ls 4 [(0, .ref (a 0)), (1, .int v1), (2, .int v2), (3, .int v3)] → W p l e { frames := 0, cells := 0, slots := 0, locals := 0 } s m args below meth c H locs 0 0 (MQ below (va_Qv (fun u => u = R) (fun u => q_E D (tyL k) A (wX10 k a u)) A) args s 0 0 A) (F0 m 0 ls []) := by
  intro σ v1 v2 v3 hs hR H locs ls hW hl
  rw [P_X10_layB_b0_e] at hR
  rw [S_X10_layB_b0_e] at hs
  obtain ⟨hx, hb, hr, hml, hts, hown, hlocks, hK, hA⟩ := id C0
  have hf7 := hts (.fieldLink RX10 7 "BeatFollowerModel" "at" "[I") (by decide +kernel)
  have hinX10 : ∀ w ∈ u_ws RX10 TX10 18, w ∈ wsX10_layB := hin_X10_layB_X10
  refine lv_aload_n hx hb dX10_layB_0 rfl (lv_at hl 0 rfl) ?_
  refine va_get (v := .ref (a 1)) (C := RX10) (T := TX10) (N := 18) hx hb hts hinX10 hown hK hW.1 0 rfl rfl 0 (by decide) hf7 (fun _ h9 => h9) rfl dX10_layB_1 ?_
  refine lv_bipush (v := (32 : Int32)) hx hb dX10_layB_4 (by decide) ?_
  refine lv_bipush (v := (6 : Int32)) hx hb dX10_layB_6 (by decide) ?_
  refine lv_iload_n hx hb dX10_layB_8 rfl (lv_at hl 1 rfl) ?_
  refine lv_imul hx hb dX10_layB_9 ?_
  refine lv_iadd hx hb dX10_layB_10 ?_
  refine lv_iload_n hx hb dX10_layB_11 rfl (lv_at hl 2 rfl) ?_
  refine lv_iadd hx hb dX10_layB_12 ?_
  refine lv_iload_n hx hb dX10_layB_13 rfl (lv_at hl 3 rfl) ?_
  have hi1 := hs.1
  have hs := hs.2
  refine q_iast (f := σ 1) (wd' := wX10 k a (u2 σ 1 (upd (σ 1) ((((32 : Int32) + ((6 : Int32) * v1)) + v2).toNatClampNeg) v3))) C0 hW 1 rfl rfl hi1 rfl dX10_layB_14 (wX10_s1 k a _ _) (fun H locs hW => ?_)
  exact q_vret C0 hW hR dX10_layB_15
set_option maxHeartbeats 400000 in
set_option maxRecDepth 100000 in
theorem m_X10_layB (l : Launch) (D : va_G) (k : Nat → ClassId) (a : Nat → Nat) (sz : Nat) (σ : T2) (p0 : Int32) (p1 : Int32) (p2 : Int32) (hs : S_X10_layB σ p0 p1 p2) : Met l yX10_layB wsX10_layB { frames := 0, cells := 0, slots := 0, locals := 0 } (va_Pc [.ref (a 0), .int p0, .int p1, .int p2] (q_B D (tyL k) (wX10 k a σ) sz)) (va_Qv (fun u => u = P_X10_layB σ p0 p1 p2) (fun u => q_E D (tyL k) (va_A (wX10 k a σ) sz) (wX10 k a u)) (va_A (wX10 k a σ) sz)) 0 0 (va_A (wX10 k a σ) sz) := by
  refine q_met [.ref (a 0), .int p0, .int p1, .int p2] (wX10 k a σ) sz (cc := cX10_layB) (maxL := 4) (ret := none) (by decide) rfl (Nat.le_of_ble_eq_true rfl) ?_
  intro p e s m args below meth c ls hsz C0 hW hl hin
  subst hsz
  exact b_X10_layB_b0 l D k a _ C0 _ σ p0 p1 p2 hs rfl s.heap [] ls hW (lv_sub hl [0, 1, 2, 3] rfl)
theorem hin_X10_halfWindow_X10 : ∀ w ∈ u_ws RX10 TX10 18, w ∈ wsX10_halfWindow := by decide +kernel
theorem hd_X10_halfWindow : yX10_halfWindow.cls = RX10 ∧ yX10_halfWindow.cls ≠ "java/lang/invoke/MethodHandle" ∧ yX10_halfWindow.cls ≠ "java/lang/invoke/VarHandle" ∧ (parseMethodDescriptor yX10_halfWindow.desc).map (fun d => d.parameters.length) = some 0 := by decide +kernel
noncomputable def P_X10_halfWindow_b0 (σ : T2) : Int32 := ((σ 1 10) * (σ 1 1)) / (100 : Int32)
def S_X10_halfWindow_b0 (σ : T2) : Prop := True
theorem P_X10_halfWindow_b0_e (σ : T2) : P_X10_halfWindow_b0 σ = ((σ 1 10) * (σ 1 1)) / (100 : Int32) := rfl
theorem S_X10_halfWindow_b0_e (σ : T2) : S_X10_halfWindow_b0 σ = (True) := rfl
noncomputable def P_X10_halfWindow (σ : T2) : Int32 := P_X10_halfWindow_b0 σ
def S_X10_halfWindow (σ : T2) : Prop := S_X10_halfWindow_b0 σ
set_option maxHeartbeats 400000 in
set_option maxRecDepth 100000 in
theorem b_X10_halfWindow_b0 {p : Program} {e : Env} {s : State} {m : MethodId} {args : Array Value} {below : List Frame} {meth : Method} {c : Code} (l : Launch) (D : va_G) (k : Nat → ClassId) (a : Nat → Nat) (A : Nat → Prop) (C0 : q_C p s m meth c args RX10 cX10_halfWindow 1 (some .int) wsX10_halfWindow D (tyL k) A) (R : Int32) : ∀ (σ : T2), S_X10_halfWindow_b0 σ → P_X10_halfWindow_b0 σ = R → ∀ (H : Heap) (locs : List Loc) (ls : Array Slot), q_W D A s.heap (wX10 k a σ) s.heap [] → lv_has ls 1 [(0, .ref (a 0))] → W p l e { frames := 0, cells := 0, slots := 0, locals := 0 } s m args below meth c s.heap [] 0 0 (MQ below (vp_Si (fun r => r = R)) args s 0 0 (fun _ => False)) (F0 m 0 ls []) := by
  intro σ hs hR H locs ls hW hl
  rw [P_X10_halfWindow_b0_e] at hR
  rw [S_X10_halfWindow_b0_e] at hs
  obtain ⟨hx, hb, hr, hml, hts, hown, hlocks, hK, hA⟩ := id C0
  have hf7 := hts (.fieldLink RX10 7 "BeatFollowerModel" "at" "[I") (by decide +kernel)
  have hinX10 : ∀ w ∈ u_ws RX10 TX10 18, w ∈ wsX10_halfWindow := hin_X10_halfWindow_X10
  refine lv_aload_n hx hb dX10_halfWindow_0 rfl (lv_at hl 0 rfl) ?_
  refine va_get (v := .ref (a 1)) (C := RX10) (T := TX10) (N := 18) hx hb hts hinX10 hown hK hW.1 0 rfl rfl 0 (by decide) hf7 (fun _ h9 => h9) rfl dX10_halfWindow_1 ?_
  refine lv_bipush (v := (10 : Int32)) hx hb dX10_halfWindow_4 (by decide) ?_
  refine q_iald (v := σ 1 10) C0 hW 1 rfl rfl vi_10_672 cl_10 rfl dX10_halfWindow_6 ?_
  refine lv_aload_n hx hb dX10_halfWindow_7 rfl (lv_at hl 0 rfl) ?_
  refine va_get (v := .ref (a 1)) (C := RX10) (T := TX10) (N := 18) hx hb hts hinX10 hown hK hW.1 0 rfl rfl 0 (by decide) hf7 (fun _ h9 => h9) rfl dX10_halfWindow_8 ?_
  refine lv_iconst (v := (1 : Int32)) hx hb dX10_halfWindow_11 (by decide) ?_
  refine q_iald (v := σ 1 1) C0 hW 1 rfl rfl vi_1_672 cl_1 rfl dX10_halfWindow_12 ?_
  refine lv_imul hx hb dX10_halfWindow_13 ?_
  refine lv_bipush (v := (100 : Int32)) hx hb dX10_halfWindow_14 (by decide) ?_
  refine lv_idiv hx hb dX10_halfWindow_16 (by decide) ?_
  exact q_iretr C0 hR dX10_halfWindow_17
set_option maxHeartbeats 400000 in
set_option maxRecDepth 100000 in
theorem m_X10_halfWindow (l : Launch) (D : va_G) (k : Nat → ClassId) (a : Nat → Nat) (sz : Nat) (σ : T2) (hs : S_X10_halfWindow σ) : Met l yX10_halfWindow wsX10_halfWindow { frames := 0, cells := 0, slots := 0, locals := 0 } (va_Pc [.ref (a 0)] (q_B D (tyL k) (wX10 k a σ) sz)) (vp_Si (fun r => r = P_X10_halfWindow σ)) 0 0 (fun _ => False) := by
  refine q_met [.ref (a 0)] (wX10 k a σ) sz (cc := cX10_halfWindow) (maxL := 1) (ret := (some .int)) (by decide) rfl (Nat.le_of_ble_eq_true rfl) ?_
  intro p e s m args below meth c ls hsz C0 hW hl hin
  subst hsz
  exact b_X10_halfWindow_b0 l D k a _ C0 _ σ  hs rfl s.heap [] ls hW (lv_sub hl [0] rfl)
theorem hin_X10_strike_X10 : ∀ w ∈ u_ws RX10 TX10 18, w ∈ wsX10_strike := by decide +kernel
theorem hd_X10_strike : yX10_strike.cls = RX10 ∧ yX10_strike.cls ≠ "java/lang/invoke/MethodHandle" ∧ yX10_strike.cls ≠ "java/lang/invoke/VarHandle" ∧ (parseMethodDescriptor yX10_strike.desc).map (fun d => d.parameters.length) = some 2 := by decide +kernel
noncomputable def P_X10_strike_b20n (σ : T2) (v1 : Int32) (v2 : Int32) (v3 : Int32) (v4 : Int32) : Int32 × T2 := (v3, u2 σ 1 (upd (upd (upd (σ 1) v4.toNatClampNeg v1) ((v4 + (1 : Int32)).toNatClampNeg) v2) 12 (((upd (upd (σ 1) v4.toNatClampNeg v1) ((v4 + (1 : Int32)).toNatClampNeg) v2) 12) + (1 : Int32))))
def S_X10_strike_b20n (σ : T2) (v1 : Int32) (v2 : Int32) (v3 : Int32) (v4 : Int32) : Prop := (vp_in v4 672) ∧ ((vp_in (v4 + (1 : Int32)) 672) ∧ (True))
theorem P_X10_strike_b20n_e (σ : T2) (v1 : Int32) (v2 : Int32) (v3 : Int32) (v4 : Int32) : P_X10_strike_b20n σ v1 v2 v3 v4 = (v3, u2 σ 1 (upd (upd (upd (σ 1) v4.toNatClampNeg v1) ((v4 + (1 : Int32)).toNatClampNeg) v2) 12 (((upd (upd (σ 1) v4.toNatClampNeg v1) ((v4 + (1 : Int32)).toNatClampNeg) v2) 12) + (1 : Int32)))) := rfl
theorem S_X10_strike_b20n_e (σ : T2) (v1 : Int32) (v2 : Int32) (v3 : Int32) (v4 : Int32) : S_X10_strike_b20n σ v1 v2 v3 v4 = ((vp_in v4 672) ∧ ((vp_in (v4 + (1 : Int32)) 672) ∧ (True))) := rfl
noncomputable def P_X10_strike_b0 (σ : T2) (v1 : Int32) (v2 : Int32) : Int32 × T2 := P_X10_strike_b20n σ v1 v2 (σ 1 12) ((416 : Int32) + ((4 : Int32) * ((σ 1 12) - (σ 1 12) / (64 : Int32) * (64 : Int32))))
def S_X10_strike_b0 (σ : T2) (v1 : Int32) (v2 : Int32) : Prop := S_X10_strike_b20n σ v1 v2 (σ 1 12) ((416 : Int32) + ((4 : Int32) * ((σ 1 12) - (σ 1 12) / (64 : Int32) * (64 : Int32))))
theorem P_X10_strike_b0_e (σ : T2) (v1 : Int32) (v2 : Int32) : P_X10_strike_b0 σ v1 v2 = P_X10_strike_b20n σ v1 v2 (σ 1 12) ((416 : Int32) + ((4 : Int32) * ((σ 1 12) - (σ 1 12) / (64 : Int32) * (64 : Int32)))) := rfl
theorem S_X10_strike_b0_e (σ : T2) (v1 : Int32) (v2 : Int32) : S_X10_strike_b0 σ v1 v2 = (S_X10_strike_b20n σ v1 v2 (σ 1 12) ((416 : Int32) + ((4 : Int32) * ((σ 1 12) - (σ 1 12) / (64 : Int32) * (64 : Int32))))) := rfl
noncomputable def P_X10_strike (σ : T2) (p0 : Int32) (p1 : Int32) : Int32 × T2 := P_X10_strike_b0 σ p0 p1
def S_X10_strike (σ : T2) (p0 : Int32) (p1 : Int32) : Prop := S_X10_strike_b0 σ p0 p1
set_option maxHeartbeats 400000 in
set_option maxRecDepth 100000 in
theorem b_X10_strike_b20n {p : Program} {e : Env} {s : State} {m : MethodId} {args : Array Value} {below : List Frame} {meth : Method} {c : Code} (l : Launch) (D : va_G) (k : Nat → ClassId) (a : Nat → Nat) (A : Nat → Prop) (C0 : q_C p s m meth c args RX10 cX10_strike 5 (some .int) wsX10_strike D (tyL k) A) (R : Int32 × T2) : ∀ (σ : T2) (v1 : Int32) (v2 : Int32) (v3 : Int32) (v4 : Int32), S_X10_strike_b20n σ v1 v2 v3 v4 → P_X10_strike_b20n σ v1 v2 v3 v4 = R → ∀ (H : Heap) (locs : List Loc) (ls : Array Slot), q_W D A s.heap (wX10 k a σ) H locs → lv_has ls 5 [(0, .ref (a 0)), (1, .int v1), (2, .int v2), (3, .int v3), (4, .int v4)] → W p l e { frames := 0, cells := 0, slots := 0, locals := 0 } s m args below meth c H locs 0 0 (MQ below (va_Qi (fun r u => (r, u) = R) (fun u => q_E D (tyL k) A (wX10 k a u)) A) args s 0 0 A) (F0 m 20 ls []) := by
  intro σ v1 v2 v3 v4 hs hR H locs ls hW hl
  rw [P_X10_strike_b20n_e] at hR
  rw [S_X10_strike_b20n_e] at hs
  obtain ⟨hx, hb, hr, hml, hts, hown, hlocks, hK, hA⟩ := id C0
  have hf7 := hts (.fieldLink RX10 7 "BeatFollowerModel" "at" "[I") (by decide +kernel)
  have hinX10 : ∀ w ∈ u_ws RX10 TX10 18, w ∈ wsX10_strike := hin_X10_strike_X10
  refine lv_aload_n hx hb dX10_strike_20 rfl (lv_at hl 0 rfl) ?_
  refine va_get (v := .ref (a 1)) (C := RX10) (T := TX10) (N := 18) hx hb hts hinX10 hown hK hW.1 0 rfl rfl 0 (by decide) hf7 (fun _ h9 => h9) rfl dX10_strike_21 ?_
  refine lv_iload hx hb dX10_strike_24 (lv_at hl 4 rfl) ?_
  refine lv_iload_n hx hb dX10_strike_26 rfl (lv_at hl 1 rfl) ?_
  have hi1 := hs.1
  have hs := hs.2
  refine q_iast (f := σ 1) (wd' := wX10 k a (u2 σ 1 (upd (σ 1) v4.toNatClampNeg v1))) C0 hW 1 rfl rfl hi1 rfl dX10_strike_27 (wX10_s1 k a _ _) (fun H locs hW => ?_)
  refine lv_aload_n hx hb dX10_strike_28 rfl (lv_at hl 0 rfl) ?_
  refine va_get (v := .ref (a 1)) (C := RX10) (T := TX10) (N := 18) hx hb hts hinX10 hown hK hW.1 0 rfl rfl 0 (by decide) hf7 (fun _ h9 => h9) rfl dX10_strike_29 ?_
  refine lv_iload hx hb dX10_strike_32 (lv_at hl 4 rfl) ?_
  refine lv_iconst (v := (1 : Int32)) hx hb dX10_strike_34 (by decide) ?_
  refine lv_iadd hx hb dX10_strike_35 ?_
  refine lv_iload_n hx hb dX10_strike_36 rfl (lv_at hl 2 rfl) ?_
  have hi2 := hs.1
  have hs := hs.2
  refine q_iast (f := upd (σ 1) v4.toNatClampNeg v1) (wd' := wX10 k a (u2 σ 1 (upd (upd (σ 1) v4.toNatClampNeg v1) ((v4 + (1 : Int32)).toNatClampNeg) v2))) C0 hW 1 rfl rfl hi2 rfl dX10_strike_37 ((wX10_s1 k a _ _).trans (congrArg (wX10 k a) (u2_same _ _ _ _))) (fun H locs hW => ?_)
  refine lv_aload_n hx hb dX10_strike_38 rfl (lv_at hl 0 rfl) ?_
  refine va_get (v := .ref (a 1)) (C := RX10) (T := TX10) (N := 18) hx hb hts hinX10 hown hK hW.1 0 rfl rfl 0 (by decide) hf7 (fun _ h9 => h9) rfl dX10_strike_39 ?_
  refine lv_bipush (v := (12 : Int32)) hx hb dX10_strike_42 (by decide) ?_
  refine lv_dup2_11 hx hb dX10_strike_44 rfl rfl ?_
  refine q_iald (v := (upd (upd (σ 1) v4.toNatClampNeg v1) ((v4 + (1 : Int32)).toNatClampNeg) v2) 12) C0 hW 1 rfl rfl vi_12_672 cl_12 rfl dX10_strike_45 ?_
  refine lv_iconst (v := (1 : Int32)) hx hb dX10_strike_46 (by decide) ?_
  refine lv_iadd hx hb dX10_strike_47 ?_
  refine q_iast (f := upd (upd (σ 1) v4.toNatClampNeg v1) ((v4 + (1 : Int32)).toNatClampNeg) v2) (wd' := wX10 k a (u2 σ 1 (upd (upd (upd (σ 1) v4.toNatClampNeg v1) ((v4 + (1 : Int32)).toNatClampNeg) v2) 12 (((upd (upd (σ 1) v4.toNatClampNeg v1) ((v4 + (1 : Int32)).toNatClampNeg) v2) 12) + (1 : Int32))))) C0 hW 1 rfl rfl vi_12_672 cl_12 dX10_strike_48 ((wX10_s1 k a _ _).trans (congrArg (wX10 k a) (u2_same _ _ _ _))) (fun H locs hW => ?_)
  refine lv_iload_n hx hb dX10_strike_49 rfl (lv_at hl 3 rfl) ?_
  exact q_iret C0 hW hR dX10_strike_50
set_option maxHeartbeats 400000 in
set_option maxRecDepth 100000 in
theorem b_X10_strike_b0 {p : Program} {e : Env} {s : State} {m : MethodId} {args : Array Value} {below : List Frame} {meth : Method} {c : Code} (l : Launch) (D : va_G) (k : Nat → ClassId) (a : Nat → Nat) (A : Nat → Prop) (C0 : q_C p s m meth c args RX10 cX10_strike 5 (some .int) wsX10_strike D (tyL k) A) (R : Int32 × T2) : ∀ (σ : T2) (v1 : Int32) (v2 : Int32), S_X10_strike_b0 σ v1 v2 → P_X10_strike_b0 σ v1 v2 = R → ∀ (H : Heap) (locs : List Loc) (ls : Array Slot), q_W D A s.heap (wX10 k a σ) H locs → lv_has ls 5 [(0, .ref (a 0)), (1, .int v1), (2, .int v2)] → W p l e { frames := 0, cells := 0, slots := 0, locals := 0 } s m args below meth c H locs 0 0 (MQ below (va_Qi (fun r u => (r, u) = R) (fun u => q_E D (tyL k) A (wX10 k a u)) A) args s 0 0 A) (F0 m 0 ls []) := by
  intro σ v1 v2 hs hR H locs ls hW hl
  rw [P_X10_strike_b0_e] at hR
  rw [S_X10_strike_b0_e] at hs
  obtain ⟨hx, hb, hr, hml, hts, hown, hlocks, hK, hA⟩ := id C0
  have hf7 := hts (.fieldLink RX10 7 "BeatFollowerModel" "at" "[I") (by decide +kernel)
  have hinX10 : ∀ w ∈ u_ws RX10 TX10 18, w ∈ wsX10_strike := hin_X10_strike_X10
  refine lv_aload_n hx hb dX10_strike_0 rfl (lv_at hl 0 rfl) ?_
  refine va_get (v := .ref (a 1)) (C := RX10) (T := TX10) (N := 18) hx hb hts hinX10 hown hK hW.1 0 rfl rfl 0 (by decide) hf7 (fun _ h9 => h9) rfl dX10_strike_1 ?_
  refine lv_bipush (v := (12 : Int32)) hx hb dX10_strike_4 (by decide) ?_
  refine q_iald (v := σ 1 12) C0 hW 1 rfl rfl vi_12_672 cl_12 rfl dX10_strike_6 ?_
  refine lv_istore_n (lv' := [(3, .int (σ 1 12)), (0, .ref (a 0)), (1, .int v1), (2, .int v2)]) hx hb dX10_strike_7 rfl hl (by decide) rfl (fun ls hl => ?_)
  refine lv_sipush (v := (416 : Int32)) hx hb dX10_strike_8 (by decide) ?_
  refine lv_iconst (v := (4 : Int32)) hx hb dX10_strike_11 (by decide) ?_
  refine lv_iload_n hx hb dX10_strike_12 rfl (lv_at hl 0 rfl) ?_
  refine lv_bipush (v := (64 : Int32)) hx hb dX10_strike_13 (by decide) ?_
  refine lv_irem hx hb dX10_strike_15 (by decide) ?_
  refine lv_imul hx hb dX10_strike_16 ?_
  refine lv_iadd hx hb dX10_strike_17 ?_
  refine lv_istore (lv' := [(4, .int ((416 : Int32) + ((4 : Int32) * ((σ 1 12) - (σ 1 12) / (64 : Int32) * (64 : Int32))))), (3, .int (σ 1 12)), (0, .ref (a 0)), (1, .int v1), (2, .int v2)]) hx hb dX10_strike_18 hl (by decide) rfl (fun ls hl => ?_)
  exact b_X10_strike_b20n l D k a A C0 R σ v1 v2 (σ 1 12) ((416 : Int32) + ((4 : Int32) * ((σ 1 12) - (σ 1 12) / (64 : Int32) * (64 : Int32)))) hs hR H locs ls hW (lv_sub hl [2, 3, 4, 1, 0] rfl)
set_option maxHeartbeats 400000 in
set_option maxRecDepth 100000 in
theorem m_X10_strike (l : Launch) (D : va_G) (k : Nat → ClassId) (a : Nat → Nat) (sz : Nat) (σ : T2) (p0 : Int32) (p1 : Int32) (hs : S_X10_strike σ p0 p1) : Met l yX10_strike wsX10_strike { frames := 0, cells := 0, slots := 0, locals := 0 } (va_Pc [.ref (a 0), .int p0, .int p1] (q_B D (tyL k) (wX10 k a σ) sz)) (va_Qi (fun r u => (r, u) = P_X10_strike σ p0 p1) (fun u => q_E D (tyL k) (va_A (wX10 k a σ) sz) (wX10 k a u)) (va_A (wX10 k a σ) sz)) 0 0 (va_A (wX10 k a σ) sz) := by
  refine q_met [.ref (a 0), .int p0, .int p1] (wX10 k a σ) sz (cc := cX10_strike) (maxL := 5) (ret := (some .int)) (by decide) rfl (Nat.le_of_ble_eq_true rfl) ?_
  intro p e s m args below meth c ls hsz C0 hW hl hin
  subst hsz
  exact b_X10_strike_b0 l D k a _ C0 _ σ p0 p1 hs rfl s.heap [] ls hW (lv_sub hl [0, 1, 2] rfl)
theorem hin_X10_endBlow_X10 : ∀ w ∈ u_ws RX10 TX10 18, w ∈ wsX10_endBlow := by decide +kernel
theorem hd_X10_endBlow : yX10_endBlow.cls = RX10 ∧ yX10_endBlow.cls ≠ "java/lang/invoke/MethodHandle" ∧ yX10_endBlow.cls ≠ "java/lang/invoke/VarHandle" ∧ (parseMethodDescriptor yX10_endBlow.desc).map (fun d => d.parameters.length) = some 0 := by decide +kernel
noncomputable def P_X10_endBlow_b19n (σ : T2) (v1 : Int32) : T2 := u2 σ 1 (upd (upd (σ 1) ((v1 + (2 : Int32)).toNatClampNeg) (σ 1 10)) ((v1 + (3 : Int32)).toNatClampNeg) ((upd (σ 1) ((v1 + (2 : Int32)).toNatClampNeg) (σ 1 10)) 9))
def S_X10_endBlow_b19n (σ : T2) (v1 : Int32) : Prop := (vp_in (v1 + (2 : Int32)) 672) ∧ ((vp_in (v1 + (3 : Int32)) 672) ∧ (True))
theorem P_X10_endBlow_b19n_e (σ : T2) (v1 : Int32) : P_X10_endBlow_b19n σ v1 = u2 σ 1 (upd (upd (σ 1) ((v1 + (2 : Int32)).toNatClampNeg) (σ 1 10)) ((v1 + (3 : Int32)).toNatClampNeg) ((upd (σ 1) ((v1 + (2 : Int32)).toNatClampNeg) (σ 1 10)) 9)) := rfl
theorem S_X10_endBlow_b19n_e (σ : T2) (v1 : Int32) : S_X10_endBlow_b19n σ v1 = ((vp_in (v1 + (2 : Int32)) 672) ∧ ((vp_in (v1 + (3 : Int32)) 672) ∧ (True))) := rfl
noncomputable def P_X10_endBlow_b0 (σ : T2) : T2 := P_X10_endBlow_b19n σ ((416 : Int32) + ((4 : Int32) * (((σ 1 12) - (1 : Int32)) - ((σ 1 12) - (1 : Int32)) / (64 : Int32) * (64 : Int32))))
def S_X10_endBlow_b0 (σ : T2) : Prop := S_X10_endBlow_b19n σ ((416 : Int32) + ((4 : Int32) * (((σ 1 12) - (1 : Int32)) - ((σ 1 12) - (1 : Int32)) / (64 : Int32) * (64 : Int32))))
theorem P_X10_endBlow_b0_e (σ : T2) : P_X10_endBlow_b0 σ = P_X10_endBlow_b19n σ ((416 : Int32) + ((4 : Int32) * (((σ 1 12) - (1 : Int32)) - ((σ 1 12) - (1 : Int32)) / (64 : Int32) * (64 : Int32)))) := rfl
theorem S_X10_endBlow_b0_e (σ : T2) : S_X10_endBlow_b0 σ = (S_X10_endBlow_b19n σ ((416 : Int32) + ((4 : Int32) * (((σ 1 12) - (1 : Int32)) - ((σ 1 12) - (1 : Int32)) / (64 : Int32) * (64 : Int32))))) := rfl
noncomputable def P_X10_endBlow (σ : T2) : T2 := P_X10_endBlow_b0 σ
def S_X10_endBlow (σ : T2) : Prop := S_X10_endBlow_b0 σ
set_option maxHeartbeats 400000 in
set_option maxRecDepth 100000 in
theorem b_X10_endBlow_b19n {p : Program} {e : Env} {s : State} {m : MethodId} {args : Array Value} {below : List Frame} {meth : Method} {c : Code} (l : Launch) (D : va_G) (k : Nat → ClassId) (a : Nat → Nat) (A : Nat → Prop) (C0 : q_C p s m meth c args RX10 cX10_endBlow 2 none wsX10_endBlow D (tyL k) A) (R : T2) : ∀ (σ : T2) (v1 : Int32), S_X10_endBlow_b19n σ v1 → P_X10_endBlow_b19n σ v1 = R → ∀ (H : Heap) (locs : List Loc) (ls : Array Slot), q_W D A s.heap (wX10 k a σ) H locs → lv_has ls 2 [(0, .ref (a 0)), (1, .int v1)] → W p l e { frames := 0, cells := 0, slots := 0, locals := 0 } s m args below meth c H locs 0 0 (MQ below (va_Qv (fun u => u = R) (fun u => q_E D (tyL k) A (wX10 k a u)) A) args s 0 0 A) (F0 m 19 ls []) := by
  intro σ v1 hs hR H locs ls hW hl
  rw [P_X10_endBlow_b19n_e] at hR
  rw [S_X10_endBlow_b19n_e] at hs
  obtain ⟨hx, hb, hr, hml, hts, hown, hlocks, hK, hA⟩ := id C0
  have hf7 := hts (.fieldLink RX10 7 "BeatFollowerModel" "at" "[I") (by decide +kernel)
  have hinX10 : ∀ w ∈ u_ws RX10 TX10 18, w ∈ wsX10_endBlow := hin_X10_endBlow_X10
  refine lv_aload_n hx hb dX10_endBlow_19 rfl (lv_at hl 0 rfl) ?_
  refine va_get (v := .ref (a 1)) (C := RX10) (T := TX10) (N := 18) hx hb hts hinX10 hown hK hW.1 0 rfl rfl 0 (by decide) hf7 (fun _ h9 => h9) rfl dX10_endBlow_20 ?_
  refine lv_iload_n hx hb dX10_endBlow_23 rfl (lv_at hl 1 rfl) ?_
  refine lv_iconst (v := (2 : Int32)) hx hb dX10_endBlow_24 (by decide) ?_
  refine lv_iadd hx hb dX10_endBlow_25 ?_
  refine lv_aload_n hx hb dX10_endBlow_26 rfl (lv_at hl 0 rfl) ?_
  refine va_get (v := .ref (a 1)) (C := RX10) (T := TX10) (N := 18) hx hb hts hinX10 hown hK hW.1 0 rfl rfl 0 (by decide) hf7 (fun _ h9 => h9) rfl dX10_endBlow_27 ?_
  refine lv_bipush (v := (10 : Int32)) hx hb dX10_endBlow_30 (by decide) ?_
  refine q_iald (v := σ 1 10) C0 hW 1 rfl rfl vi_10_672 cl_10 rfl dX10_endBlow_32 ?_
  have hi1 := hs.1
  have hs := hs.2
  refine q_iast (f := σ 1) (wd' := wX10 k a (u2 σ 1 (upd (σ 1) ((v1 + (2 : Int32)).toNatClampNeg) (σ 1 10)))) C0 hW 1 rfl rfl hi1 rfl dX10_endBlow_33 (wX10_s1 k a _ _) (fun H locs hW => ?_)
  refine lv_aload_n hx hb dX10_endBlow_34 rfl (lv_at hl 0 rfl) ?_
  refine va_get (v := .ref (a 1)) (C := RX10) (T := TX10) (N := 18) hx hb hts hinX10 hown hK hW.1 0 rfl rfl 0 (by decide) hf7 (fun _ h9 => h9) rfl dX10_endBlow_35 ?_
  refine lv_iload_n hx hb dX10_endBlow_38 rfl (lv_at hl 1 rfl) ?_
  refine lv_iconst (v := (3 : Int32)) hx hb dX10_endBlow_39 (by decide) ?_
  refine lv_iadd hx hb dX10_endBlow_40 ?_
  refine lv_aload_n hx hb dX10_endBlow_41 rfl (lv_at hl 0 rfl) ?_
  refine va_get (v := .ref (a 1)) (C := RX10) (T := TX10) (N := 18) hx hb hts hinX10 hown hK hW.1 0 rfl rfl 0 (by decide) hf7 (fun _ h9 => h9) rfl dX10_endBlow_42 ?_
  refine lv_bipush (v := (9 : Int32)) hx hb dX10_endBlow_45 (by decide) ?_
  refine q_iald (v := (upd (σ 1) ((v1 + (2 : Int32)).toNatClampNeg) (σ 1 10)) 9) C0 hW 1 rfl rfl vi_9_672 cl_9 rfl dX10_endBlow_47 ?_
  have hi2 := hs.1
  have hs := hs.2
  refine q_iast (f := upd (σ 1) ((v1 + (2 : Int32)).toNatClampNeg) (σ 1 10)) (wd' := wX10 k a (u2 σ 1 (upd (upd (σ 1) ((v1 + (2 : Int32)).toNatClampNeg) (σ 1 10)) ((v1 + (3 : Int32)).toNatClampNeg) ((upd (σ 1) ((v1 + (2 : Int32)).toNatClampNeg) (σ 1 10)) 9)))) C0 hW 1 rfl rfl hi2 rfl dX10_endBlow_48 ((wX10_s1 k a _ _).trans (congrArg (wX10 k a) (u2_same _ _ _ _))) (fun H locs hW => ?_)
  exact q_vret C0 hW hR dX10_endBlow_49
set_option maxHeartbeats 400000 in
set_option maxRecDepth 100000 in
theorem b_X10_endBlow_b0 {p : Program} {e : Env} {s : State} {m : MethodId} {args : Array Value} {below : List Frame} {meth : Method} {c : Code} (l : Launch) (D : va_G) (k : Nat → ClassId) (a : Nat → Nat) (A : Nat → Prop) (C0 : q_C p s m meth c args RX10 cX10_endBlow 2 none wsX10_endBlow D (tyL k) A) (R : T2) : ∀ (σ : T2), S_X10_endBlow_b0 σ → P_X10_endBlow_b0 σ = R → ∀ (H : Heap) (locs : List Loc) (ls : Array Slot), q_W D A s.heap (wX10 k a σ) H locs → lv_has ls 2 [(0, .ref (a 0))] → W p l e { frames := 0, cells := 0, slots := 0, locals := 0 } s m args below meth c H locs 0 0 (MQ below (va_Qv (fun u => u = R) (fun u => q_E D (tyL k) A (wX10 k a u)) A) args s 0 0 A) (F0 m 0 ls []) := by
  intro σ hs hR H locs ls hW hl
  rw [P_X10_endBlow_b0_e] at hR
  rw [S_X10_endBlow_b0_e] at hs
  obtain ⟨hx, hb, hr, hml, hts, hown, hlocks, hK, hA⟩ := id C0
  have hf7 := hts (.fieldLink RX10 7 "BeatFollowerModel" "at" "[I") (by decide +kernel)
  have hinX10 : ∀ w ∈ u_ws RX10 TX10 18, w ∈ wsX10_endBlow := hin_X10_endBlow_X10
  refine lv_sipush (v := (416 : Int32)) hx hb dX10_endBlow_0 (by decide) ?_
  refine lv_iconst (v := (4 : Int32)) hx hb dX10_endBlow_3 (by decide) ?_
  refine lv_aload_n hx hb dX10_endBlow_4 rfl (lv_at hl 0 rfl) ?_
  refine va_get (v := .ref (a 1)) (C := RX10) (T := TX10) (N := 18) hx hb hts hinX10 hown hK hW.1 0 rfl rfl 0 (by decide) hf7 (fun _ h9 => h9) rfl dX10_endBlow_5 ?_
  refine lv_bipush (v := (12 : Int32)) hx hb dX10_endBlow_8 (by decide) ?_
  refine q_iald (v := σ 1 12) C0 hW 1 rfl rfl vi_12_672 cl_12 rfl dX10_endBlow_10 ?_
  refine lv_iconst (v := (1 : Int32)) hx hb dX10_endBlow_11 (by decide) ?_
  refine lv_isub hx hb dX10_endBlow_12 ?_
  refine lv_bipush (v := (64 : Int32)) hx hb dX10_endBlow_13 (by decide) ?_
  refine lv_irem hx hb dX10_endBlow_15 (by decide) ?_
  refine lv_imul hx hb dX10_endBlow_16 ?_
  refine lv_iadd hx hb dX10_endBlow_17 ?_
  refine lv_istore_n (lv' := [(1, .int ((416 : Int32) + ((4 : Int32) * (((σ 1 12) - (1 : Int32)) - ((σ 1 12) - (1 : Int32)) / (64 : Int32) * (64 : Int32))))), (0, .ref (a 0))]) hx hb dX10_endBlow_18 rfl hl (by decide) rfl (fun ls hl => ?_)
  exact b_X10_endBlow_b19n l D k a A C0 R σ ((416 : Int32) + ((4 : Int32) * (((σ 1 12) - (1 : Int32)) - ((σ 1 12) - (1 : Int32)) / (64 : Int32) * (64 : Int32)))) hs hR H locs ls hW (lv_sub hl [1, 0] rfl)
set_option maxHeartbeats 400000 in
set_option maxRecDepth 100000 in
theorem m_X10_endBlow (l : Launch) (D : va_G) (k : Nat → ClassId) (a : Nat → Nat) (sz : Nat) (σ : T2) (hs : S_X10_endBlow σ) : Met l yX10_endBlow wsX10_endBlow { frames := 0, cells := 0, slots := 0, locals := 0 } (va_Pc [.ref (a 0)] (q_B D (tyL k) (wX10 k a σ) sz)) (va_Qv (fun u => u = P_X10_endBlow σ) (fun u => q_E D (tyL k) (va_A (wX10 k a σ) sz) (wX10 k a u)) (va_A (wX10 k a σ) sz)) 0 0 (va_A (wX10 k a σ) sz) := by
  refine q_met [.ref (a 0)] (wX10 k a σ) sz (cc := cX10_endBlow) (maxL := 2) (ret := none) (by decide) rfl (Nat.le_of_ble_eq_true rfl) ?_
  intro p e s m args below meth c ls hsz C0 hW hl hin
  subst hsz
  exact b_X10_endBlow_b0 l D k a _ C0 _ σ  hs rfl s.heap [] ls hW (lv_sub hl [0] rfl)
theorem hin_X10_loseLock_X10 : ∀ w ∈ u_ws RX10 TX10 18, w ∈ wsX10_loseLock := by decide +kernel
theorem hd_X10_loseLock : yX10_loseLock.cls = RX10 ∧ yX10_loseLock.cls ≠ "java/lang/invoke/MethodHandle" ∧ yX10_loseLock.cls ≠ "java/lang/invoke/VarHandle" ∧ (parseMethodDescriptor yX10_loseLock.desc).map (fun d => d.parameters.length) = some 0 := by decide +kernel
noncomputable def P_X10_loseLock_b0 (σ : T2) : T2 := u2 σ 1 (upd (upd (upd (upd (σ 1) 17 ((σ 1 17) + (1 : Int32))) 9 (0 : Int32)) 19 (0 : Int32)) 20 (0 : Int32))
def S_X10_loseLock_b0 (σ : T2) : Prop := True
theorem P_X10_loseLock_b0_e (σ : T2) : P_X10_loseLock_b0 σ = u2 σ 1 (upd (upd (upd (upd (σ 1) 17 ((σ 1 17) + (1 : Int32))) 9 (0 : Int32)) 19 (0 : Int32)) 20 (0 : Int32)) := rfl
theorem S_X10_loseLock_b0_e (σ : T2) : S_X10_loseLock_b0 σ = (True) := rfl
noncomputable def P_X10_loseLock (σ : T2) : T2 := P_X10_loseLock_b0 σ
def S_X10_loseLock (σ : T2) : Prop := S_X10_loseLock_b0 σ
set_option maxHeartbeats 400000 in
set_option maxRecDepth 100000 in
theorem b_X10_loseLock_b0 {p : Program} {e : Env} {s : State} {m : MethodId} {args : Array Value} {below : List Frame} {meth : Method} {c : Code} (l : Launch) (D : va_G) (k : Nat → ClassId) (a : Nat → Nat) (A : Nat → Prop) (C0 : q_C p s m meth c args RX10 cX10_loseLock 1 none wsX10_loseLock D (tyL k) A) (R : T2) : ∀ (σ : T2), S_X10_loseLock_b0 σ → P_X10_loseLock_b0 σ = R → ∀ (H : Heap) (locs : List Loc) (ls : Array Slot), q_W D A s.heap (wX10 k a σ) H locs → lv_has ls 1 [(0, .ref (a 0))] → W p l e { frames := 0, cells := 0, slots := 0, locals := 0 } s m args below meth c H locs 0 0 (MQ below (va_Qv (fun u => u = R) (fun u => q_E D (tyL k) A (wX10 k a u)) A) args s 0 0 A) (F0 m 0 ls []) := by
  intro σ hs hR H locs ls hW hl
  rw [P_X10_loseLock_b0_e] at hR
  rw [S_X10_loseLock_b0_e] at hs
  obtain ⟨hx, hb, hr, hml, hts, hown, hlocks, hK, hA⟩ := id C0
  have hf7 := hts (.fieldLink RX10 7 "BeatFollowerModel" "at" "[I") (by decide +kernel)
  have hinX10 : ∀ w ∈ u_ws RX10 TX10 18, w ∈ wsX10_loseLock := hin_X10_loseLock_X10
  refine lv_aload_n hx hb dX10_loseLock_0 rfl (lv_at hl 0 rfl) ?_
  refine va_get (v := .ref (a 1)) (C := RX10) (T := TX10) (N := 18) hx hb hts hinX10 hown hK hW.1 0 rfl rfl 0 (by decide) hf7 (fun _ h9 => h9) rfl dX10_loseLock_1 ?_
  refine lv_bipush (v := (17 : Int32)) hx hb dX10_loseLock_4 (by decide) ?_
  refine lv_dup2_11 hx hb dX10_loseLock_6 rfl rfl ?_
  refine q_iald (v := σ 1 17) C0 hW 1 rfl rfl vi_17_672 cl_17 rfl dX10_loseLock_7 ?_
  refine lv_iconst (v := (1 : Int32)) hx hb dX10_loseLock_8 (by decide) ?_
  refine lv_iadd hx hb dX10_loseLock_9 ?_
  refine q_iast (f := σ 1) (wd' := wX10 k a (u2 σ 1 (upd (σ 1) 17 ((σ 1 17) + (1 : Int32))))) C0 hW 1 rfl rfl vi_17_672 cl_17 dX10_loseLock_10 (wX10_s1 k a _ _) (fun H locs hW => ?_)
  refine lv_aload_n hx hb dX10_loseLock_11 rfl (lv_at hl 0 rfl) ?_
  refine va_get (v := .ref (a 1)) (C := RX10) (T := TX10) (N := 18) hx hb hts hinX10 hown hK hW.1 0 rfl rfl 0 (by decide) hf7 (fun _ h9 => h9) rfl dX10_loseLock_12 ?_
  refine lv_bipush (v := (9 : Int32)) hx hb dX10_loseLock_15 (by decide) ?_
  refine lv_iconst (v := (0 : Int32)) hx hb dX10_loseLock_17 (by decide) ?_
  refine q_iast (f := upd (σ 1) 17 ((σ 1 17) + (1 : Int32))) (wd' := wX10 k a (u2 σ 1 (upd (upd (σ 1) 17 ((σ 1 17) + (1 : Int32))) 9 (0 : Int32)))) C0 hW 1 rfl rfl vi_9_672 cl_9 dX10_loseLock_18 ((wX10_s1 k a _ _).trans (congrArg (wX10 k a) (u2_same _ _ _ _))) (fun H locs hW => ?_)
  refine lv_aload_n hx hb dX10_loseLock_19 rfl (lv_at hl 0 rfl) ?_
  refine va_get (v := .ref (a 1)) (C := RX10) (T := TX10) (N := 18) hx hb hts hinX10 hown hK hW.1 0 rfl rfl 0 (by decide) hf7 (fun _ h9 => h9) rfl dX10_loseLock_20 ?_
  refine lv_bipush (v := (19 : Int32)) hx hb dX10_loseLock_23 (by decide) ?_
  refine lv_iconst (v := (0 : Int32)) hx hb dX10_loseLock_25 (by decide) ?_
  refine q_iast (f := upd (upd (σ 1) 17 ((σ 1 17) + (1 : Int32))) 9 (0 : Int32)) (wd' := wX10 k a (u2 σ 1 (upd (upd (upd (σ 1) 17 ((σ 1 17) + (1 : Int32))) 9 (0 : Int32)) 19 (0 : Int32)))) C0 hW 1 rfl rfl vi_19_672 cl_19 dX10_loseLock_26 ((wX10_s1 k a _ _).trans (congrArg (wX10 k a) (u2_same _ _ _ _))) (fun H locs hW => ?_)
  refine lv_aload_n hx hb dX10_loseLock_27 rfl (lv_at hl 0 rfl) ?_
  refine va_get (v := .ref (a 1)) (C := RX10) (T := TX10) (N := 18) hx hb hts hinX10 hown hK hW.1 0 rfl rfl 0 (by decide) hf7 (fun _ h9 => h9) rfl dX10_loseLock_28 ?_
  refine lv_bipush (v := (20 : Int32)) hx hb dX10_loseLock_31 (by decide) ?_
  refine lv_iconst (v := (0 : Int32)) hx hb dX10_loseLock_33 (by decide) ?_
  refine q_iast (f := upd (upd (upd (σ 1) 17 ((σ 1 17) + (1 : Int32))) 9 (0 : Int32)) 19 (0 : Int32)) (wd' := wX10 k a (u2 σ 1 (upd (upd (upd (upd (σ 1) 17 ((σ 1 17) + (1 : Int32))) 9 (0 : Int32)) 19 (0 : Int32)) 20 (0 : Int32)))) C0 hW 1 rfl rfl vi_20_672 cl_20 dX10_loseLock_34 ((wX10_s1 k a _ _).trans (congrArg (wX10 k a) (u2_same _ _ _ _))) (fun H locs hW => ?_)
  exact q_vret C0 hW hR dX10_loseLock_35
set_option maxHeartbeats 400000 in
set_option maxRecDepth 100000 in
theorem m_X10_loseLock (l : Launch) (D : va_G) (k : Nat → ClassId) (a : Nat → Nat) (sz : Nat) (σ : T2) (hs : S_X10_loseLock σ) : Met l yX10_loseLock wsX10_loseLock { frames := 0, cells := 0, slots := 0, locals := 0 } (va_Pc [.ref (a 0)] (q_B D (tyL k) (wX10 k a σ) sz)) (va_Qv (fun u => u = P_X10_loseLock σ) (fun u => q_E D (tyL k) (va_A (wX10 k a σ) sz) (wX10 k a u)) (va_A (wX10 k a σ) sz)) 0 0 (va_A (wX10 k a σ) sz) := by
  refine q_met [.ref (a 0)] (wX10 k a σ) sz (cc := cX10_loseLock) (maxL := 1) (ret := none) (by decide) rfl (Nat.le_of_ble_eq_true rfl) ?_
  intro p e s m args below meth c ls hsz C0 hW hl hin
  subst hsz
  exact b_X10_loseLock_b0 l D k a _ C0 _ σ  hs rfl s.heap [] ls hW (lv_sub hl [0] rfl)
theorem hd_X10_become : yX10_become.cls = RX10 ∧ yX10_become.cls ≠ "java/lang/invoke/MethodHandle" ∧ yX10_become.cls ≠ "java/lang/invoke/VarHandle" ∧ (parseMethodDescriptor yX10_become.desc).map (fun d => d.parameters.length) = some 5 := by decide +kernel
noncomputable def P_X10_become_b22c (σ : T2) (v1 : Int32) (v5 : Int32) : T2 := P_X10_layB σ v1 (5 : Int32) v5
def S_X10_become_b22c (σ : T2) (v1 : Int32) (v5 : Int32) : Prop := (S_X10_layB σ v1 (5 : Int32) v5) ∧ (True)
theorem P_X10_become_b22c_e (σ : T2) (v1 : Int32) (v5 : Int32) : P_X10_become_b22c σ v1 v5 = P_X10_layB σ v1 (5 : Int32) v5 := rfl
theorem S_X10_become_b22c_e (σ : T2) (v1 : Int32) (v5 : Int32) : S_X10_become_b22c σ v1 v5 = ((S_X10_layB σ v1 (5 : Int32) v5) ∧ (True)) := rfl
noncomputable def P_X10_become_b14c (σ : T2) (v1 : Int32) (v4 : Int32) (v5 : Int32) : T2 := P_X10_become_b22c (P_X10_layB σ v1 (4 : Int32) v4) v1 v5
def S_X10_become_b14c (σ : T2) (v1 : Int32) (v4 : Int32) (v5 : Int32) : Prop := (S_X10_layB σ v1 (4 : Int32) v4) ∧ (S_X10_become_b22c (P_X10_layB σ v1 (4 : Int32) v4) v1 v5)
theorem P_X10_become_b14c_e (σ : T2) (v1 : Int32) (v4 : Int32) (v5 : Int32) : P_X10_become_b14c σ v1 v4 v5 = P_X10_become_b22c (P_X10_layB σ v1 (4 : Int32) v4) v1 v5 := rfl
theorem S_X10_become_b14c_e (σ : T2) (v1 : Int32) (v4 : Int32) (v5 : Int32) : S_X10_become_b14c σ v1 v4 v5 = ((S_X10_layB σ v1 (4 : Int32) v4) ∧ (S_X10_become_b22c (P_X10_layB σ v1 (4 : Int32) v4) v1 v5)) := rfl
noncomputable def P_X10_become_b7c (σ : T2) (v1 : Int32) (v3 : Int32) (v4 : Int32) (v5 : Int32) : T2 := P_X10_become_b14c (P_X10_layB σ v1 (3 : Int32) v3) v1 v4 v5
def S_X10_become_b7c (σ : T2) (v1 : Int32) (v3 : Int32) (v4 : Int32) (v5 : Int32) : Prop := (S_X10_layB σ v1 (3 : Int32) v3) ∧ (S_X10_become_b14c (P_X10_layB σ v1 (3 : Int32) v3) v1 v4 v5)
theorem P_X10_become_b7c_e (σ : T2) (v1 : Int32) (v3 : Int32) (v4 : Int32) (v5 : Int32) : P_X10_become_b7c σ v1 v3 v4 v5 = P_X10_become_b14c (P_X10_layB σ v1 (3 : Int32) v3) v1 v4 v5 := rfl
theorem S_X10_become_b7c_e (σ : T2) (v1 : Int32) (v3 : Int32) (v4 : Int32) (v5 : Int32) : S_X10_become_b7c σ v1 v3 v4 v5 = ((S_X10_layB σ v1 (3 : Int32) v3) ∧ (S_X10_become_b14c (P_X10_layB σ v1 (3 : Int32) v3) v1 v4 v5)) := rfl
noncomputable def P_X10_become_b0 (σ : T2) (v1 : Int32) (v2 : Int32) (v3 : Int32) (v4 : Int32) (v5 : Int32) : T2 := P_X10_become_b7c (P_X10_layB σ v1 (2 : Int32) v2) v1 v3 v4 v5
def S_X10_become_b0 (σ : T2) (v1 : Int32) (v2 : Int32) (v3 : Int32) (v4 : Int32) (v5 : Int32) : Prop := (S_X10_layB σ v1 (2 : Int32) v2) ∧ (S_X10_become_b7c (P_X10_layB σ v1 (2 : Int32) v2) v1 v3 v4 v5)
theorem P_X10_become_b0_e (σ : T2) (v1 : Int32) (v2 : Int32) (v3 : Int32) (v4 : Int32) (v5 : Int32) : P_X10_become_b0 σ v1 v2 v3 v4 v5 = P_X10_become_b7c (P_X10_layB σ v1 (2 : Int32) v2) v1 v3 v4 v5 := rfl
theorem S_X10_become_b0_e (σ : T2) (v1 : Int32) (v2 : Int32) (v3 : Int32) (v4 : Int32) (v5 : Int32) : S_X10_become_b0 σ v1 v2 v3 v4 v5 = ((S_X10_layB σ v1 (2 : Int32) v2) ∧ (S_X10_become_b7c (P_X10_layB σ v1 (2 : Int32) v2) v1 v3 v4 v5)) := rfl
noncomputable def P_X10_become (σ : T2) (p0 : Int32) (p1 : Int32) (p2 : Int32) (p3 : Int32) (p4 : Int32) : T2 := P_X10_become_b0 σ p0 p1 p2 p3 p4
def S_X10_become (σ : T2) (p0 : Int32) (p1 : Int32) (p2 : Int32) (p3 : Int32) (p4 : Int32) : Prop := S_X10_become_b0 σ p0 p1 p2 p3 p4
set_option maxHeartbeats 400000 in
set_option maxRecDepth 100000 in
theorem b_X10_become_b22c {p : Program} {e : Env} {s : State} {m : MethodId} {args : Array Value} {below : List Frame} {meth : Method} {c : Code} (l : Launch) (D : va_G) (k : Nat → ClassId) (a : Nat → Nat) (A : Nat → Prop) (C0 : q_C p s m meth c args RX10 cX10_become 6 none wsX10_become D (tyL k) A) (R : T2) : ∀ (σ : T2) (v1 : Int32) (v5 : Int32), S_X10_become_b22c σ v1 v5 → P_X10_become_b22c σ v1 v5 = R → ∀ (H : Heap) (locs : List Loc) (ls : Array Slot), q_W D A s.heap (wX10 k a σ) H locs → lv_has ls 6 [(0, .ref (a 0)), (1, .int v1), (5, .int v5)] → W p l e { frames := 1, cells := 0, slots := 0, locals := 23 } s m args below meth c H locs 0 0 (MQ below (va_Qv (fun u => u = R) (fun u => q_E D (tyL k) A (wX10 k a u)) A) args s 0 0 A) (F0 m 22 ls []) := by
  intro σ v1 v5 hs hR H locs ls hW hl
  rw [P_X10_become_b22c_e] at hR
  rw [S_X10_become_b22c_e] at hs
  obtain ⟨hx, hb, hr, hml, hts, hown, hlocks, hK, hA⟩ := id C0
  refine lv_aload_n hx hb dX10_become_22 rfl (lv_at hl 0 rfl) ?_
  refine lv_iload_n hx hb dX10_become_23 rfl (lv_at hl 1 rfl) ?_
  refine lv_iconst (v := (5 : Int32)) hx hb dX10_become_24 (by decide) ?_
  refine lv_iload hx hb dX10_become_25 (lv_at hl 2 rfl) ?_
  have hs4 := hs.1
  have hs := hs.2
  refine q_Vv (As := [.int v1, .int (5 : Int32), .int v5]) (rest := []) (wf := wX10 k a) (R := P_X10_layB σ v1 (5 : Int32) v5) (wd' := wX10 k a (P_X10_layB σ v1 (5 : Int32) v5)) [0, 1, 2, 3, 4, 5, 6, 7, 8] [0, 1, 2, 3] 0 10 C0 hW (m_X10_layB l D k a H.size σ v1 (5 : Int32) v5 hs4) (cwV 3 hts gX10_become_X10_layB rfl rfl rfl hd_X10_layB ⟨Nat.le_of_ble_eq_true rfl, Nat.le_of_ble_eq_true rfl⟩) (by decide) (wX10_pl k a _) rfl (wX10_rec k a _) rfl (wX10_fst k a _ _) (wX10_put k a _ _) hl rfl rfl (Nat.le_of_ble_eq_true rfl) dX10_become_27 ⟨Nat.le_refl 0, Nat.le_refl 0⟩ (fun H locs hW => ?_)
  exact q_vret C0 hW hR dX10_become_30
set_option maxHeartbeats 400000 in
set_option maxRecDepth 100000 in
theorem b_X10_become_b14c {p : Program} {e : Env} {s : State} {m : MethodId} {args : Array Value} {below : List Frame} {meth : Method} {c : Code} (l : Launch) (D : va_G) (k : Nat → ClassId) (a : Nat → Nat) (A : Nat → Prop) (C0 : q_C p s m meth c args RX10 cX10_become 6 none wsX10_become D (tyL k) A) (R : T2) : ∀ (σ : T2) (v1 : Int32) (v4 : Int32) (v5 : Int32), S_X10_become_b14c σ v1 v4 v5 → P_X10_become_b14c σ v1 v4 v5 = R → ∀ (H : Heap) (locs : List Loc) (ls : Array Slot), q_W D A s.heap (wX10 k a σ) H locs → lv_has ls 6 [(0, .ref (a 0)), (1, .int v1), (4, .int v4), (5, .int v5)] → W p l e { frames := 1, cells := 0, slots := 0, locals := 23 } s m args below meth c H locs 0 0 (MQ below (va_Qv (fun u => u = R) (fun u => q_E D (tyL k) A (wX10 k a u)) A) args s 0 0 A) (F0 m 14 ls []) := by
  intro σ v1 v4 v5 hs hR H locs ls hW hl
  rw [P_X10_become_b14c_e] at hR
  rw [S_X10_become_b14c_e] at hs
  obtain ⟨hx, hb, hr, hml, hts, hown, hlocks, hK, hA⟩ := id C0
  refine lv_aload_n hx hb dX10_become_14 rfl (lv_at hl 0 rfl) ?_
  refine lv_iload_n hx hb dX10_become_15 rfl (lv_at hl 1 rfl) ?_
  refine lv_iconst (v := (4 : Int32)) hx hb dX10_become_16 (by decide) ?_
  refine lv_iload hx hb dX10_become_17 (lv_at hl 2 rfl) ?_
  have hs3 := hs.1
  have hs := hs.2
  refine q_Vv (As := [.int v1, .int (4 : Int32), .int v4]) (rest := []) (wf := wX10 k a) (R := P_X10_layB σ v1 (4 : Int32) v4) (wd' := wX10 k a (P_X10_layB σ v1 (4 : Int32) v4)) [0, 1, 2, 3, 4, 5, 6, 7, 8] [0, 1, 2, 3] 0 10 C0 hW (m_X10_layB l D k a H.size σ v1 (4 : Int32) v4 hs3) (cwV 3 hts gX10_become_X10_layB rfl rfl rfl hd_X10_layB ⟨Nat.le_of_ble_eq_true rfl, Nat.le_of_ble_eq_true rfl⟩) (by decide) (wX10_pl k a _) rfl (wX10_rec k a _) rfl (wX10_fst k a _ _) (wX10_put k a _ _) hl rfl rfl (Nat.le_of_ble_eq_true rfl) dX10_become_19 ⟨Nat.le_refl 0, Nat.le_refl 0⟩ (fun H locs hW => ?_)
  exact b_X10_become_b22c l D k a A C0 R (P_X10_layB σ v1 (4 : Int32) v4) v1 v5 hs hR H locs ls hW (lv_sub hl [0, 1, 3] rfl)
set_option maxHeartbeats 400000 in
set_option maxRecDepth 100000 in
theorem b_X10_become_b7c {p : Program} {e : Env} {s : State} {m : MethodId} {args : Array Value} {below : List Frame} {meth : Method} {c : Code} (l : Launch) (D : va_G) (k : Nat → ClassId) (a : Nat → Nat) (A : Nat → Prop) (C0 : q_C p s m meth c args RX10 cX10_become 6 none wsX10_become D (tyL k) A) (R : T2) : ∀ (σ : T2) (v1 : Int32) (v3 : Int32) (v4 : Int32) (v5 : Int32), S_X10_become_b7c σ v1 v3 v4 v5 → P_X10_become_b7c σ v1 v3 v4 v5 = R → ∀ (H : Heap) (locs : List Loc) (ls : Array Slot), q_W D A s.heap (wX10 k a σ) H locs → lv_has ls 6 [(0, .ref (a 0)), (1, .int v1), (3, .int v3), (4, .int v4), (5, .int v5)] → W p l e { frames := 1, cells := 0, slots := 0, locals := 23 } s m args below meth c H locs 0 0 (MQ below (va_Qv (fun u => u = R) (fun u => q_E D (tyL k) A (wX10 k a u)) A) args s 0 0 A) (F0 m 7 ls []) := by
  intro σ v1 v3 v4 v5 hs hR H locs ls hW hl
  rw [P_X10_become_b7c_e] at hR
  rw [S_X10_become_b7c_e] at hs
  obtain ⟨hx, hb, hr, hml, hts, hown, hlocks, hK, hA⟩ := id C0
  refine lv_aload_n hx hb dX10_become_7 rfl (lv_at hl 0 rfl) ?_
  refine lv_iload_n hx hb dX10_become_8 rfl (lv_at hl 1 rfl) ?_
  refine lv_iconst (v := (3 : Int32)) hx hb dX10_become_9 (by decide) ?_
  refine lv_iload_n hx hb dX10_become_10 rfl (lv_at hl 2 rfl) ?_
  have hs2 := hs.1
  have hs := hs.2
  refine q_Vv (As := [.int v1, .int (3 : Int32), .int v3]) (rest := []) (wf := wX10 k a) (R := P_X10_layB σ v1 (3 : Int32) v3) (wd' := wX10 k a (P_X10_layB σ v1 (3 : Int32) v3)) [0, 1, 2, 3, 4, 5, 6, 7, 8] [0, 1, 2, 3] 0 10 C0 hW (m_X10_layB l D k a H.size σ v1 (3 : Int32) v3 hs2) (cwV 3 hts gX10_become_X10_layB rfl rfl rfl hd_X10_layB ⟨Nat.le_of_ble_eq_true rfl, Nat.le_of_ble_eq_true rfl⟩) (by decide) (wX10_pl k a _) rfl (wX10_rec k a _) rfl (wX10_fst k a _ _) (wX10_put k a _ _) hl rfl rfl (Nat.le_of_ble_eq_true rfl) dX10_become_11 ⟨Nat.le_refl 0, Nat.le_refl 0⟩ (fun H locs hW => ?_)
  exact b_X10_become_b14c l D k a A C0 R (P_X10_layB σ v1 (3 : Int32) v3) v1 v4 v5 hs hR H locs ls hW (lv_sub hl [0, 1, 3, 4] rfl)
set_option maxHeartbeats 400000 in
set_option maxRecDepth 100000 in
theorem b_X10_become_b0 {p : Program} {e : Env} {s : State} {m : MethodId} {args : Array Value} {below : List Frame} {meth : Method} {c : Code} (l : Launch) (D : va_G) (k : Nat → ClassId) (a : Nat → Nat) (A : Nat → Prop) (C0 : q_C p s m meth c args RX10 cX10_become 6 none wsX10_become D (tyL k) A) (R : T2) : ∀ (σ : T2) (v1 : Int32) (v2 : Int32) (v3 : Int32) (v4 : Int32) (v5 : Int32), S_X10_become_b0 σ v1 v2 v3 v4 v5 → P_X10_become_b0 σ v1 v2 v3 v4 v5 = R → ∀ (H : Heap) (locs : List Loc) (ls : Array Slot), q_W D A s.heap (wX10 k a σ) H locs → lv_has ls 6 [(0, .ref (a 0)), (1, .int v1), (2, .int v2), (3, .int v3), (4, .int v4), (5, .int v5)] → W p l e { frames := 1, cells := 0, slots := 0, locals := 23 } s m args below meth c H locs 0 0 (MQ below (va_Qv (fun u => u = R) (fun u => q_E D (tyL k) A (wX10 k a u)) A) args s 0 0 A) (F0 m 0 ls []) := by
  intro σ v1 v2 v3 v4 v5 hs hR H locs ls hW hl
  rw [P_X10_become_b0_e] at hR
  rw [S_X10_become_b0_e] at hs
  obtain ⟨hx, hb, hr, hml, hts, hown, hlocks, hK, hA⟩ := id C0
  refine lv_aload_n hx hb dX10_become_0 rfl (lv_at hl 0 rfl) ?_
  refine lv_iload_n hx hb dX10_become_1 rfl (lv_at hl 1 rfl) ?_
  refine lv_iconst (v := (2 : Int32)) hx hb dX10_become_2 (by decide) ?_
  refine lv_iload_n hx hb dX10_become_3 rfl (lv_at hl 2 rfl) ?_
  have hs1 := hs.1
  have hs := hs.2
  refine q_Vv (As := [.int v1, .int (2 : Int32), .int v2]) (rest := []) (wf := wX10 k a) (R := P_X10_layB σ v1 (2 : Int32) v2) (wd' := wX10 k a (P_X10_layB σ v1 (2 : Int32) v2)) [0, 1, 2, 3, 4, 5, 6, 7, 8] [0, 1, 2, 3] 0 10 C0 hW (m_X10_layB l D k a H.size σ v1 (2 : Int32) v2 hs1) (cwV 3 hts gX10_become_X10_layB rfl rfl rfl hd_X10_layB ⟨Nat.le_of_ble_eq_true rfl, Nat.le_of_ble_eq_true rfl⟩) (by decide) (wX10_pl k a _) rfl (wX10_rec k a _) rfl (wX10_fst k a _ _) (wX10_put k a _ _) hl rfl rfl (Nat.le_of_ble_eq_true rfl) dX10_become_4 ⟨Nat.le_refl 0, Nat.le_refl 0⟩ (fun H locs hW => ?_)
  exact b_X10_become_b7c l D k a A C0 R (P_X10_layB σ v1 (2 : Int32) v2) v1 v3 v4 v5 hs hR H locs ls hW (lv_sub hl [0, 1, 3, 4, 5] rfl)
set_option maxHeartbeats 400000 in
set_option maxRecDepth 100000 in
theorem m_X10_become (l : Launch) (D : va_G) (k : Nat → ClassId) (a : Nat → Nat) (sz : Nat) (σ : T2) (p0 : Int32) (p1 : Int32) (p2 : Int32) (p3 : Int32) (p4 : Int32) (hs : S_X10_become σ p0 p1 p2 p3 p4) : Met l yX10_become wsX10_become { frames := 1, cells := 0, slots := 0, locals := 23 } (va_Pc [.ref (a 0), .int p0, .int p1, .int p2, .int p3, .int p4] (q_B D (tyL k) (wX10 k a σ) sz)) (va_Qv (fun u => u = P_X10_become σ p0 p1 p2 p3 p4) (fun u => q_E D (tyL k) (va_A (wX10 k a σ) sz) (wX10 k a u)) (va_A (wX10 k a σ) sz)) 0 0 (va_A (wX10 k a σ) sz) := by
  refine q_met [.ref (a 0), .int p0, .int p1, .int p2, .int p3, .int p4] (wX10 k a σ) sz (cc := cX10_become) (maxL := 6) (ret := none) (by decide) rfl (Nat.le_of_ble_eq_true rfl) ?_
  intro p e s m args below meth c ls hsz C0 hW hl hin
  subst hsz
  exact b_X10_become_b0 l D k a _ C0 _ σ p0 p1 p2 p3 p4 hs rfl s.heap [] ls hW (lv_sub hl [0, 1, 2, 3, 4, 5] rfl)
theorem hin_X10_judge_X10 : ∀ w ∈ u_ws RX10 TX10 18, w ∈ wsX10_judge := by decide +kernel
theorem hd_X10_judge : yX10_judge.cls = RX10 ∧ yX10_judge.cls ≠ "java/lang/invoke/MethodHandle" ∧ yX10_judge.cls ≠ "java/lang/invoke/VarHandle" ∧ (parseMethodDescriptor yX10_judge.desc).map (fun d => d.parameters.length) = some 2 := by decide +kernel
noncomputable def P_X10_judge_b98 (σ : T2) : T2 := if (σ 1 9) = 0 then (σ) else (if (σ 1 20) < (σ 1 6) then (σ) else (P_X10_loseLock σ))
def S_X10_judge_b98 (σ : T2) : Prop := ((σ 1 9) = 0 → (True)) ∧ (¬ ((σ 1 9) = 0) → (((σ 1 20) < (σ 1 6) → (True)) ∧ (¬ ((σ 1 20) < (σ 1 6)) → ((S_X10_loseLock σ ) ∧ (True)))))
theorem P_X10_judge_b98_e (σ : T2) : P_X10_judge_b98 σ = if (σ 1 9) = 0 then (σ) else (if (σ 1 20) < (σ 1 6) then (σ) else (P_X10_loseLock σ)) := rfl
theorem S_X10_judge_b98_e (σ : T2) : S_X10_judge_b98 σ = (((σ 1 9) = 0 → (True)) ∧ (¬ ((σ 1 9) = 0) → (((σ 1 20) < (σ 1 6) → (True)) ∧ (¬ ((σ 1 20) < (σ 1 6)) → ((S_X10_loseLock σ ) ∧ (True)))))) := rfl
noncomputable def P_X10_judge_b47 (σ : T2) (v2 : Int32) (t0 : Int32) : T2 := if (σ 1 9) = (1 : Int32) then (P_X10_judge_b98 (u2 σ 1 (upd (σ 1) 20 t0))) else (if v2 = 0 then (P_X10_judge_b98 (u2 σ 1 (upd (σ 1) 20 t0))) else (if (σ 1 19) < (σ 1 5) then (P_X10_judge_b98 (u2 σ 1 (upd (σ 1) 20 t0))) else (P_X10_judge_b98 (u2 σ 1 (upd (upd (upd (σ 1) 20 t0) 9 (1 : Int32)) 16 ((σ 1 16) + (1 : Int32)))))))
def S_X10_judge_b47 (σ : T2) (v2 : Int32) (t0 : Int32) : Prop := ((σ 1 9) = (1 : Int32) → (S_X10_judge_b98 (u2 σ 1 (upd (σ 1) 20 t0)))) ∧ (¬ ((σ 1 9) = (1 : Int32)) → ((v2 = 0 → (S_X10_judge_b98 (u2 σ 1 (upd (σ 1) 20 t0)))) ∧ (¬ (v2 = 0) → (((σ 1 19) < (σ 1 5) → (S_X10_judge_b98 (u2 σ 1 (upd (σ 1) 20 t0)))) ∧ (¬ ((σ 1 19) < (σ 1 5)) → (S_X10_judge_b98 (u2 σ 1 (upd (upd (upd (σ 1) 20 t0) 9 (1 : Int32)) 16 ((σ 1 16) + (1 : Int32))))))))))
theorem P_X10_judge_b47_e (σ : T2) (v2 : Int32) (t0 : Int32) : P_X10_judge_b47 σ v2 t0 = if (σ 1 9) = (1 : Int32) then (P_X10_judge_b98 (u2 σ 1 (upd (σ 1) 20 t0))) else (if v2 = 0 then (P_X10_judge_b98 (u2 σ 1 (upd (σ 1) 20 t0))) else (if (σ 1 19) < (σ 1 5) then (P_X10_judge_b98 (u2 σ 1 (upd (σ 1) 20 t0))) else (P_X10_judge_b98 (u2 σ 1 (upd (upd (upd (σ 1) 20 t0) 9 (1 : Int32)) 16 ((σ 1 16) + (1 : Int32))))))) := rfl
theorem S_X10_judge_b47_e (σ : T2) (v2 : Int32) (t0 : Int32) : S_X10_judge_b47 σ v2 t0 = (((σ 1 9) = (1 : Int32) → (S_X10_judge_b98 (u2 σ 1 (upd (σ 1) 20 t0)))) ∧ (¬ ((σ 1 9) = (1 : Int32)) → ((v2 = 0 → (S_X10_judge_b98 (u2 σ 1 (upd (σ 1) 20 t0)))) ∧ (¬ (v2 = 0) → (((σ 1 19) < (σ 1 5) → (S_X10_judge_b98 (u2 σ 1 (upd (σ 1) 20 t0)))) ∧ (¬ ((σ 1 19) < (σ 1 5)) → (S_X10_judge_b98 (u2 σ 1 (upd (upd (upd (σ 1) 20 t0) 9 (1 : Int32)) 16 ((σ 1 16) + (1 : Int32))))))))))) := rfl
noncomputable def P_X10_judge_b23 (σ : T2) (v1 : Int32) (v2 : Int32) (t0 : Int32) : T2 := if v1 = 0 then (P_X10_judge_b47 (u2 σ 1 (upd (σ 1) 19 t0)) v2 ((σ 1 20) + (1 : Int32))) else (P_X10_judge_b47 (u2 σ 1 (upd (σ 1) 19 t0)) v2 (0 : Int32))
def S_X10_judge_b23 (σ : T2) (v1 : Int32) (v2 : Int32) (t0 : Int32) : Prop := (v1 = 0 → (S_X10_judge_b47 (u2 σ 1 (upd (σ 1) 19 t0)) v2 ((σ 1 20) + (1 : Int32)))) ∧ (¬ (v1 = 0) → (S_X10_judge_b47 (u2 σ 1 (upd (σ 1) 19 t0)) v2 (0 : Int32)))
theorem P_X10_judge_b23_e (σ : T2) (v1 : Int32) (v2 : Int32) (t0 : Int32) : P_X10_judge_b23 σ v1 v2 t0 = if v1 = 0 then (P_X10_judge_b47 (u2 σ 1 (upd (σ 1) 19 t0)) v2 ((σ 1 20) + (1 : Int32))) else (P_X10_judge_b47 (u2 σ 1 (upd (σ 1) 19 t0)) v2 (0 : Int32)) := rfl
theorem S_X10_judge_b23_e (σ : T2) (v1 : Int32) (v2 : Int32) (t0 : Int32) : S_X10_judge_b23 σ v1 v2 t0 = ((v1 = 0 → (S_X10_judge_b47 (u2 σ 1 (upd (σ 1) 19 t0)) v2 ((σ 1 20) + (1 : Int32)))) ∧ (¬ (v1 = 0) → (S_X10_judge_b47 (u2 σ 1 (upd (σ 1) 19 t0)) v2 (0 : Int32)))) := rfl
noncomputable def P_X10_judge_b0 (σ : T2) (v1 : Int32) (v2 : Int32) : T2 := if v1 = 0 then (P_X10_judge_b23 σ v1 v2 (0 : Int32)) else (P_X10_judge_b23 σ v1 v2 ((σ 1 19) + (1 : Int32)))
def S_X10_judge_b0 (σ : T2) (v1 : Int32) (v2 : Int32) : Prop := (v1 = 0 → (S_X10_judge_b23 σ v1 v2 (0 : Int32))) ∧ (¬ (v1 = 0) → (S_X10_judge_b23 σ v1 v2 ((σ 1 19) + (1 : Int32))))
theorem P_X10_judge_b0_e (σ : T2) (v1 : Int32) (v2 : Int32) : P_X10_judge_b0 σ v1 v2 = if v1 = 0 then (P_X10_judge_b23 σ v1 v2 (0 : Int32)) else (P_X10_judge_b23 σ v1 v2 ((σ 1 19) + (1 : Int32))) := rfl
theorem S_X10_judge_b0_e (σ : T2) (v1 : Int32) (v2 : Int32) : S_X10_judge_b0 σ v1 v2 = ((v1 = 0 → (S_X10_judge_b23 σ v1 v2 (0 : Int32))) ∧ (¬ (v1 = 0) → (S_X10_judge_b23 σ v1 v2 ((σ 1 19) + (1 : Int32))))) := rfl
noncomputable def P_X10_judge (σ : T2) (p0 : Int32) (p1 : Int32) : T2 := P_X10_judge_b0 σ p0 p1
def S_X10_judge (σ : T2) (p0 : Int32) (p1 : Int32) : Prop := S_X10_judge_b0 σ p0 p1
set_option maxHeartbeats 400000 in
set_option maxRecDepth 100000 in
theorem b_X10_judge_b98 {p : Program} {e : Env} {s : State} {m : MethodId} {args : Array Value} {below : List Frame} {meth : Method} {c : Code} (l : Launch) (D : va_G) (k : Nat → ClassId) (a : Nat → Nat) (A : Nat → Prop) (C0 : q_C p s m meth c args RX10 cX10_judge 3 none wsX10_judge D (tyL k) A) (R : T2) : ∀ (σ : T2), S_X10_judge_b98 σ → P_X10_judge_b98 σ = R → ∀ (H : Heap) (locs : List Loc) (ls : Array Slot), q_W D A s.heap (wX10 k a σ) H locs → lv_has ls 3 [(0, .ref (a 0))] → W p l e { frames := 1, cells := 0, slots := 0, locals := 20 } s m args below meth c H locs 0 0 (MQ below (va_Qv (fun u => u = R) (fun u => q_E D (tyL k) A (wX10 k a u)) A) args s 0 0 A) (F0 m 98 ls []) := by
  intro σ hs hR H locs ls hW hl
  rw [P_X10_judge_b98_e] at hR
  rw [S_X10_judge_b98_e] at hs
  obtain ⟨hx, hb, hr, hml, hts, hown, hlocks, hK, hA⟩ := id C0
  have hf7 := hts (.fieldLink RX10 7 "BeatFollowerModel" "at" "[I") (by decide +kernel)
  have hinX10 : ∀ w ∈ u_ws RX10 TX10 18, w ∈ wsX10_judge := hin_X10_judge_X10
  refine lv_aload_n hx hb dX10_judge_98 rfl (lv_at hl 0 rfl) ?_
  refine va_get (v := .ref (a 1)) (C := RX10) (T := TX10) (N := 18) hx hb hts hinX10 hown hK hW.1 0 rfl rfl 0 (by decide) hf7 (fun _ h9 => h9) rfl dX10_judge_99 ?_
  refine lv_bipush (v := (9 : Int32)) hx hb dX10_judge_102 (by decide) ?_
  refine q_iald (v := σ 1 9) C0 hW 1 rfl rfl vi_9_672 cl_9 rfl dX10_judge_104 ?_
  refine lv_if_eq (tgt := 129) hx hb dX10_judge_105 (by decide) (fun c_4 => ?_) (fun c_4 => ?_)
  · have hs := hs.1 c_4
    rw [if_pos c_4] at hR
    exact q_vret C0 hW hR dX10_judge_129
  · have hs := hs.2 c_4
    rw [if_neg c_4] at hR
    refine lv_aload_n hx hb dX10_judge_108 rfl (lv_at hl 0 rfl) ?_
    refine va_get (v := .ref (a 1)) (C := RX10) (T := TX10) (N := 18) hx hb hts hinX10 hown hK hW.1 0 rfl rfl 0 (by decide) hf7 (fun _ h9 => h9) rfl dX10_judge_109 ?_
    refine lv_bipush (v := (20 : Int32)) hx hb dX10_judge_112 (by decide) ?_
    refine q_iald (v := σ 1 20) C0 hW 1 rfl rfl vi_20_672 cl_20 rfl dX10_judge_114 ?_
    refine lv_aload_n hx hb dX10_judge_115 rfl (lv_at hl 0 rfl) ?_
    refine va_get (v := .ref (a 1)) (C := RX10) (T := TX10) (N := 18) hx hb hts hinX10 hown hK hW.1 0 rfl rfl 0 (by decide) hf7 (fun _ h9 => h9) rfl dX10_judge_116 ?_
    refine lv_bipush (v := (6 : Int32)) hx hb dX10_judge_119 (by decide) ?_
    refine q_iald (v := σ 1 6) C0 hW 1 rfl rfl vi_6_672 cl_6 rfl dX10_judge_121 ?_
    refine lv_icmp_lt (tgt := 129) hx hb dX10_judge_122 (by decide) (fun c_5 => ?_) (fun c_5 => ?_)
    · have hs := hs.1 c_5
      rw [if_pos c_5] at hR
      exact q_vret C0 hW hR dX10_judge_129
    · have hs := hs.2 c_5
      rw [if_neg c_5] at hR
      refine lv_aload_n hx hb dX10_judge_125 rfl (lv_at hl 0 rfl) ?_
      have hs6 := hs.1
      have hs := hs.2
      refine q_Vv (As := []) (rest := []) (wf := wX10 k a) (R := P_X10_loseLock σ) (wd' := wX10 k a (P_X10_loseLock σ)) [0, 1, 2, 3, 4, 5, 6, 7, 8] [0, 1, 2, 3] 0 10 C0 hW (m_X10_loseLock l D k a H.size σ  hs6) (cwV 0 hts gX10_judge_X10_loseLock rfl rfl rfl hd_X10_loseLock ⟨Nat.le_of_ble_eq_true rfl, Nat.le_of_ble_eq_true rfl⟩) (by decide) (wX10_pl k a _) rfl (wX10_rec k a _) rfl (wX10_fst k a _ _) (wX10_put k a _ _) hl rfl rfl (Nat.le_of_ble_eq_true rfl) dX10_judge_126 ⟨Nat.le_refl 0, Nat.le_refl 0⟩ (fun H locs hW => ?_)
      exact q_vret C0 hW hR dX10_judge_129
set_option maxHeartbeats 400000 in
set_option maxRecDepth 100000 in
theorem b_X10_judge_b47 {p : Program} {e : Env} {s : State} {m : MethodId} {args : Array Value} {below : List Frame} {meth : Method} {c : Code} (l : Launch) (D : va_G) (k : Nat → ClassId) (a : Nat → Nat) (A : Nat → Prop) (C0 : q_C p s m meth c args RX10 cX10_judge 3 none wsX10_judge D (tyL k) A) (R : T2) : ∀ (σ : T2) (v2 : Int32) (t0 : Int32), S_X10_judge_b47 σ v2 t0 → P_X10_judge_b47 σ v2 t0 = R → ∀ (H : Heap) (locs : List Loc) (ls : Array Slot), q_W D A s.heap (wX10 k a σ) H locs → lv_has ls 3 [(0, .ref (a 0)), (2, .int v2)] → W p l e { frames := 1, cells := 0, slots := 0, locals := 20 } s m args below meth c H locs 0 0 (MQ below (va_Qv (fun u => u = R) (fun u => q_E D (tyL k) A (wX10 k a u)) A) args s 0 0 A) (F0 m 47 ls [.int t0, .int (20 : Int32), .ref (a 1)]) := by
  intro σ v2 t0 hs hR H locs ls hW hl
  rw [P_X10_judge_b47_e] at hR
  rw [S_X10_judge_b47_e] at hs
  obtain ⟨hx, hb, hr, hml, hts, hown, hlocks, hK, hA⟩ := id C0
  have hf7 := hts (.fieldLink RX10 7 "BeatFollowerModel" "at" "[I") (by decide +kernel)
  have hinX10 : ∀ w ∈ u_ws RX10 TX10 18, w ∈ wsX10_judge := hin_X10_judge_X10
  refine q_iast (f := σ 1) (wd' := wX10 k a (u2 σ 1 (upd (σ 1) 20 t0))) C0 hW 1 rfl rfl vi_20_672 cl_20 dX10_judge_47 (wX10_s1 k a _ _) (fun H locs hW => ?_)
  refine lv_aload_n hx hb dX10_judge_48 rfl (lv_at hl 0 rfl) ?_
  refine va_get (v := .ref (a 1)) (C := RX10) (T := TX10) (N := 18) hx hb hts hinX10 hown hK hW.1 0 rfl rfl 0 (by decide) hf7 (fun _ h9 => h9) rfl dX10_judge_49 ?_
  refine lv_bipush (v := (9 : Int32)) hx hb dX10_judge_52 (by decide) ?_
  refine q_iald (v := σ 1 9) C0 hW 1 rfl rfl vi_9_672 cl_9 rfl dX10_judge_54 ?_
  refine lv_iconst (v := (1 : Int32)) hx hb dX10_judge_55 (by decide) ?_
  refine lv_icmp_eq (tgt := 98) hx hb dX10_judge_56 (by decide) (fun c_3 => ?_) (fun c_3 => ?_)
  · have hs := hs.1 c_3
    rw [if_pos c_3] at hR
    exact b_X10_judge_b98 l D k a A C0 R (u2 σ 1 (upd (σ 1) 20 t0)) hs hR H locs ls hW (lv_sub hl [0] rfl)
  · have hs := hs.2 c_3
    rw [if_neg c_3] at hR
    refine lv_iload_n hx hb dX10_judge_59 rfl (lv_at hl 1 rfl) ?_
    refine lv_if_eq (tgt := 98) hx hb dX10_judge_60 (by decide) (fun c_7 => ?_) (fun c_7 => ?_)
    · have hs := hs.1 c_7
      rw [if_pos c_7] at hR
      exact b_X10_judge_b98 l D k a A C0 R (u2 σ 1 (upd (σ 1) 20 t0)) hs hR H locs ls hW (lv_sub hl [0] rfl)
    · have hs := hs.2 c_7
      rw [if_neg c_7] at hR
      refine lv_aload_n hx hb dX10_judge_63 rfl (lv_at hl 0 rfl) ?_
      refine va_get (v := .ref (a 1)) (C := RX10) (T := TX10) (N := 18) hx hb hts hinX10 hown hK hW.1 0 rfl rfl 0 (by decide) hf7 (fun _ h9 => h9) rfl dX10_judge_64 ?_
      refine lv_bipush (v := (19 : Int32)) hx hb dX10_judge_67 (by decide) ?_
      refine q_iald (v := σ 1 19) C0 hW 1 rfl rfl vi_19_672 cl_19 rfl dX10_judge_69 ?_
      refine lv_aload_n hx hb dX10_judge_70 rfl (lv_at hl 0 rfl) ?_
      refine va_get (v := .ref (a 1)) (C := RX10) (T := TX10) (N := 18) hx hb hts hinX10 hown hK hW.1 0 rfl rfl 0 (by decide) hf7 (fun _ h9 => h9) rfl dX10_judge_71 ?_
      refine lv_iconst (v := (5 : Int32)) hx hb dX10_judge_74 (by decide) ?_
      refine q_iald (v := σ 1 5) C0 hW 1 rfl rfl vi_5_672 cl_5 rfl dX10_judge_75 ?_
      refine lv_icmp_lt (tgt := 98) hx hb dX10_judge_76 (by decide) (fun c_8 => ?_) (fun c_8 => ?_)
      · have hs := hs.1 c_8
        rw [if_pos c_8] at hR
        exact b_X10_judge_b98 l D k a A C0 R (u2 σ 1 (upd (σ 1) 20 t0)) hs hR H locs ls hW (lv_sub hl [0] rfl)
      · have hs := hs.2 c_8
        rw [if_neg c_8] at hR
        refine lv_aload_n hx hb dX10_judge_79 rfl (lv_at hl 0 rfl) ?_
        refine va_get (v := .ref (a 1)) (C := RX10) (T := TX10) (N := 18) hx hb hts hinX10 hown hK hW.1 0 rfl rfl 0 (by decide) hf7 (fun _ h9 => h9) rfl dX10_judge_80 ?_
        refine lv_bipush (v := (9 : Int32)) hx hb dX10_judge_83 (by decide) ?_
        refine lv_iconst (v := (1 : Int32)) hx hb dX10_judge_85 (by decide) ?_
        refine q_iast (f := upd (σ 1) 20 t0) (wd' := wX10 k a (u2 σ 1 (upd (upd (σ 1) 20 t0) 9 (1 : Int32)))) C0 hW 1 rfl rfl vi_9_672 cl_9 dX10_judge_86 ((wX10_s1 k a _ _).trans (congrArg (wX10 k a) (u2_same _ _ _ _))) (fun H locs hW => ?_)
        refine lv_aload_n hx hb dX10_judge_87 rfl (lv_at hl 0 rfl) ?_
        refine va_get (v := .ref (a 1)) (C := RX10) (T := TX10) (N := 18) hx hb hts hinX10 hown hK hW.1 0 rfl rfl 0 (by decide) hf7 (fun _ h9 => h9) rfl dX10_judge_88 ?_
        refine lv_bipush (v := (16 : Int32)) hx hb dX10_judge_91 (by decide) ?_
        refine lv_dup2_11 hx hb dX10_judge_93 rfl rfl ?_
        refine q_iald (v := σ 1 16) C0 hW 1 rfl rfl vi_16_672 cl_16 rfl dX10_judge_94 ?_
        refine lv_iconst (v := (1 : Int32)) hx hb dX10_judge_95 (by decide) ?_
        refine lv_iadd hx hb dX10_judge_96 ?_
        refine q_iast (f := upd (upd (σ 1) 20 t0) 9 (1 : Int32)) (wd' := wX10 k a (u2 σ 1 (upd (upd (upd (σ 1) 20 t0) 9 (1 : Int32)) 16 ((σ 1 16) + (1 : Int32))))) C0 hW 1 rfl rfl vi_16_672 cl_16 dX10_judge_97 ((wX10_s1 k a _ _).trans (congrArg (wX10 k a) (u2_same _ _ _ _))) (fun H locs hW => ?_)
        exact b_X10_judge_b98 l D k a A C0 R (u2 σ 1 (upd (upd (upd (σ 1) 20 t0) 9 (1 : Int32)) 16 ((σ 1 16) + (1 : Int32)))) hs hR H locs ls hW (lv_sub hl [0] rfl)
set_option maxHeartbeats 400000 in
set_option maxRecDepth 100000 in
theorem b_X10_judge_b23 {p : Program} {e : Env} {s : State} {m : MethodId} {args : Array Value} {below : List Frame} {meth : Method} {c : Code} (l : Launch) (D : va_G) (k : Nat → ClassId) (a : Nat → Nat) (A : Nat → Prop) (C0 : q_C p s m meth c args RX10 cX10_judge 3 none wsX10_judge D (tyL k) A) (R : T2) : ∀ (σ : T2) (v1 : Int32) (v2 : Int32) (t0 : Int32), S_X10_judge_b23 σ v1 v2 t0 → P_X10_judge_b23 σ v1 v2 t0 = R → ∀ (H : Heap) (locs : List Loc) (ls : Array Slot), q_W D A s.heap (wX10 k a σ) H locs → lv_has ls 3 [(0, .ref (a 0)), (1, .int v1), (2, .int v2)] → W p l e { frames := 1, cells := 0, slots := 0, locals := 20 } s m args below meth c H locs 0 0 (MQ below (va_Qv (fun u => u = R) (fun u => q_E D (tyL k) A (wX10 k a u)) A) args s 0 0 A) (F0 m 23 ls [.int t0, .int (19 : Int32), .ref (a 1)]) := by
  intro σ v1 v2 t0 hs hR H locs ls hW hl
  rw [P_X10_judge_b23_e] at hR
  rw [S_X10_judge_b23_e] at hs
  obtain ⟨hx, hb, hr, hml, hts, hown, hlocks, hK, hA⟩ := id C0
  have hf7 := hts (.fieldLink RX10 7 "BeatFollowerModel" "at" "[I") (by decide +kernel)
  have hinX10 : ∀ w ∈ u_ws RX10 TX10 18, w ∈ wsX10_judge := hin_X10_judge_X10
  refine q_iast (f := σ 1) (wd' := wX10 k a (u2 σ 1 (upd (σ 1) 19 t0))) C0 hW 1 rfl rfl vi_19_672 cl_19 dX10_judge_23 (wX10_s1 k a _ _) (fun H locs hW => ?_)
  refine lv_aload_n hx hb dX10_judge_24 rfl (lv_at hl 0 rfl) ?_
  refine va_get (v := .ref (a 1)) (C := RX10) (T := TX10) (N := 18) hx hb hts hinX10 hown hK hW.1 0 rfl rfl 0 (by decide) hf7 (fun _ h9 => h9) rfl dX10_judge_25 ?_
  refine lv_bipush (v := (20 : Int32)) hx hb dX10_judge_28 (by decide) ?_
  refine lv_iload_n hx hb dX10_judge_30 rfl (lv_at hl 1 rfl) ?_
  refine lv_if_eq (tgt := 38) hx hb dX10_judge_31 (by decide) (fun c_2 => ?_) (fun c_2 => ?_)
  · have hs := hs.1 c_2
    rw [if_pos c_2] at hR
    refine lv_aload_n hx hb dX10_judge_38 rfl (lv_at hl 0 rfl) ?_
    refine va_get (v := .ref (a 1)) (C := RX10) (T := TX10) (N := 18) hx hb hts hinX10 hown hK hW.1 0 rfl rfl 0 (by decide) hf7 (fun _ h9 => h9) rfl dX10_judge_39 ?_
    refine lv_bipush (v := (20 : Int32)) hx hb dX10_judge_42 (by decide) ?_
    refine q_iald (v := σ 1 20) C0 hW 1 rfl rfl vi_20_672 cl_20 rfl dX10_judge_44 ?_
    refine lv_iconst (v := (1 : Int32)) hx hb dX10_judge_45 (by decide) ?_
    refine lv_iadd hx hb dX10_judge_46 ?_
    exact b_X10_judge_b47 l D k a A C0 R (u2 σ 1 (upd (σ 1) 19 t0)) v2 ((σ 1 20) + (1 : Int32)) hs hR H locs ls hW (lv_sub hl [0, 2] rfl)
  · have hs := hs.2 c_2
    rw [if_neg c_2] at hR
    refine lv_iconst (v := (0 : Int32)) hx hb dX10_judge_34 (by decide) ?_
    refine lv_goto (tgt := 47) hx hb dX10_judge_35 (by decide) ?_
    exact b_X10_judge_b47 l D k a A C0 R (u2 σ 1 (upd (σ 1) 19 t0)) v2 (0 : Int32) hs hR H locs ls hW (lv_sub hl [0, 2] rfl)
set_option maxHeartbeats 400000 in
set_option maxRecDepth 100000 in
theorem b_X10_judge_b0 {p : Program} {e : Env} {s : State} {m : MethodId} {args : Array Value} {below : List Frame} {meth : Method} {c : Code} (l : Launch) (D : va_G) (k : Nat → ClassId) (a : Nat → Nat) (A : Nat → Prop) (C0 : q_C p s m meth c args RX10 cX10_judge 3 none wsX10_judge D (tyL k) A) (R : T2) : ∀ (σ : T2) (v1 : Int32) (v2 : Int32), S_X10_judge_b0 σ v1 v2 → P_X10_judge_b0 σ v1 v2 = R → ∀ (H : Heap) (locs : List Loc) (ls : Array Slot), q_W D A s.heap (wX10 k a σ) H locs → lv_has ls 3 [(0, .ref (a 0)), (1, .int v1), (2, .int v2)] → W p l e { frames := 1, cells := 0, slots := 0, locals := 20 } s m args below meth c H locs 0 0 (MQ below (va_Qv (fun u => u = R) (fun u => q_E D (tyL k) A (wX10 k a u)) A) args s 0 0 A) (F0 m 0 ls []) := by
  intro σ v1 v2 hs hR H locs ls hW hl
  rw [P_X10_judge_b0_e] at hR
  rw [S_X10_judge_b0_e] at hs
  obtain ⟨hx, hb, hr, hml, hts, hown, hlocks, hK, hA⟩ := id C0
  have hf7 := hts (.fieldLink RX10 7 "BeatFollowerModel" "at" "[I") (by decide +kernel)
  have hinX10 : ∀ w ∈ u_ws RX10 TX10 18, w ∈ wsX10_judge := hin_X10_judge_X10
  refine lv_aload_n hx hb dX10_judge_0 rfl (lv_at hl 0 rfl) ?_
  refine va_get (v := .ref (a 1)) (C := RX10) (T := TX10) (N := 18) hx hb hts hinX10 hown hK hW.1 0 rfl rfl 0 (by decide) hf7 (fun _ h9 => h9) rfl dX10_judge_1 ?_
  refine lv_bipush (v := (19 : Int32)) hx hb dX10_judge_4 (by decide) ?_
  refine lv_iload_n hx hb dX10_judge_6 rfl (lv_at hl 1 rfl) ?_
  refine lv_if_eq (tgt := 22) hx hb dX10_judge_7 (by decide) (fun c_1 => ?_) (fun c_1 => ?_)
  · have hs := hs.1 c_1
    rw [if_pos c_1] at hR
    refine lv_iconst (v := (0 : Int32)) hx hb dX10_judge_22 (by decide) ?_
    exact b_X10_judge_b23 l D k a A C0 R σ v1 v2 (0 : Int32) hs hR H locs ls hW (lv_sub hl [0, 1, 2] rfl)
  · have hs := hs.2 c_1
    rw [if_neg c_1] at hR
    refine lv_aload_n hx hb dX10_judge_10 rfl (lv_at hl 0 rfl) ?_
    refine va_get (v := .ref (a 1)) (C := RX10) (T := TX10) (N := 18) hx hb hts hinX10 hown hK hW.1 0 rfl rfl 0 (by decide) hf7 (fun _ h9 => h9) rfl dX10_judge_11 ?_
    refine lv_bipush (v := (19 : Int32)) hx hb dX10_judge_14 (by decide) ?_
    refine q_iald (v := σ 1 19) C0 hW 1 rfl rfl vi_19_672 cl_19 rfl dX10_judge_16 ?_
    refine lv_iconst (v := (1 : Int32)) hx hb dX10_judge_17 (by decide) ?_
    refine lv_iadd hx hb dX10_judge_18 ?_
    refine lv_goto (tgt := 23) hx hb dX10_judge_19 (by decide) ?_
    exact b_X10_judge_b23 l D k a A C0 R σ v1 v2 ((σ 1 19) + (1 : Int32)) hs hR H locs ls hW (lv_sub hl [0, 1, 2] rfl)
set_option maxHeartbeats 400000 in
set_option maxRecDepth 100000 in
theorem m_X10_judge (l : Launch) (D : va_G) (k : Nat → ClassId) (a : Nat → Nat) (sz : Nat) (σ : T2) (p0 : Int32) (p1 : Int32) (hs : S_X10_judge σ p0 p1) : Met l yX10_judge wsX10_judge { frames := 1, cells := 0, slots := 0, locals := 20 } (va_Pc [.ref (a 0), .int p0, .int p1] (q_B D (tyL k) (wX10 k a σ) sz)) (va_Qv (fun u => u = P_X10_judge σ p0 p1) (fun u => q_E D (tyL k) (va_A (wX10 k a σ) sz) (wX10 k a u)) (va_A (wX10 k a σ) sz)) 0 0 (va_A (wX10 k a σ) sz) := by
  refine q_met [.ref (a 0), .int p0, .int p1] (wX10 k a σ) sz (cc := cX10_judge) (maxL := 3) (ret := none) (by decide) rfl (Nat.le_of_ble_eq_true rfl) ?_
  intro p e s m args below meth c ls hsz C0 hW hl hin
  subst hsz
  exact b_X10_judge_b0 l D k a _ C0 _ σ p0 p1 hs rfl s.heap [] ls hW (lv_sub hl [0, 1, 2] rfl)
