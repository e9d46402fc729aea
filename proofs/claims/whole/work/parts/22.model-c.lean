theorem cl_8 : (8 : Int32).toNatClampNeg = 8 := by decide
theorem vi_8_672 : vp_in 8 672 := by unfold vp_in; decide
theorem hin_X10_keep_X10 : ∀ w ∈ u_ws RX10 TX10 18, w ∈ wsX10_keep := by decide +kernel
theorem hd_X10_keep : yX10_keep.cls = RX10 ∧ yX10_keep.cls ≠ "java/lang/invoke/MethodHandle" ∧ yX10_keep.cls ≠ "java/lang/invoke/VarHandle" ∧ (parseMethodDescriptor yX10_keep.desc).map (fun d => d.parameters.length) = some 0 := by decide +kernel
noncomputable def P_X10_keep_b47 (n : Nat) : T2 → Int32 → Int32 → T2 := Nat.rec (motive := fun _ => T2 → Int32 → Int32 → T2) (fun _ _ _ => (fun _ _ => 0)) (fun _ pk47 => fun σ v1 v2 => if (672 : Int32) ≤ v2 then (u2 σ 0 (upd (σ 0) 3 ((σ 0 3) + (1 : Int32)))) else (pk47 (u2 σ 2 (upd (σ 2) ((((672 : Int32) * v1) + v2).toNatClampNeg) (σ 1 v2.toNatClampNeg))) v1 (v2 + (1 : Int32)))) n
def S_X10_keep_b47 (n : Nat) : T2 → Int32 → Int32 → Prop := Nat.rec (motive := fun _ => T2 → Int32 → Int32 → Prop) (fun _ _ _ => False) (fun _ sk47 => fun σ v1 v2 => ((672 : Int32) ≤ v2 → (True)) ∧ (¬ ((672 : Int32) ≤ v2) → ((vp_in v2 672) ∧ ((vp_in (((672 : Int32) * v1) + v2) 4032) ∧ (sk47 (u2 σ 2 (upd (σ 2) ((((672 : Int32) * v1) + v2).toNatClampNeg) (σ 1 v2.toNatClampNeg))) v1 (v2 + (1 : Int32))))))) n
theorem P_X10_keep_b47_e (n : Nat) (σ : T2) (v1 : Int32) (v2 : Int32) : P_X10_keep_b47 (n + 1) σ v1 v2 = if (672 : Int32) ≤ v2 then (u2 σ 0 (upd (σ 0) 3 ((σ 0 3) + (1 : Int32)))) else ((P_X10_keep_b47 n) (u2 σ 2 (upd (σ 2) ((((672 : Int32) * v1) + v2).toNatClampNeg) (σ 1 v2.toNatClampNeg))) v1 (v2 + (1 : Int32))) := rfl
theorem S_X10_keep_b47_e (n : Nat) (σ : T2) (v1 : Int32) (v2 : Int32) : S_X10_keep_b47 (n + 1) σ v1 v2 = (((672 : Int32) ≤ v2 → (True)) ∧ (¬ ((672 : Int32) ≤ v2) → ((vp_in v2 672) ∧ ((vp_in (((672 : Int32) * v1) + v2) 4032) ∧ ((S_X10_keep_b47 n) (u2 σ 2 (upd (σ 2) ((((672 : Int32) * v1) + v2).toNatClampNeg) (σ 1 v2.toNatClampNeg))) v1 (v2 + (1 : Int32))))))) := rfl
noncomputable def P_X10_keep_b45n (σ : T2) (v1 : Int32) : T2 := P_X10_keep_b47 FU σ v1 (0 : Int32)
def S_X10_keep_b45n (σ : T2) (v1 : Int32) : Prop := S_X10_keep_b47 FU σ v1 (0 : Int32)
theorem P_X10_keep_b45n_e (σ : T2) (v1 : Int32) : P_X10_keep_b45n σ v1 = P_X10_keep_b47 FU σ v1 (0 : Int32) := rfl
theorem S_X10_keep_b45n_e (σ : T2) (v1 : Int32) : S_X10_keep_b45n σ v1 = (S_X10_keep_b47 FU σ v1 (0 : Int32)) := rfl
noncomputable def P_X10_keep_b32 (σ : T2) : T2 := P_X10_keep_b45n σ (((σ 0 2) + (σ 0 3)) - ((σ 0 2) + (σ 0 3)) / (6 : Int32) * (6 : Int32))
def S_X10_keep_b32 (σ : T2) : Prop := S_X10_keep_b45n σ (((σ 0 2) + (σ 0 3)) - ((σ 0 2) + (σ 0 3)) / (6 : Int32) * (6 : Int32))
theorem P_X10_keep_b32_e (σ : T2) : P_X10_keep_b32 σ = P_X10_keep_b45n σ (((σ 0 2) + (σ 0 3)) - ((σ 0 2) + (σ 0 3)) / (6 : Int32) * (6 : Int32)) := rfl
theorem S_X10_keep_b32_e (σ : T2) : S_X10_keep_b32 σ = (S_X10_keep_b45n σ (((σ 0 2) + (σ 0 3)) - ((σ 0 2) + (σ 0 3)) / (6 : Int32) * (6 : Int32))) := rfl
noncomputable def P_X10_keep_b0 (σ : T2) : T2 := if (σ 0 3) = (6 : Int32) then (P_X10_keep_b32 (u2 σ 0 (upd (upd (σ 0) 2 (((σ 0 2) + (1 : Int32)) - ((σ 0 2) + (1 : Int32)) / (6 : Int32) * (6 : Int32))) 3 ((σ 0 3) - (1 : Int32))))) else (P_X10_keep_b32 σ)
def S_X10_keep_b0 (σ : T2) : Prop := ((σ 0 3) = (6 : Int32) → (S_X10_keep_b32 (u2 σ 0 (upd (upd (σ 0) 2 (((σ 0 2) + (1 : Int32)) - ((σ 0 2) + (1 : Int32)) / (6 : Int32) * (6 : Int32))) 3 ((σ 0 3) - (1 : Int32)))))) ∧ (¬ ((σ 0 3) = (6 : Int32)) → (S_X10_keep_b32 σ))
theorem P_X10_keep_b0_e (σ : T2) : P_X10_keep_b0 σ = if (σ 0 3) = (6 : Int32) then (P_X10_keep_b32 (u2 σ 0 (upd (upd (σ 0) 2 (((σ 0 2) + (1 : Int32)) - ((σ 0 2) + (1 : Int32)) / (6 : Int32) * (6 : Int32))) 3 ((σ 0 3) - (1 : Int32))))) else (P_X10_keep_b32 σ) := rfl
theorem S_X10_keep_b0_e (σ : T2) : S_X10_keep_b0 σ = (((σ 0 3) = (6 : Int32) → (S_X10_keep_b32 (u2 σ 0 (upd (upd (σ 0) 2 (((σ 0 2) + (1 : Int32)) - ((σ 0 2) + (1 : Int32)) / (6 : Int32) * (6 : Int32))) 3 ((σ 0 3) - (1 : Int32)))))) ∧ (¬ ((σ 0 3) = (6 : Int32)) → (S_X10_keep_b32 σ))) := rfl
noncomputable def P_X10_keep (σ : T2) : T2 := P_X10_keep_b0 σ
def S_X10_keep (σ : T2) : Prop := S_X10_keep_b0 σ
set_option maxHeartbeats 400000 in
set_option maxRecDepth 100000 in
theorem b_X10_keep_b47 {p : Program} {e : Env} {s : State} {m : MethodId} {args : Array Value} {below : List Frame} {meth : Method} {c : Code} (l : Launch) (D : va_G) (k : Nat → ClassId) (a : Nat → Nat) (A : Nat → Prop) (C0 : q_C p s m meth c args RX10 cX10_keep 3 none wsX10_keep D (tyL k) A) (R : T2) : ∀ n : Nat, ∀ (σ : T2) (v1 : Int32) (v2 : Int32), S_X10_keep_b47 n σ v1 v2 → P_X10_keep_b47 n σ v1 v2 = R → ∀ (H : Heap) (locs : List Loc) (ls : Array Slot), q_W D A s.heap (wX10 k a σ) H locs → lv_has ls 3 [(0, .ref (a 0)), (1, .int v1), (2, .int v2)] → W p l e { frames := 0, cells := 0, slots := 0, locals := 0 } s m args below meth c H locs 0 0 (MQ below (va_Qv (fun u => u = R) (fun u => q_E D (tyL k) A (wX10 k a u)) A) args s 0 0 A) (F0 m 47 ls []) := by
  intro n
  induction n with
  | zero => intro σ v1 v2 hs; exact False.elim hs
  | succ n ih =>
    intro σ v1 v2 hs hR H locs ls hW hl
    rw [P_X10_keep_b47_e] at hR
    rw [S_X10_keep_b47_e] at hs
    obtain ⟨hx, hb, hr, hml, hts, hown, hlocks, hK, hA⟩ := id C0
    have hf7 := hts (.fieldLink RX10 7 "BeatFollowerModel" "at" "[I") (by decide +kernel)
    have hf13 := hts (.fieldLink RX10 13 "BeatFollowerModel" "past" "[I") (by decide +kernel)
    have hf39 := hts (.fieldLink RX10 39 "BeatFollowerModel" "pastMany" "I") (by decide +kernel)
    have hinX10 : ∀ w ∈ u_ws RX10 TX10 18, w ∈ wsX10_keep := hin_X10_keep_X10
    refine lv_iload_n hx hb dX10_keep_47 rfl (lv_at hl 2 rfl) ?_
    refine lv_sipush (v := (672 : Int32)) hx hb dX10_keep_48 (by decide) ?_
    refine lv_icmp_ge (tgt := 78) hx hb dX10_keep_51 (by decide) (fun c_2 => ?_) (fun c_2 => ?_)
    · have hs := hs.1 c_2
      rw [if_pos c_2] at hR
      refine lv_aload_n hx hb dX10_keep_78 rfl (lv_at hl 0 rfl) ?_
      refine lv_dup hx hb dX10_keep_79 rfl ?_
      refine va_get (v := .int (σ 0 3)) (C := RX10) (T := TX10) (N := 18) hx hb hts hinX10 hown hK hW.1 0 rfl rfl 3 (by decide) hf39 (fun _ h9 => h9) rfl dX10_keep_80 ?_
      refine lv_iconst (v := (1 : Int32)) hx hb dX10_keep_83 (by decide) ?_
      refine lv_iadd hx hb dX10_keep_84 ?_
      refine q_putf (ty := .int) (wd' := wX10 k a (u2 σ 0 (upd (σ 0) 3 ((σ 0 3) + (1 : Int32))))) C0 hW hinX10 tyX10 tyX10_ok nmX10 0 rfl rfl 3 (by decide) hf39 rfl (by decide +kernel) rfl rfl (Nat.le_of_ble_eq_true rfl) dX10_keep_85 (fX10_s3 _ _ _) (wX10_s0 k a _ _) (fun H locs hW => ?_)
      exact q_vret C0 hW hR dX10_keep_88
    · have hs := hs.2 c_2
      rw [if_neg c_2] at hR
      refine lv_aload_n hx hb dX10_keep_54 rfl (lv_at hl 0 rfl) ?_
      refine va_get (v := .ref (a 2)) (C := RX10) (T := TX10) (N := 18) hx hb hts hinX10 hown hK hW.1 0 rfl rfl 1 (by decide) hf13 (fun _ h9 => h9) rfl dX10_keep_55 ?_
      refine lv_sipush (v := (672 : Int32)) hx hb dX10_keep_58 (by decide) ?_
      refine lv_iload_n hx hb dX10_keep_61 rfl (lv_at hl 1 rfl) ?_
      refine lv_imul hx hb dX10_keep_62 ?_
      refine lv_iload_n hx hb dX10_keep_63 rfl (lv_at hl 2 rfl) ?_
      refine lv_iadd hx hb dX10_keep_64 ?_
      refine lv_aload_n hx hb dX10_keep_65 rfl (lv_at hl 0 rfl) ?_
      refine va_get (v := .ref (a 1)) (C := RX10) (T := TX10) (N := 18) hx hb hts hinX10 hown hK hW.1 0 rfl rfl 0 (by decide) hf7 (fun _ h9 => h9) rfl dX10_keep_66 ?_
      refine lv_iload_n hx hb dX10_keep_69 rfl (lv_at hl 2 rfl) ?_
      have hi3 := hs.1
      have hs := hs.2
      refine q_iald (v := σ 1 v2.toNatClampNeg) C0 hW 1 rfl rfl hi3 rfl rfl dX10_keep_70 ?_
      have hi4 := hs.1
      have hs := hs.2
      refine q_iast (f := σ 2) (wd' := wX10 k a (u2 σ 2 (upd (σ 2) ((((672 : Int32) * v1) + v2).toNatClampNeg) (σ 1 v2.toNatClampNeg)))) C0 hW 2 rfl rfl hi4 rfl dX10_keep_71 (wX10_s2 k a _ _) (fun H locs hW => ?_)
      refine lv_iinc (v := v2 + (1 : Int32)) (lv' := [(2, .int (v2 + (1 : Int32))), (0, .ref (a 0)), (1, .int v1)]) hx hb dX10_keep_72 hl (k := 2) rfl rfl (by decide) rfl (fun ls hl => ?_)
      refine lv_goto (tgt := 47) hx hb dX10_keep_75 (by decide) ?_
      exact ih (u2 σ 2 (upd (σ 2) ((((672 : Int32) * v1) + v2).toNatClampNeg) (σ 1 v2.toNatClampNeg))) v1 (v2 + (1 : Int32)) hs hR H locs ls hW (lv_sub hl [1, 2, 0] rfl)
set_option maxHeartbeats 400000 in
set_option maxRecDepth 100000 in
theorem b_X10_keep_b45n {p : Program} {e : Env} {s : State} {m : MethodId} {args : Array Value} {below : List Frame} {meth : Method} {c : Code} (l : Launch) (D : va_G) (k : Nat → ClassId) (a : Nat → Nat) (A : Nat → Prop) (C0 : q_C p s m meth c args RX10 cX10_keep 3 none wsX10_keep D (tyL k) A) (R : T2) : ∀ (σ : T2) (v1 : Int32), S_X10_keep_b45n σ v1 → P_X10_keep_b45n σ v1 = R → ∀ (H : Heap) (locs : List Loc) (ls : Array Slot), q_W D A s.heap (wX10 k a σ) H locs → lv_has ls 3 [(0, .ref (a 0)), (1, .int v1)] → W p l e { frames := 0, cells := 0, slots := 0, locals := 0 } s m args below meth c H locs 0 0 (MQ below (va_Qv (fun u => u = R) (fun u => q_E D (tyL k) A (wX10 k a u)) A) args s 0 0 A) (F0 m 45 ls []) := by
  intro σ v1 hs hR H locs ls hW hl
  rw [P_X10_keep_b45n_e] at hR
  rw [S_X10_keep_b45n_e] at hs
  obtain ⟨hx, hb, hr, hml, hts, hown, hlocks, hK, hA⟩ := id C0
  refine lv_iconst (v := (0 : Int32)) hx hb dX10_keep_45 (by decide) ?_
  refine lv_istore_n (lv' := [(2, .int (0 : Int32)), (0, .ref (a 0)), (1, .int v1)]) hx hb dX10_keep_46 rfl hl (by decide) rfl (fun ls hl => ?_)
  exact b_X10_keep_b47 l D k a A C0 R FU σ v1 (0 : Int32) hs hR H locs ls hW (lv_sub hl [1, 2, 0] rfl)
set_option maxHeartbeats 400000 in
set_option maxRecDepth 100000 in
theorem b_X10_keep_b32 {p : Program} {e : Env} {s : State} {m : MethodId} {args : Array Value} {below : List Frame} {meth : Method} {c : Code} (l : Launch) (D : va_G) (k : Nat → ClassId) (a : Nat → Nat) (A : Nat → Prop) (C0 : q_C p s m meth c args RX10 cX10_keep 3 none wsX10_keep D (tyL k) A) (R : T2) : ∀ (σ : T2), S_X10_keep_b32 σ → P_X10_keep_b32 σ = R → ∀ (H : Heap) (locs : List Loc) (ls : Array Slot), q_W D A s.heap (wX10 k a σ) H locs → lv_has ls 3 [(0, .ref (a 0))] → W p l e { frames := 0, cells := 0, slots := 0, locals := 0 } s m args below meth c H locs 0 0 (MQ below (va_Qv (fun u => u = R) (fun u => q_E D (tyL k) A (wX10 k a u)) A) args s 0 0 A) (F0 m 32 ls []) := by
  intro σ hs hR H locs ls hW hl
  rw [P_X10_keep_b32_e] at hR
  rw [S_X10_keep_b32_e] at hs
  obtain ⟨hx, hb, hr, hml, hts, hown, hlocks, hK, hA⟩ := id C0
  have hf39 := hts (.fieldLink RX10 39 "BeatFollowerModel" "pastMany" "I") (by decide +kernel)
  have hf42 := hts (.fieldLink RX10 42 "BeatFollowerModel" "pastFirst" "I") (by decide +kernel)
  have hinX10 : ∀ w ∈ u_ws RX10 TX10 18, w ∈ wsX10_keep := hin_X10_keep_X10
  refine lv_aload_n hx hb dX10_keep_32 rfl (lv_at hl 0 rfl) ?_
  refine va_get (v := .int (σ 0 2)) (C := RX10) (T := TX10) (N := 18) hx hb hts hinX10 hown hK hW.1 0 rfl rfl 2 (by decide) hf42 (fun _ h9 => h9) rfl dX10_keep_33 ?_
  refine lv_aload_n hx hb dX10_keep_36 rfl (lv_at hl 0 rfl) ?_
  refine va_get (v := .int (σ 0 3)) (C := RX10) (T := TX10) (N := 18) hx hb hts hinX10 hown hK hW.1 0 rfl rfl 3 (by decide) hf39 (fun _ h9 => h9) rfl dX10_keep_37 ?_
  refine lv_iadd hx hb dX10_keep_40 ?_
  refine lv_bipush (v := (6 : Int32)) hx hb dX10_keep_41 (by decide) ?_
  refine lv_irem hx hb dX10_keep_43 (by decide) ?_
  refine lv_istore_n (lv' := [(1, .int (((σ 0 2) + (σ 0 3)) - ((σ 0 2) + (σ 0 3)) / (6 : Int32) * (6 : Int32))), (0, .ref (a 0))]) hx hb dX10_keep_44 rfl hl (by decide) rfl (fun ls hl => ?_)
  exact b_X10_keep_b45n l D k a A C0 R σ (((σ 0 2) + (σ 0 3)) - ((σ 0 2) + (σ 0 3)) / (6 : Int32) * (6 : Int32)) hs hR H locs ls hW (lv_sub hl [1, 0] rfl)
set_option maxHeartbeats 400000 in
set_option maxRecDepth 100000 in
theorem b_X10_keep_b0 {p : Program} {e : Env} {s : State} {m : MethodId} {args : Array Value} {below : List Frame} {meth : Method} {c : Code} (l : Launch) (D : va_G) (k : Nat → ClassId) (a : Nat → Nat) (A : Nat → Prop) (C0 : q_C p s m meth c args RX10 cX10_keep 3 none wsX10_keep D (tyL k) A) (R : T2) : ∀ (σ : T2), S_X10_keep_b0 σ → P_X10_keep_b0 σ = R → ∀ (H : Heap) (locs : List Loc) (ls : Array Slot), q_W D A s.heap (wX10 k a σ) H locs → lv_has ls 3 [(0, .ref (a 0))] → W p l e { frames := 0, cells := 0, slots := 0, locals := 0 } s m args below meth c H locs 0 0 (MQ below (va_Qv (fun u => u = R) (fun u => q_E D (tyL k) A (wX10 k a u)) A) args s 0 0 A) (F0 m 0 ls []) := by
  intro σ hs hR H locs ls hW hl
  rw [P_X10_keep_b0_e] at hR
  rw [S_X10_keep_b0_e] at hs
  obtain ⟨hx, hb, hr, hml, hts, hown, hlocks, hK, hA⟩ := id C0
  have hf39 := hts (.fieldLink RX10 39 "BeatFollowerModel" "pastMany" "I") (by decide +kernel)
  have hf42 := hts (.fieldLink RX10 42 "BeatFollowerModel" "pastFirst" "I") (by decide +kernel)
  have hinX10 : ∀ w ∈ u_ws RX10 TX10 18, w ∈ wsX10_keep := hin_X10_keep_X10
  refine lv_aload_n hx hb dX10_keep_0 rfl (lv_at hl 0 rfl) ?_
  refine va_get (v := .int (σ 0 3)) (C := RX10) (T := TX10) (N := 18) hx hb hts hinX10 hown hK hW.1 0 rfl rfl 3 (by decide) hf39 (fun _ h9 => h9) rfl dX10_keep_1 ?_
  refine lv_bipush (v := (6 : Int32)) hx hb dX10_keep_4 (by decide) ?_
  refine lv_icmp_ne (tgt := 32) hx hb dX10_keep_6 (by decide) (fun c_1 => ?_) (fun c_1 => ?_)
  · have hs := hs.2 c_1
    rw [if_neg c_1] at hR
    exact b_X10_keep_b32 l D k a A C0 R σ hs hR H locs ls hW (lv_sub hl [0] rfl)
  · have hs := hs.1 c_1
    rw [if_pos c_1] at hR
    refine lv_aload_n hx hb dX10_keep_9 rfl (lv_at hl 0 rfl) ?_
    refine lv_aload_n hx hb dX10_keep_10 rfl (lv_at hl 0 rfl) ?_
    refine va_get (v := .int (σ 0 2)) (C := RX10) (T := TX10) (N := 18) hx hb hts hinX10 hown hK hW.1 0 rfl rfl 2 (by decide) hf42 (fun _ h9 => h9) rfl dX10_keep_11 ?_
    refine lv_iconst (v := (1 : Int32)) hx hb dX10_keep_14 (by decide) ?_
    refine lv_iadd hx hb dX10_keep_15 ?_
    refine lv_bipush (v := (6 : Int32)) hx hb dX10_keep_16 (by decide) ?_
    refine lv_irem hx hb dX10_keep_18 (by decide) ?_
    refine q_putf (ty := .int) (wd' := wX10 k a (u2 σ 0 (upd (σ 0) 2 (((σ 0 2) + (1 : Int32)) - ((σ 0 2) + (1 : Int32)) / (6 : Int32) * (6 : Int32))))) C0 hW hinX10 tyX10 tyX10_ok nmX10 0 rfl rfl 2 (by decide) hf42 rfl (by decide +kernel) rfl rfl (Nat.le_of_ble_eq_true rfl) dX10_keep_19 (fX10_s2 _ _ _) (wX10_s0 k a _ _) (fun H locs hW => ?_)
    refine lv_aload_n hx hb dX10_keep_22 rfl (lv_at hl 0 rfl) ?_
    refine lv_dup hx hb dX10_keep_23 rfl ?_
    refine va_get (v := .int (σ 0 3)) (C := RX10) (T := TX10) (N := 18) hx hb hts hinX10 hown hK hW.1 0 rfl rfl 3 (by decide) hf39 (fun _ h9 => h9) rfl dX10_keep_24 ?_
    refine lv_iconst (v := (1 : Int32)) hx hb dX10_keep_27 (by decide) ?_
    refine lv_isub hx hb dX10_keep_28 ?_
    refine q_putf (ty := .int) (wd' := wX10 k a (u2 σ 0 (upd (upd (σ 0) 2 (((σ 0 2) + (1 : Int32)) - ((σ 0 2) + (1 : Int32)) / (6 : Int32) * (6 : Int32))) 3 ((σ 0 3) - (1 : Int32))))) C0 hW hinX10 tyX10 tyX10_ok nmX10 0 rfl rfl 3 (by decide) hf39 rfl (by decide +kernel) rfl rfl (Nat.le_of_ble_eq_true rfl) dX10_keep_29 (fX10_s3 _ _ _) ((wX10_s0 k a _ _).trans (congrArg (wX10 k a) (u2_same _ _ _ _))) (fun H locs hW => ?_)
    exact b_X10_keep_b32 l D k a A C0 R (u2 σ 0 (upd (upd (σ 0) 2 (((σ 0 2) + (1 : Int32)) - ((σ 0 2) + (1 : Int32)) / (6 : Int32) * (6 : Int32))) 3 ((σ 0 3) - (1 : Int32)))) hs hR H locs ls hW (lv_sub hl [0] rfl)
set_option maxHeartbeats 400000 in
set_option maxRecDepth 100000 in
theorem m_X10_keep (l : Launch) (D : va_G) (k : Nat → ClassId) (a : Nat → Nat) (sz : Nat) (σ : T2) (hs : S_X10_keep σ) : Met l yX10_keep wsX10_keep { frames := 0, cells := 0, slots := 0, locals := 0 } (va_Pc [.ref (a 0)] (q_B D (tyL k) (wX10 k a σ) sz)) (va_Qv (fun u => u = P_X10_keep σ) (fun u => q_E D (tyL k) (va_A (wX10 k a σ) sz) (wX10 k a u)) (va_A (wX10 k a σ) sz)) 0 0 (va_A (wX10 k a σ) sz) := by
  refine q_met [.ref (a 0)] (wX10 k a σ) sz (cc := cX10_keep) (maxL := 3) (ret := none) (by decide) rfl (Nat.le_of_ble_eq_true rfl) ?_
  intro p e s m args below meth c ls hsz C0 hW hl hin
  subst hsz
  exact b_X10_keep_b0 l D k a _ C0 _ σ  hs rfl s.heap [] ls hW (lv_sub hl [0] rfl)
theorem hin_X10_layAside_X10 : ∀ w ∈ u_ws RX10 TX10 18, w ∈ wsX10_layAside := by decide +kernel
theorem hd_X10_layAside : yX10_layAside.cls = RX10 ∧ yX10_layAside.cls ≠ "java/lang/invoke/MethodHandle" ∧ yX10_layAside.cls ≠ "java/lang/invoke/VarHandle" ∧ (parseMethodDescriptor yX10_layAside.desc).map (fun d => d.parameters.length) = some 0 := by decide +kernel
noncomputable def P_X10_layAside_b2 (n : Nat) : T2 → Int32 → T2 := Nat.rec (motive := fun _ => T2 → Int32 → T2) (fun _ _ => (fun _ _ => 0)) (fun _ pk2 => fun σ v1 => if (672 : Int32) ≤ v1 then (σ) else (pk2 (u2 σ 5 (upd (σ 5) v1.toNatClampNeg (σ 1 v1.toNatClampNeg))) (v1 + (1 : Int32)))) n
def S_X10_layAside_b2 (n : Nat) : T2 → Int32 → Prop := Nat.rec (motive := fun _ => T2 → Int32 → Prop) (fun _ _ => False) (fun _ sk2 => fun σ v1 => ((672 : Int32) ≤ v1 → (True)) ∧ (¬ ((672 : Int32) ≤ v1) → ((vp_in v1 672) ∧ ((vp_in v1 672) ∧ (sk2 (u2 σ 5 (upd (σ 5) v1.toNatClampNeg (σ 1 v1.toNatClampNeg))) (v1 + (1 : Int32))))))) n
theorem P_X10_layAside_b2_e (n : Nat) (σ : T2) (v1 : Int32) : P_X10_layAside_b2 (n + 1) σ v1 = if (672 : Int32) ≤ v1 then (σ) else ((P_X10_layAside_b2 n) (u2 σ 5 (upd (σ 5) v1.toNatClampNeg (σ 1 v1.toNatClampNeg))) (v1 + (1 : Int32))) := rfl
theorem S_X10_layAside_b2_e (n : Nat) (σ : T2) (v1 : Int32) : S_X10_layAside_b2 (n + 1) σ v1 = (((672 : Int32) ≤ v1 → (True)) ∧ (¬ ((672 : Int32) ≤ v1) → ((vp_in v1 672) ∧ ((vp_in v1 672) ∧ ((S_X10_layAside_b2 n) (u2 σ 5 (upd (σ 5) v1.toNatClampNeg (σ 1 v1.toNatClampNeg))) (v1 + (1 : Int32))))))) := rfl
noncomputable def P_X10_layAside_b0 (σ : T2) : T2 := P_X10_layAside_b2 FU σ (0 : Int32)
def S_X10_layAside_b0 (σ : T2) : Prop := S_X10_layAside_b2 FU σ (0 : Int32)
theorem P_X10_layAside_b0_e (σ : T2) : P_X10_layAside_b0 σ = P_X10_layAside_b2 FU σ (0 : Int32) := rfl
theorem S_X10_layAside_b0_e (σ : T2) : S_X10_layAside_b0 σ = (S_X10_layAside_b2 FU σ (0 : Int32)) := rfl
noncomputable def P_X10_layAside (σ : T2) : T2 := P_X10_layAside_b0 σ
def S_X10_layAside (σ : T2) : Prop := S_X10_layAside_b0 σ
set_option maxHeartbeats 400000 in
set_option maxRecDepth 100000 in
theorem b_X10_layAside_b2 {p : Program} {e : Env} {s : State} {m : MethodId} {args : Array Value} {below : List Frame} {meth : Method} {c : Code} (l : Launch) (D : va_G) (k : Nat → ClassId) (a : Nat → Nat) (A : Nat → Prop) (C0 : q_C p s m meth c args RX10 cX10_layAside 2 none wsX10_layAside D (tyL k) A) (R : T2) : ∀ n : Nat, ∀ (σ : T2) (v1 : Int32), S_X10_layAside_b2 n σ v1 → P_X10_layAside_b2 n σ v1 = R → ∀ (H : Heap) (locs : List Loc) (ls : Array Slot), q_W D A s.heap (wX10 k a σ) H locs → lv_has ls 2 [(0, .ref (a 0)), (1, .int v1)] → W p l e { frames := 0, cells := 0, slots := 0, locals := 0 } s m args below meth c H locs 0 0 (MQ below (va_Qv (fun u => u = R) (fun u => q_E D (tyL k) A (wX10 k a u)) A) args s 0 0 A) (F0 m 2 ls []) := by
  intro n
  induction n with
  | zero => intro σ v1 hs; exact False.elim hs
  | succ n ih =>
    intro σ v1 hs hR H locs ls hW hl
    rw [P_X10_layAside_b2_e] at hR
    rw [S_X10_layAside_b2_e] at hs
    obtain ⟨hx, hb, hr, hml, hts, hown, hlocks, hK, hA⟩ := id C0
    have hf7 := hts (.fieldLink RX10 7 "BeatFollowerModel" "at" "[I") (by decide +kernel)
    have hf23 := hts (.fieldLink RX10 23 "BeatFollowerModel" "aside" "[I") (by decide +kernel)
    have hinX10 : ∀ w ∈ u_ws RX10 TX10 18, w ∈ wsX10_layAside := hin_X10_layAside_X10
    refine lv_iload_n hx hb dX10_layAside_2 rfl (lv_at hl 1 rfl) ?_
    refine lv_sipush (v := (672 : Int32)) hx hb dX10_layAside_3 (by decide) ?_
    refine lv_icmp_ge (tgt := 27) hx hb dX10_layAside_6 (by decide) (fun c_1 => ?_) (fun c_1 => ?_)
    · have hs := hs.1 c_1
      rw [if_pos c_1] at hR
      exact q_vret C0 hW hR dX10_layAside_27
    · have hs := hs.2 c_1
      rw [if_neg c_1] at hR
      refine lv_aload_n hx hb dX10_layAside_9 rfl (lv_at hl 0 rfl) ?_
      refine va_get (v := .ref (a 5)) (C := RX10) (T := TX10) (N := 18) hx hb hts hinX10 hown hK hW.1 0 rfl rfl 6 (by decide) hf23 (fun _ h9 => h9) rfl dX10_layAside_10 ?_
      refine lv_iload_n hx hb dX10_layAside_13 rfl (lv_at hl 1 rfl) ?_
      refine lv_aload_n hx hb dX10_layAside_14 rfl (lv_at hl 0 rfl) ?_
      refine va_get (v := .ref (a 1)) (C := RX10) (T := TX10) (N := 18) hx hb hts hinX10 hown hK hW.1 0 rfl rfl 0 (by decide) hf7 (fun _ h9 => h9) rfl dX10_layAside_15 ?_
      refine lv_iload_n hx hb dX10_layAside_18 rfl (lv_at hl 1 rfl) ?_
      have hi2 := hs.1
      have hs := hs.2
      refine q_iald (v := σ 1 v1.toNatClampNeg) C0 hW 1 rfl rfl hi2 rfl rfl dX10_layAside_19 ?_
      have hi3 := hs.1
      have hs := hs.2
      refine q_iast (f := σ 5) (wd' := wX10 k a (u2 σ 5 (upd (σ 5) v1.toNatClampNeg (σ 1 v1.toNatClampNeg)))) C0 hW 5 rfl rfl hi3 rfl dX10_layAside_20 (wX10_s5 k a _ _) (fun H locs hW => ?_)
      refine lv_iinc (v := v1 + (1 : Int32)) (lv' := [(1, .int (v1 + (1 : Int32))), (0, .ref (a 0))]) hx hb dX10_layAside_21 hl (k := 1) rfl rfl (by decide) rfl (fun ls hl => ?_)
      refine lv_goto (tgt := 2) hx hb dX10_layAside_24 (by decide) ?_
      exact ih (u2 σ 5 (upd (σ 5) v1.toNatClampNeg (σ 1 v1.toNatClampNeg))) (v1 + (1 : Int32)) hs hR H locs ls hW (lv_sub hl [1, 0] rfl)
set_option maxHeartbeats 400000 in
set_option maxRecDepth 100000 in
theorem b_X10_layAside_b0 {p : Program} {e : Env} {s : State} {m : MethodId} {args : Array Value} {below : List Frame} {meth : Method} {c : Code} (l : Launch) (D : va_G) (k : Nat → ClassId) (a : Nat → Nat) (A : Nat → Prop) (C0 : q_C p s m meth c args RX10 cX10_layAside 2 none wsX10_layAside D (tyL k) A) (R : T2) : ∀ (σ : T2), S_X10_layAside_b0 σ → P_X10_layAside_b0 σ = R → ∀ (H : Heap) (locs : List Loc) (ls : Array Slot), q_W D A s.heap (wX10 k a σ) H locs → lv_has ls 2 [(0, .ref (a 0))] → W p l e { frames := 0, cells := 0, slots := 0, locals := 0 } s m args below meth c H locs 0 0 (MQ below (va_Qv (fun u => u = R) (fun u => q_E D (tyL k) A (wX10 k a u)) A) args s 0 0 A) (F0 m 0 ls []) := by
  intro σ hs hR H locs ls hW hl
  rw [P_X10_layAside_b0_e] at hR
  rw [S_X10_layAside_b0_e] at hs
  obtain ⟨hx, hb, hr, hml, hts, hown, hlocks, hK, hA⟩ := id C0
  refine lv_iconst (v := (0 : Int32)) hx hb dX10_layAside_0 (by decide) ?_
  refine lv_istore_n (lv' := [(1, .int (0 : Int32)), (0, .ref (a 0))]) hx hb dX10_layAside_1 rfl hl (by decide) rfl (fun ls hl => ?_)
  exact b_X10_layAside_b2 l D k a A C0 R FU σ (0 : Int32) hs hR H locs ls hW (lv_sub hl [1, 0] rfl)
set_option maxHeartbeats 400000 in
set_option maxRecDepth 100000 in
theorem m_X10_layAside (l : Launch) (D : va_G) (k : Nat → ClassId) (a : Nat → Nat) (sz : Nat) (σ : T2) (hs : S_X10_layAside σ) : Met l yX10_layAside wsX10_layAside { frames := 0, cells := 0, slots := 0, locals := 0 } (va_Pc [.ref (a 0)] (q_B D (tyL k) (wX10 k a σ) sz)) (va_Qv (fun u => u = P_X10_layAside σ) (fun u => q_E D (tyL k) (va_A (wX10 k a σ) sz) (wX10 k a u)) (va_A (wX10 k a σ) sz)) 0 0 (va_A (wX10 k a σ) sz) := by
  refine q_met [.ref (a 0)] (wX10 k a σ) sz (cc := cX10_layAside) (maxL := 2) (ret := none) (by decide) rfl (Nat.le_of_ble_eq_true rfl) ?_
  intro p e s m args below meth c ls hsz C0 hW hl hin
  subst hsz
  exact b_X10_layAside_b0 l D k a _ C0 _ σ  hs rfl s.heap [] ls hW (lv_sub hl [0] rfl)
theorem hin_X10_layBack_X10 : ∀ w ∈ u_ws RX10 TX10 18, w ∈ wsX10_layBack := by decide +kernel
theorem hd_X10_layBack : yX10_layBack.cls = RX10 ∧ yX10_layBack.cls ≠ "java/lang/invoke/MethodHandle" ∧ yX10_layBack.cls ≠ "java/lang/invoke/VarHandle" ∧ (parseMethodDescriptor yX10_layBack.desc).map (fun d => d.parameters.length) = some 0 := by decide +kernel
noncomputable def P_X10_layBack_b2 (n : Nat) : T2 → Int32 → T2 := Nat.rec (motive := fun _ => T2 → Int32 → T2) (fun _ _ => (fun _ _ => 0)) (fun _ pk2 => fun σ v1 => if (672 : Int32) ≤ v1 then (σ) else (pk2 (u2 σ 1 (upd (σ 1) v1.toNatClampNeg (σ 5 v1.toNatClampNeg))) (v1 + (1 : Int32)))) n
def S_X10_layBack_b2 (n : Nat) : T2 → Int32 → Prop := Nat.rec (motive := fun _ => T2 → Int32 → Prop) (fun _ _ => False) (fun _ sk2 => fun σ v1 => ((672 : Int32) ≤ v1 → (True)) ∧ (¬ ((672 : Int32) ≤ v1) → ((vp_in v1 672) ∧ ((vp_in v1 672) ∧ (sk2 (u2 σ 1 (upd (σ 1) v1.toNatClampNeg (σ 5 v1.toNatClampNeg))) (v1 + (1 : Int32))))))) n
theorem P_X10_layBack_b2_e (n : Nat) (σ : T2) (v1 : Int32) : P_X10_layBack_b2 (n + 1) σ v1 = if (672 : Int32) ≤ v1 then (σ) else ((P_X10_layBack_b2 n) (u2 σ 1 (upd (σ 1) v1.toNatClampNeg (σ 5 v1.toNatClampNeg))) (v1 + (1 : Int32))) := rfl
theorem S_X10_layBack_b2_e (n : Nat) (σ : T2) (v1 : Int32) : S_X10_layBack_b2 (n + 1) σ v1 = (((672 : Int32) ≤ v1 → (True)) ∧ (¬ ((672 : Int32) ≤ v1) → ((vp_in v1 672) ∧ ((vp_in v1 672) ∧ ((S_X10_layBack_b2 n) (u2 σ 1 (upd (σ 1) v1.toNatClampNeg (σ 5 v1.toNatClampNeg))) (v1 + (1 : Int32))))))) := rfl
noncomputable def P_X10_layBack_b0 (σ : T2) : T2 := P_X10_layBack_b2 FU σ (0 : Int32)
def S_X10_layBack_b0 (σ : T2) : Prop := S_X10_layBack_b2 FU σ (0 : Int32)
theorem P_X10_layBack_b0_e (σ : T2) : P_X10_layBack_b0 σ = P_X10_layBack_b2 FU σ (0 : Int32) := rfl
theorem S_X10_layBack_b0_e (σ : T2) : S_X10_layBack_b0 σ = (S_X10_layBack_b2 FU σ (0 : Int32)) := rfl
noncomputable def P_X10_layBack (σ : T2) : T2 := P_X10_layBack_b0 σ
def S_X10_layBack (σ : T2) : Prop := S_X10_layBack_b0 σ
set_option maxHeartbeats 400000 in
set_option maxRecDepth 100000 in
theorem b_X10_layBack_b2 {p : Program} {e : Env} {s : State} {m : MethodId} {args : Array Value} {below : List Frame} {meth : Method} {c : Code} (l : Launch) (D : va_G) (k : Nat → ClassId) (a : Nat → Nat) (A : Nat → Prop) (C0 : q_C p s m meth c args RX10 cX10_layBack 2 none wsX10_layBack D (tyL k) A) (R : T2) : ∀ n : Nat, ∀ (σ : T2) (v1 : Int32), S_X10_layBack_b2 n σ v1 → P_X10_layBack_b2 n σ v1 = R → ∀ (H : Heap) (locs : List Loc) (ls : Array Slot), q_W D A s.heap (wX10 k a σ) H locs → lv_has ls 2 [(0, .ref (a 0)), (1, .int v1)] → W p l e { frames := 0, cells := 0, slots := 0, locals := 0 } s m args below meth c H locs 0 0 (MQ below (va_Qv (fun u => u = R) (fun u => q_E D (tyL k) A (wX10 k a u)) A) args s 0 0 A) (F0 m 2 ls []) := by
  intro n
  induction n with
  | zero => intro σ v1 hs; exact False.elim hs
  | succ n ih =>
    intro σ v1 hs hR H locs ls hW hl
    rw [P_X10_layBack_b2_e] at hR
    rw [S_X10_layBack_b2_e] at hs
    obtain ⟨hx, hb, hr, hml, hts, hown, hlocks, hK, hA⟩ := id C0
    have hf7 := hts (.fieldLink RX10 7 "BeatFollowerModel" "at" "[I") (by decide +kernel)
    have hf23 := hts (.fieldLink RX10 23 "BeatFollowerModel" "aside" "[I") (by decide +kernel)
    have hinX10 : ∀ w ∈ u_ws RX10 TX10 18, w ∈ wsX10_layBack := hin_X10_layBack_X10
    refine lv_iload_n hx hb dX10_layBack_2 rfl (lv_at hl 1 rfl) ?_
    refine lv_sipush (v := (672 : Int32)) hx hb dX10_layBack_3 (by decide) ?_
    refine lv_icmp_ge (tgt := 27) hx hb dX10_layBack_6 (by decide) (fun c_1 => ?_) (fun c_1 => ?_)
    · have hs := hs.1 c_1
      rw [if_pos c_1] at hR
      exact q_vret C0 hW hR dX10_layBack_27
    · have hs := hs.2 c_1
      rw [if_neg c_1] at hR
      refine lv_aload_n hx hb dX10_layBack_9 rfl (lv_at hl 0 rfl) ?_
      refine va_get (v := .ref (a 1)) (C := RX10) (T := TX10) (N := 18) hx hb hts hinX10 hown hK hW.1 0 rfl rfl 0 (by decide) hf7 (fun _ h9 => h9) rfl dX10_layBack_10 ?_
      refine lv_iload_n hx hb dX10_layBack_13 rfl (lv_at hl 1 rfl) ?_
      refine lv_aload_n hx hb dX10_layBack_14 rfl (lv_at hl 0 rfl) ?_
      refine va_get (v := .ref (a 5)) (C := RX10) (T := TX10) (N := 18) hx hb hts hinX10 hown hK hW.1 0 rfl rfl 6 (by decide) hf23 (fun _ h9 => h9) rfl dX10_layBack_15 ?_
      refine lv_iload_n hx hb dX10_layBack_18 rfl (lv_at hl 1 rfl) ?_
      have hi2 := hs.1
      have hs := hs.2
      refine q_iald (v := σ 5 v1.toNatClampNeg) C0 hW 5 rfl rfl hi2 rfl rfl dX10_layBack_19 ?_
      have hi3 := hs.1
      have hs := hs.2
      refine q_iast (f := σ 1) (wd' := wX10 k a (u2 σ 1 (upd (σ 1) v1.toNatClampNeg (σ 5 v1.toNatClampNeg)))) C0 hW 1 rfl rfl hi3 rfl dX10_layBack_20 (wX10_s1 k a _ _) (fun H locs hW => ?_)
      refine lv_iinc (v := v1 + (1 : Int32)) (lv' := [(1, .int (v1 + (1 : Int32))), (0, .ref (a 0))]) hx hb dX10_layBack_21 hl (k := 1) rfl rfl (by decide) rfl (fun ls hl => ?_)
      refine lv_goto (tgt := 2) hx hb dX10_layBack_24 (by decide) ?_
      exact ih (u2 σ 1 (upd (σ 1) v1.toNatClampNeg (σ 5 v1.toNatClampNeg))) (v1 + (1 : Int32)) hs hR H locs ls hW (lv_sub hl [1, 0] rfl)
set_option maxHeartbeats 400000 in
set_option maxRecDepth 100000 in
theorem b_X10_layBack_b0 {p : Program} {e : Env} {s : State} {m : MethodId} {args : Array Value} {below : List Frame} {meth : Method} {c : Code} (l : Launch) (D : va_G) (k : Nat → ClassId) (a : Nat → Nat) (A : Nat → Prop) (C0 : q_C p s m meth c args RX10 cX10_layBack 2 none wsX10_layBack D (tyL k) A) (R : T2) : ∀ (σ : T2), S_X10_layBack_b0 σ → P_X10_layBack_b0 σ = R → ∀ (H : Heap) (locs : List Loc) (ls : Array Slot), q_W D A s.heap (wX10 k a σ) H locs → lv_has ls 2 [(0, .ref (a 0))] → W p l e { frames := 0, cells := 0, slots := 0, locals := 0 } s m args below meth c H locs 0 0 (MQ below (va_Qv (fun u => u = R) (fun u => q_E D (tyL k) A (wX10 k a u)) A) args s 0 0 A) (F0 m 0 ls []) := by
  intro σ hs hR H locs ls hW hl
  rw [P_X10_layBack_b0_e] at hR
  rw [S_X10_layBack_b0_e] at hs
  obtain ⟨hx, hb, hr, hml, hts, hown, hlocks, hK, hA⟩ := id C0
  refine lv_iconst (v := (0 : Int32)) hx hb dX10_layBack_0 (by decide) ?_
  refine lv_istore_n (lv' := [(1, .int (0 : Int32)), (0, .ref (a 0))]) hx hb dX10_layBack_1 rfl hl (by decide) rfl (fun ls hl => ?_)
  exact b_X10_layBack_b2 l D k a A C0 R FU σ (0 : Int32) hs hR H locs ls hW (lv_sub hl [1, 0] rfl)
set_option maxHeartbeats 400000 in
set_option maxRecDepth 100000 in
theorem m_X10_layBack (l : Launch) (D : va_G) (k : Nat → ClassId) (a : Nat → Nat) (sz : Nat) (σ : T2) (hs : S_X10_layBack σ) : Met l yX10_layBack wsX10_layBack { frames := 0, cells := 0, slots := 0, locals := 0 } (va_Pc [.ref (a 0)] (q_B D (tyL k) (wX10 k a σ) sz)) (va_Qv (fun u => u = P_X10_layBack σ) (fun u => q_E D (tyL k) (va_A (wX10 k a σ) sz) (wX10 k a u)) (va_A (wX10 k a σ) sz)) 0 0 (va_A (wX10 k a σ) sz) := by
  refine q_met [.ref (a 0)] (wX10 k a σ) sz (cc := cX10_layBack) (maxL := 2) (ret := none) (by decide) rfl (Nat.le_of_ble_eq_true rfl) ?_
  intro p e s m args below meth c ls hsz C0 hW hl hin
  subst hsz
  exact b_X10_layBack_b0 l D k a _ C0 _ σ  hs rfl s.heap [] ls hW (lv_sub hl [0] rfl)
theorem hd_X10_lowest : yX10_lowest.cls ≠ "java/lang/invoke/MethodHandle" ∧ yX10_lowest.cls ≠ "java/lang/invoke/VarHandle" ∧ (parseMethodDescriptor yX10_lowest.desc).map (fun d => d.parameters.length) = some 1 := by decide +kernel
noncomputable def P_X10_lowest_b0 (v0 : Int32) : Int32 := if v0 = (0 : Int32) then ((20 : Int32)) else (if v0 = (1 : Int32) then ((5 : Int32)) else (if v0 = (2 : Int32) then ((0 : Int32)) else (if v0 = (3 : Int32) then ((0 : Int32)) else (if v0 = (4 : Int32) then ((0 : Int32)) else (if v0 = (5 : Int32) then ((1 : Int32)) else (if v0 = (6 : Int32) then ((1 : Int32)) else (if v0 = (7 : Int32) then ((1 : Int32)) else ((0 : Int32)))))))))
def S_X10_lowest_b0 (v0 : Int32) : Prop := (v0 = (0 : Int32) → (True)) ∧ (¬ (v0 = (0 : Int32)) → ((v0 = (1 : Int32) → (True)) ∧ (¬ (v0 = (1 : Int32)) → ((v0 = (2 : Int32) → (True)) ∧ (¬ (v0 = (2 : Int32)) → ((v0 = (3 : Int32) → (True)) ∧ (¬ (v0 = (3 : Int32)) → ((v0 = (4 : Int32) → (True)) ∧ (¬ (v0 = (4 : Int32)) → ((v0 = (5 : Int32) → (True)) ∧ (¬ (v0 = (5 : Int32)) → ((v0 = (6 : Int32) → (True)) ∧ (¬ (v0 = (6 : Int32)) → ((v0 = (7 : Int32) → (True)) ∧ (¬ (v0 = (7 : Int32)) → (True))))))))))))))))
theorem P_X10_lowest_b0_e (v0 : Int32) : P_X10_lowest_b0 v0 = if v0 = (0 : Int32) then ((20 : Int32)) else (if v0 = (1 : Int32) then ((5 : Int32)) else (if v0 = (2 : Int32) then ((0 : Int32)) else (if v0 = (3 : Int32) then ((0 : Int32)) else (if v0 = (4 : Int32) then ((0 : Int32)) else (if v0 = (5 : Int32) then ((1 : Int32)) else (if v0 = (6 : Int32) then ((1 : Int32)) else (if v0 = (7 : Int32) then ((1 : Int32)) else ((0 : Int32))))))))) := rfl
theorem S_X10_lowest_b0_e (v0 : Int32) : S_X10_lowest_b0 v0 = ((v0 = (0 : Int32) → (True)) ∧ (¬ (v0 = (0 : Int32)) → ((v0 = (1 : Int32) → (True)) ∧ (¬ (v0 = (1 : Int32)) → ((v0 = (2 : Int32) → (True)) ∧ (¬ (v0 = (2 : Int32)) → ((v0 = (3 : Int32) → (True)) ∧ (¬ (v0 = (3 : Int32)) → ((v0 = (4 : Int32) → (True)) ∧ (¬ (v0 = (4 : Int32)) → ((v0 = (5 : Int32) → (True)) ∧ (¬ (v0 = (5 : Int32)) → ((v0 = (6 : Int32) → (True)) ∧ (¬ (v0 = (6 : Int32)) → ((v0 = (7 : Int32) → (True)) ∧ (¬ (v0 = (7 : Int32)) → (True))))))))))))))))) := rfl
noncomputable def P_X10_lowest (p0 : Int32) : Int32 := P_X10_lowest_b0 p0
def S_X10_lowest (p0 : Int32) : Prop := S_X10_lowest_b0 p0
set_option maxHeartbeats 400000 in
set_option maxRecDepth 100000 in
theorem b_X10_lowest_b0 {p : Program} {e : Env} {s : State} {m : MethodId} {args : Array Value} {below : List Frame} {meth : Method} {c : Code} (l : Launch) (C0 : q_C1 p s m meth c args RX10 cX10_lowest 1 (some .int) wsX10_lowest) (R : Int32) : ∀ (v0 : Int32), S_X10_lowest_b0 v0 → P_X10_lowest_b0 v0 = R → ∀ (H : Heap) (locs : List Loc) (ls : Array Slot), lv_has ls 1 [(0, .int v0)] → W p l e { frames := 0, cells := 0, slots := 0, locals := 0 } s m args below meth c s.heap [] 0 0 (MQ below (vp_Si (fun r => r = R)) args s 0 0 (fun _ => False)) (F0 m 0 ls []) := by
  intro v0 hs hR H locs ls hl
  rw [P_X10_lowest_b0_e] at hR
  rw [S_X10_lowest_b0_e] at hs
  obtain ⟨hx, hb, hr, hml, hts, hown, hlocks⟩ := id C0
  refine lv_iload_n hx hb dX10_lowest_0 rfl (lv_at hl 0 rfl) ?_
  by_cases c_1 : v0 = (0 : Int32)
  · have hs := hs.1 c_1
    rw [if_pos c_1] at hR
    refine lv_tableIn (off := 47) (tgt := 48) hx hb dX10_lowest_1 (by rw [c_1]; decide) (by rw [c_1]; decide) (by rw [c_1]; decide) (by decide) ?_
    refine lv_bipush (v := (20 : Int32)) hx hb dX10_lowest_48 (by decide) ?_
    exact q_iretrs C0 hR dX10_lowest_50
  · have hs := hs.2 c_1
    rw [if_neg c_1] at hR
    by_cases c_2 : v0 = (1 : Int32)
    · have hs := hs.1 c_2
      rw [if_pos c_2] at hR
      refine lv_tableIn (off := 50) (tgt := 51) hx hb dX10_lowest_1 (by rw [c_2]; decide) (by rw [c_2]; decide) (by rw [c_2]; decide) (by decide) ?_
      refine lv_iconst (v := (5 : Int32)) hx hb dX10_lowest_51 (by decide) ?_
      exact q_iretrs C0 hR dX10_lowest_52
    · have hs := hs.2 c_2
      rw [if_neg c_2] at hR
      by_cases c_3 : v0 = (2 : Int32)
      · have hs := hs.1 c_3
        rw [if_pos c_3] at hR
        refine lv_tableIn (off := 54) (tgt := 55) hx hb dX10_lowest_1 (by rw [c_3]; decide) (by rw [c_3]; decide) (by rw [c_3]; decide) (by decide) ?_
        refine lv_iconst (v := (0 : Int32)) hx hb dX10_lowest_55 (by decide) ?_
        exact q_iretrs C0 hR dX10_lowest_56
      · have hs := hs.2 c_3
        rw [if_neg c_3] at hR
        by_cases c_4 : v0 = (3 : Int32)
        · have hs := hs.1 c_4
          rw [if_pos c_4] at hR
          refine lv_tableIn (off := 54) (tgt := 55) hx hb dX10_lowest_1 (by rw [c_4]; decide) (by rw [c_4]; decide) (by rw [c_4]; decide) (by decide) ?_
          refine lv_iconst (v := (0 : Int32)) hx hb dX10_lowest_55 (by decide) ?_
          exact q_iretrs C0 hR dX10_lowest_56
        · have hs := hs.2 c_4
          rw [if_neg c_4] at hR
          by_cases c_5 : v0 = (4 : Int32)
          · have hs := hs.1 c_5
            rw [if_pos c_5] at hR
            refine lv_tableIn (off := 54) (tgt := 55) hx hb dX10_lowest_1 (by rw [c_5]; decide) (by rw [c_5]; decide) (by rw [c_5]; decide) (by decide) ?_
            refine lv_iconst (v := (0 : Int32)) hx hb dX10_lowest_55 (by decide) ?_
            exact q_iretrs C0 hR dX10_lowest_56
          · have hs := hs.2 c_5
            rw [if_neg c_5] at hR
            by_cases c_6 : v0 = (5 : Int32)
            · have hs := hs.1 c_6
              rw [if_pos c_6] at hR
              refine lv_tableIn (off := 52) (tgt := 53) hx hb dX10_lowest_1 (by rw [c_6]; decide) (by rw [c_6]; decide) (by rw [c_6]; decide) (by decide) ?_
              refine lv_iconst (v := (1 : Int32)) hx hb dX10_lowest_53 (by decide) ?_
              exact q_iretrs C0 hR dX10_lowest_54
            · have hs := hs.2 c_6
              rw [if_neg c_6] at hR
              by_cases c_7 : v0 = (6 : Int32)
              · have hs := hs.1 c_7
                rw [if_pos c_7] at hR
                refine lv_tableIn (off := 52) (tgt := 53) hx hb dX10_lowest_1 (by rw [c_7]; decide) (by rw [c_7]; decide) (by rw [c_7]; decide) (by decide) ?_
                refine lv_iconst (v := (1 : Int32)) hx hb dX10_lowest_53 (by decide) ?_
                exact q_iretrs C0 hR dX10_lowest_54
              · have hs := hs.2 c_7
                rw [if_neg c_7] at hR
                by_cases c_8 : v0 = (7 : Int32)
                · have hs := hs.1 c_8
                  rw [if_pos c_8] at hR
                  refine lv_tableIn (off := 52) (tgt := 53) hx hb dX10_lowest_1 (by rw [c_8]; decide) (by rw [c_8]; decide) (by rw [c_8]; decide) (by decide) ?_
                  refine lv_iconst (v := (1 : Int32)) hx hb dX10_lowest_53 (by decide) ?_
                  exact q_iretrs C0 hR dX10_lowest_54
                · have hs := hs.2 c_8
                  rw [if_neg c_8] at hR
                  refine lv_tableOut (tgt := 55) hx hb dX10_lowest_1 (q_out 7 (by decide) (by intro j hj; rcases (show j = 0 ∨ j = 1 ∨ j = 2 ∨ j = 3 ∨ j = 4 ∨ j = 5 ∨ j = 6 ∨ j = 7 by omega) with rfl | rfl | rfl | rfl | rfl | rfl | rfl | rfl <;> first | exact c_1 | exact c_2 | exact c_3 | exact c_4 | exact c_5 | exact c_6 | exact c_7 | exact c_8)) (by decide) ?_
                  refine lv_iconst (v := (0 : Int32)) hx hb dX10_lowest_55 (by decide) ?_
                  exact q_iretrs C0 hR dX10_lowest_56
set_option maxHeartbeats 400000 in
set_option maxRecDepth 100000 in
theorem m_X10_lowest (l : Launch) (p0 : Int32) (hs : S_X10_lowest p0) : Met l yX10_lowest wsX10_lowest { frames := 0, cells := 0, slots := 0, locals := 0 } (va_Pc [.int p0] (fun _ => True)) (vp_Si (fun r => r = P_X10_lowest p0)) 0 0 (fun _ => False) := by
  refine q_mets [.int p0] (cc := cX10_lowest) (maxL := 1) (ret := (some .int)) (by decide) rfl (Nat.le_of_ble_eq_true rfl) ?_
  intro p e s m args below meth c ls C0 hl
  exact b_X10_lowest_b0 l C0 _ p0 hs rfl s.heap [] ls (lv_sub hl [0] rfl)
theorem hd_X10_highest : yX10_highest.cls ≠ "java/lang/invoke/MethodHandle" ∧ yX10_highest.cls ≠ "java/lang/invoke/VarHandle" ∧ (parseMethodDescriptor yX10_highest.desc).map (fun d => d.parameters.length) = some 1 := by decide +kernel
noncomputable def P_X10_highest_b0 (v0 : Int32) : Int32 := if v0 = (0 : Int32) then ((400 : Int32)) else (if v0 = (1 : Int32) then ((50 : Int32)) else (if v0 = (2 : Int32) then ((16 : Int32)) else (if v0 = (3 : Int32) then ((16 : Int32)) else (if v0 = (4 : Int32) then ((40 : Int32)) else (if v0 = (5 : Int32) then ((8 : Int32)) else (if v0 = (6 : Int32) then ((8 : Int32)) else (if v0 = (7 : Int32) then ((20 : Int32)) else ((8 : Int32)))))))))
def S_X10_highest_b0 (v0 : Int32) : Prop := (v0 = (0 : Int32) → (True)) ∧ (¬ (v0 = (0 : Int32)) → ((v0 = (1 : Int32) → (True)) ∧ (¬ (v0 = (1 : Int32)) → ((v0 = (2 : Int32) → (True)) ∧ (¬ (v0 = (2 : Int32)) → ((v0 = (3 : Int32) → (True)) ∧ (¬ (v0 = (3 : Int32)) → ((v0 = (4 : Int32) → (True)) ∧ (¬ (v0 = (4 : Int32)) → ((v0 = (5 : Int32) → (True)) ∧ (¬ (v0 = (5 : Int32)) → ((v0 = (6 : Int32) → (True)) ∧ (¬ (v0 = (6 : Int32)) → ((v0 = (7 : Int32) → (True)) ∧ (¬ (v0 = (7 : Int32)) → (True))))))))))))))))
theorem P_X10_highest_b0_e (v0 : Int32) : P_X10_highest_b0 v0 = if v0 = (0 : Int32) then ((400 : Int32)) else (if v0 = (1 : Int32) then ((50 : Int32)) else (if v0 = (2 : Int32) then ((16 : Int32)) else (if v0 = (3 : Int32) then ((16 : Int32)) else (if v0 = (4 : Int32) then ((40 : Int32)) else (if v0 = (5 : Int32) then ((8 : Int32)) else (if v0 = (6 : Int32) then ((8 : Int32)) else (if v0 = (7 : Int32) then ((20 : Int32)) else ((8 : Int32))))))))) := rfl
theorem S_X10_highest_b0_e (v0 : Int32) : S_X10_highest_b0 v0 = ((v0 = (0 : Int32) → (True)) ∧ (¬ (v0 = (0 : Int32)) → ((v0 = (1 : Int32) → (True)) ∧ (¬ (v0 = (1 : Int32)) → ((v0 = (2 : Int32) → (True)) ∧ (¬ (v0 = (2 : Int32)) → ((v0 = (3 : Int32) → (True)) ∧ (¬ (v0 = (3 : Int32)) → ((v0 = (4 : Int32) → (True)) ∧ (¬ (v0 = (4 : Int32)) → ((v0 = (5 : Int32) → (True)) ∧ (¬ (v0 = (5 : Int32)) → ((v0 = (6 : Int32) → (True)) ∧ (¬ (v0 = (6 : Int32)) → ((v0 = (7 : Int32) → (True)) ∧ (¬ (v0 = (7 : Int32)) → (True))))))))))))))))) := rfl
noncomputable def P_X10_highest (p0 : Int32) : Int32 := P_X10_highest_b0 p0
def S_X10_highest (p0 : Int32) : Prop := S_X10_highest_b0 p0
set_option maxHeartbeats 400000 in
set_option maxRecDepth 100000 in
theorem b_X10_highest_b0 {p : Program} {e : Env} {s : State} {m : MethodId} {args : Array Value} {below : List Frame} {meth : Method} {c : Code} (l : Launch) (C0 : q_C1 p s m meth c args RX10 cX10_highest 1 (some .int) wsX10_highest) (R : Int32) : ∀ (v0 : Int32), S_X10_highest_b0 v0 → P_X10_highest_b0 v0 = R → ∀ (H : Heap) (locs : List Loc) (ls : Array Slot), lv_has ls 1 [(0, .int v0)] → W p l e { frames := 0, cells := 0, slots := 0, locals := 0 } s m args below meth c s.heap [] 0 0 (MQ below (vp_Si (fun r => r = R)) args s 0 0 (fun _ => False)) (F0 m 0 ls []) := by
  intro v0 hs hR H locs ls hl
  rw [P_X10_highest_b0_e] at hR
  rw [S_X10_highest_b0_e] at hs
  obtain ⟨hx, hb, hr, hml, hts, hown, hlocks⟩ := id C0
  refine lv_iload_n hx hb dX10_highest_0 rfl (lv_at hl 0 rfl) ?_
  by_cases c_1 : v0 = (0 : Int32)
  · have hs := hs.1 c_1
    rw [if_pos c_1] at hR
    refine lv_tableIn (off := 47) (tgt := 48) hx hb dX10_highest_1 (by rw [c_1]; decide) (by rw [c_1]; decide) (by rw [c_1]; decide) (by decide) ?_
    refine lv_sipush (v := (400 : Int32)) hx hb dX10_highest_48 (by decide) ?_
    exact q_iretrs C0 hR dX10_highest_51
  · have hs := hs.2 c_1
    rw [if_neg c_1] at hR
    by_cases c_2 : v0 = (1 : Int32)
    · have hs := hs.1 c_2
      rw [if_pos c_2] at hR
      refine lv_tableIn (off := 51) (tgt := 52) hx hb dX10_highest_1 (by rw [c_2]; decide) (by rw [c_2]; decide) (by rw [c_2]; decide) (by decide) ?_
      refine lv_bipush (v := (50 : Int32)) hx hb dX10_highest_52 (by decide) ?_
      exact q_iretrs C0 hR dX10_highest_54
    · have hs := hs.2 c_2
      rw [if_neg c_2] at hR
      by_cases c_3 : v0 = (2 : Int32)
      · have hs := hs.1 c_3
        rw [if_pos c_3] at hR
        refine lv_tableIn (off := 54) (tgt := 55) hx hb dX10_highest_1 (by rw [c_3]; decide) (by rw [c_3]; decide) (by rw [c_3]; decide) (by decide) ?_
        refine lv_bipush (v := (16 : Int32)) hx hb dX10_highest_55 (by decide) ?_
        exact q_iretrs C0 hR dX10_highest_57
      · have hs := hs.2 c_3
        rw [if_neg c_3] at hR
        by_cases c_4 : v0 = (3 : Int32)
        · have hs := hs.1 c_4
          rw [if_pos c_4] at hR
          refine lv_tableIn (off := 54) (tgt := 55) hx hb dX10_highest_1 (by rw [c_4]; decide) (by rw [c_4]; decide) (by rw [c_4]; decide) (by decide) ?_
          refine lv_bipush (v := (16 : Int32)) hx hb dX10_highest_55 (by decide) ?_
          exact q_iretrs C0 hR dX10_highest_57
        · have hs := hs.2 c_4
          rw [if_neg c_4] at hR
          by_cases c_5 : v0 = (4 : Int32)
          · have hs := hs.1 c_5
            rw [if_pos c_5] at hR
            refine lv_tableIn (off := 57) (tgt := 58) hx hb dX10_highest_1 (by rw [c_5]; decide) (by rw [c_5]; decide) (by rw [c_5]; decide) (by decide) ?_
            refine lv_bipush (v := (40 : Int32)) hx hb dX10_highest_58 (by decide) ?_
            exact q_iretrs C0 hR dX10_highest_60
          · have hs := hs.2 c_5
            rw [if_neg c_5] at hR
            by_cases c_6 : v0 = (5 : Int32)
            · have hs := hs.1 c_6
              rw [if_pos c_6] at hR
              refine lv_tableIn (off := 63) (tgt := 64) hx hb dX10_highest_1 (by rw [c_6]; decide) (by rw [c_6]; decide) (by rw [c_6]; decide) (by decide) ?_
              refine lv_bipush (v := (8 : Int32)) hx hb dX10_highest_64 (by decide) ?_
              exact q_iretrs C0 hR dX10_highest_66
            · have hs := hs.2 c_6
              rw [if_neg c_6] at hR
              by_cases c_7 : v0 = (6 : Int32)
              · have hs := hs.1 c_7
                rw [if_pos c_7] at hR
                refine lv_tableIn (off := 63) (tgt := 64) hx hb dX10_highest_1 (by rw [c_7]; decide) (by rw [c_7]; decide) (by rw [c_7]; decide) (by decide) ?_
                refine lv_bipush (v := (8 : Int32)) hx hb dX10_highest_64 (by decide) ?_
                exact q_iretrs C0 hR dX10_highest_66
              · have hs := hs.2 c_7
                rw [if_neg c_7] at hR
                by_cases c_8 : v0 = (7 : Int32)
                · have hs := hs.1 c_8
                  rw [if_pos c_8] at hR
                  refine lv_tableIn (off := 60) (tgt := 61) hx hb dX10_highest_1 (by rw [c_8]; decide) (by rw [c_8]; decide) (by rw [c_8]; decide) (by decide) ?_
                  refine lv_bipush (v := (20 : Int32)) hx hb dX10_highest_61 (by decide) ?_
                  exact q_iretrs C0 hR dX10_highest_63
                · have hs := hs.2 c_8
                  rw [if_neg c_8] at hR
                  refine lv_tableOut (tgt := 64) hx hb dX10_highest_1 (q_out 7 (by decide) (by intro j hj; rcases (show j = 0 ∨ j = 1 ∨ j = 2 ∨ j = 3 ∨ j = 4 ∨ j = 5 ∨ j = 6 ∨ j = 7 by omega) with rfl | rfl | rfl | rfl | rfl | rfl | rfl | rfl <;> first | exact c_1 | exact c_2 | exact c_3 | exact c_4 | exact c_5 | exact c_6 | exact c_7 | exact c_8)) (by decide) ?_
                  refine lv_bipush (v := (8 : Int32)) hx hb dX10_highest_64 (by decide) ?_
                  exact q_iretrs C0 hR dX10_highest_66
set_option maxHeartbeats 400000 in
set_option maxRecDepth 100000 in
theorem m_X10_highest (l : Launch) (p0 : Int32) (hs : S_X10_highest p0) : Met l yX10_highest wsX10_highest { frames := 0, cells := 0, slots := 0, locals := 0 } (va_Pc [.int p0] (fun _ => True)) (vp_Si (fun r => r = P_X10_highest p0)) 0 0 (fun _ => False) := by
  refine q_mets [.int p0] (cc := cX10_highest) (maxL := 1) (ret := (some .int)) (by decide) rfl (Nat.le_of_ble_eq_true rfl) ?_
  intro p e s m args below meth c ls C0 hl
  exact b_X10_highest_b0 l C0 _ p0 hs rfl s.heap [] ls (lv_sub hl [0] rfl)
theorem hin_X10_set_X10 : ∀ w ∈ u_ws RX10 TX10 18, w ∈ wsX10_set := by decide +kernel
theorem hd_X10_set : yX10_set.cls = RX10 ∧ yX10_set.cls ≠ "java/lang/invoke/MethodHandle" ∧ yX10_set.cls ≠ "java/lang/invoke/VarHandle" ∧ (parseMethodDescriptor yX10_set.desc).map (fun d => d.parameters.length) = some 2 := by decide +kernel
noncomputable def P_X10_set_b86 (σ : T2) (v3 : Int32) (t0 : Int32) : Int32 × T2 := (v3, u2 σ 1 (upd (σ 1) 10 t0))
def S_X10_set_b86 (σ : T2) (v3 : Int32) (t0 : Int32) : Prop := True
theorem P_X10_set_b86_e (σ : T2) (v3 : Int32) (t0 : Int32) : P_X10_set_b86 σ v3 t0 = (v3, u2 σ 1 (upd (σ 1) 10 t0)) := rfl
theorem S_X10_set_b86_e (σ : T2) (v3 : Int32) (t0 : Int32) : S_X10_set_b86 σ v3 t0 = (True) := rfl
noncomputable def P_X10_set_b49c (σ : T2) (v1 : Int32) (v2 : Int32) : Int32 × T2 := if v1 = 0 then (P_X10_set_b86 (u2 σ 1 (upd (σ 1) v1.toNatClampNeg v2)) (σ 1 v1.toNatClampNeg) ((4 : Int32) * v2)) else (P_X10_set_b86 (u2 σ 1 (upd (σ 1) v1.toNatClampNeg v2)) (σ 1 v1.toNatClampNeg) ((upd (σ 1) v1.toNatClampNeg v2) 10))
def S_X10_set_b49c (σ : T2) (v1 : Int32) (v2 : Int32) : Prop := (vp_in v1 672) ∧ ((vp_in v1 672) ∧ ((v1 = 0 → (S_X10_set_b86 (u2 σ 1 (upd (σ 1) v1.toNatClampNeg v2)) (σ 1 v1.toNatClampNeg) ((4 : Int32) * v2))) ∧ (¬ (v1 = 0) → (S_X10_set_b86 (u2 σ 1 (upd (σ 1) v1.toNatClampNeg v2)) (σ 1 v1.toNatClampNeg) ((upd (σ 1) v1.toNatClampNeg v2) 10)))))
theorem P_X10_set_b49c_e (σ : T2) (v1 : Int32) (v2 : Int32) : P_X10_set_b49c σ v1 v2 = if v1 = 0 then (P_X10_set_b86 (u2 σ 1 (upd (σ 1) v1.toNatClampNeg v2)) (σ 1 v1.toNatClampNeg) ((4 : Int32) * v2)) else (P_X10_set_b86 (u2 σ 1 (upd (σ 1) v1.toNatClampNeg v2)) (σ 1 v1.toNatClampNeg) ((upd (σ 1) v1.toNatClampNeg v2) 10)) := rfl
theorem S_X10_set_b49c_e (σ : T2) (v1 : Int32) (v2 : Int32) : S_X10_set_b49c σ v1 v2 = ((vp_in v1 672) ∧ ((vp_in v1 672) ∧ ((v1 = 0 → (S_X10_set_b86 (u2 σ 1 (upd (σ 1) v1.toNatClampNeg v2)) (σ 1 v1.toNatClampNeg) ((4 : Int32) * v2))) ∧ (¬ (v1 = 0) → (S_X10_set_b86 (u2 σ 1 (upd (σ 1) v1.toNatClampNeg v2)) (σ 1 v1.toNatClampNeg) ((upd (σ 1) v1.toNatClampNeg v2) 10)))))) := rfl
noncomputable def P_X10_set_b45 (σ : T2) (v1 : Int32) (v2 : Int32) : Int32 × T2 := P_X10_set_b49c (P_X10_keep σ) v1 v2
def S_X10_set_b45 (σ : T2) (v1 : Int32) (v2 : Int32) : Prop := (S_X10_keep σ ) ∧ (S_X10_set_b49c (P_X10_keep σ) v1 v2)
theorem P_X10_set_b45_e (σ : T2) (v1 : Int32) (v2 : Int32) : P_X10_set_b45 σ v1 v2 = P_X10_set_b49c (P_X10_keep σ) v1 v2 := rfl
theorem S_X10_set_b45_e (σ : T2) (v1 : Int32) (v2 : Int32) : S_X10_set_b45 σ v1 v2 = ((S_X10_keep σ ) ∧ (S_X10_set_b49c (P_X10_keep σ) v1 v2)) := rfl
noncomputable def P_X10_set_b0 (σ : T2) (v1 : Int32) (v2 : Int32) : Int32 × T2 := if (P_X10_in v1 (0 : Int32) (7 : Int32)) = 0 then (((-2 : Int32), σ)) else (if (P_X10_in v2 (P_X10_lowest v1) (P_X10_highest v1)) = 0 then (((-2 : Int32), σ)) else (if v1 = 0 then (if (σ 1 11) < 0 then (P_X10_set_b45 σ v1 v2) else (((-5 : Int32), σ))) else (P_X10_set_b45 σ v1 v2)))
def S_X10_set_b0 (σ : T2) (v1 : Int32) (v2 : Int32) : Prop := (S_X10_in v1 (0 : Int32) (7 : Int32)) ∧ (((P_X10_in v1 (0 : Int32) (7 : Int32)) = 0 → (True)) ∧ (¬ ((P_X10_in v1 (0 : Int32) (7 : Int32)) = 0) → ((S_X10_lowest v1) ∧ ((S_X10_highest v1) ∧ ((S_X10_in v2 (P_X10_lowest v1) (P_X10_highest v1)) ∧ (((P_X10_in v2 (P_X10_lowest v1) (P_X10_highest v1)) = 0 → (True)) ∧ (¬ ((P_X10_in v2 (P_X10_lowest v1) (P_X10_highest v1)) = 0) → ((v1 = 0 → (((σ 1 11) < 0 → (S_X10_set_b45 σ v1 v2)) ∧ (¬ ((σ 1 11) < 0) → (True)))) ∧ (¬ (v1 = 0) → (S_X10_set_b45 σ v1 v2))))))))))
theorem P_X10_set_b0_e (σ : T2) (v1 : Int32) (v2 : Int32) : P_X10_set_b0 σ v1 v2 = if (P_X10_in v1 (0 : Int32) (7 : Int32)) = 0 then (((-2 : Int32), σ)) else (if (P_X10_in v2 (P_X10_lowest v1) (P_X10_highest v1)) = 0 then (((-2 : Int32), σ)) else (if v1 = 0 then (if (σ 1 11) < 0 then (P_X10_set_b45 σ v1 v2) else (((-5 : Int32), σ))) else (P_X10_set_b45 σ v1 v2))) := rfl
theorem S_X10_set_b0_e (σ : T2) (v1 : Int32) (v2 : Int32) : S_X10_set_b0 σ v1 v2 = ((S_X10_in v1 (0 : Int32) (7 : Int32)) ∧ (((P_X10_in v1 (0 : Int32) (7 : Int32)) = 0 → (True)) ∧ (¬ ((P_X10_in v1 (0 : Int32) (7 : Int32)) = 0) → ((S_X10_lowest v1) ∧ ((S_X10_highest v1) ∧ ((S_X10_in v2 (P_X10_lowest v1) (P_X10_highest v1)) ∧ (((P_X10_in v2 (P_X10_lowest v1) (P_X10_highest v1)) = 0 → (True)) ∧ (¬ ((P_X10_in v2 (P_X10_lowest v1) (P_X10_highest v1)) = 0) → ((v1 = 0 → (((σ 1 11) < 0 → (S_X10_set_b45 σ v1 v2)) ∧ (¬ ((σ 1 11) < 0) → (True)))) ∧ (¬ (v1 = 0) → (S_X10_set_b45 σ v1 v2))))))))))) := rfl
noncomputable def P_X10_set (σ : T2) (p0 : Int32) (p1 : Int32) : Int32 × T2 := P_X10_set_b0 σ p0 p1
def S_X10_set (σ : T2) (p0 : Int32) (p1 : Int32) : Prop := S_X10_set_b0 σ p0 p1
set_option maxHeartbeats 400000 in
set_option maxRecDepth 100000 in
theorem b_X10_set_b86 {p : Program} {e : Env} {s : State} {m : MethodId} {args : Array Value} {below : List Frame} {meth : Method} {c : Code} (l : Launch) (D : va_G) (k : Nat → ClassId) (a : Nat → Nat) (A : Nat → Prop) (C0 : q_C p s m meth c args RX10 cX10_set 4 (some .int) wsX10_set D (tyL k) A) (R : Int32 × T2) : ∀ (σ : T2) (v3 : Int32) (t0 : Int32), S_X10_set_b86 σ v3 t0 → P_X10_set_b86 σ v3 t0 = R → ∀ (H : Heap) (locs : List Loc) (ls : Array Slot), q_W D A s.heap (wX10 k a σ) H locs → lv_has ls 4 [(3, .int v3)] → W p l e { frames := 1, cells := 0, slots := 0, locals := 22 } s m args below meth c H locs 0 0 (MQ below (va_Qi (fun r u => (r, u) = R) (fun u => q_E D (tyL k) A (wX10 k a u)) A) args s 0 0 A) (F0 m 86 ls [.int t0, .int (10 : Int32), .ref (a 1)]) := by
  intro σ v3 t0 hs hR H locs ls hW hl
  rw [P_X10_set_b86_e] at hR
  rw [S_X10_set_b86_e] at hs
  obtain ⟨hx, hb, hr, hml, hts, hown, hlocks, hK, hA⟩ := id C0
  refine q_iast (f := σ 1) (wd' := wX10 k a (u2 σ 1 (upd (σ 1) 10 t0))) C0 hW 1 rfl rfl vi_10_672 cl_10 dX10_set_86 (wX10_s1 k a _ _) (fun H locs hW => ?_)
  refine lv_iload_n hx hb dX10_set_87 rfl (lv_at hl 0 rfl) ?_
  exact q_iret C0 hW hR dX10_set_88
set_option maxHeartbeats 400000 in
set_option maxRecDepth 100000 in
theorem b_X10_set_b49c {p : Program} {e : Env} {s : State} {m : MethodId} {args : Array Value} {below : List Frame} {meth : Method} {c : Code} (l : Launch) (D : va_G) (k : Nat → ClassId) (a : Nat → Nat) (A : Nat → Prop) (C0 : q_C p s m meth c args RX10 cX10_set 4 (some .int) wsX10_set D (tyL k) A) (R : Int32 × T2) : ∀ (σ : T2) (v1 : Int32) (v2 : Int32), S_X10_set_b49c σ v1 v2 → P_X10_set_b49c σ v1 v2 = R → ∀ (H : Heap) (locs : List Loc) (ls : Array Slot), q_W D A s.heap (wX10 k a σ) H locs → lv_has ls 4 [(0, .ref (a 0)), (1, .int v1), (2, .int v2)] → W p l e { frames := 1, cells := 0, slots := 0, locals := 22 } s m args below meth c H locs 0 0 (MQ below (va_Qi (fun r u => (r, u) = R) (fun u => q_E D (tyL k) A (wX10 k a u)) A) args s 0 0 A) (F0 m 49 ls []) := by
  intro σ v1 v2 hs hR H locs ls hW hl
  rw [P_X10_set_b49c_e] at hR
  rw [S_X10_set_b49c_e] at hs
  obtain ⟨hx, hb, hr, hml, hts, hown, hlocks, hK, hA⟩ := id C0
  have hf7 := hts (.fieldLink RX10 7 "BeatFollowerModel" "at" "[I") (by decide +kernel)
  have hinX10 : ∀ w ∈ u_ws RX10 TX10 18, w ∈ wsX10_set := hin_X10_set_X10
  refine lv_aload_n hx hb dX10_set_49 rfl (lv_at hl 0 rfl) ?_
  refine va_get (v := .ref (a 1)) (C := RX10) (T := TX10) (N := 18) hx hb hts hinX10 hown hK hW.1 0 rfl rfl 0 (by decide) hf7 (fun _ h9 => h9) rfl dX10_set_50 ?_
  refine lv_iload_n hx hb dX10_set_53 rfl (lv_at hl 1 rfl) ?_
  have hi9 := hs.1
  have hs := hs.2
  refine q_iald (v := σ 1 v1.toNatClampNeg) C0 hW 1 rfl rfl hi9 rfl rfl dX10_set_54 ?_
  refine lv_istore_n (lv' := [(3, .int (σ 1 v1.toNatClampNeg)), (0, .ref (a 0)), (1, .int v1), (2, .int v2)]) hx hb dX10_set_55 rfl hl (by decide) rfl (fun ls hl => ?_)
  refine lv_aload_n hx hb dX10_set_56 rfl (lv_at hl 1 rfl) ?_
  refine va_get (v := .ref (a 1)) (C := RX10) (T := TX10) (N := 18) hx hb hts hinX10 hown hK hW.1 0 rfl rfl 0 (by decide) hf7 (fun _ h9 => h9) rfl dX10_set_57 ?_
  refine lv_iload_n hx hb dX10_set_60 rfl (lv_at hl 2 rfl) ?_
  refine lv_iload_n hx hb dX10_set_61 rfl (lv_at hl 3 rfl) ?_
  have hi10 := hs.1
  have hs := hs.2
  refine q_iast (f := σ 1) (wd' := wX10 k a (u2 σ 1 (upd (σ 1) v1.toNatClampNeg v2))) C0 hW 1 rfl rfl hi10 rfl dX10_set_62 (wX10_s1 k a _ _) (fun H locs hW => ?_)
  refine lv_aload_n hx hb dX10_set_63 rfl (lv_at hl 1 rfl) ?_
  refine va_get (v := .ref (a 1)) (C := RX10) (T := TX10) (N := 18) hx hb hts hinX10 hown hK hW.1 0 rfl rfl 0 (by decide) hf7 (fun _ h9 => h9) rfl dX10_set_64 ?_
  refine lv_bipush (v := (10 : Int32)) hx hb dX10_set_67 (by decide) ?_
  refine lv_iload_n hx hb dX10_set_69 rfl (lv_at hl 2 rfl) ?_
  refine lv_if_ne (tgt := 79) hx hb dX10_set_70 (by decide) (fun c_11 => ?_) (fun c_11 => ?_)
  · have hs := hs.2 c_11
    rw [if_neg c_11] at hR
    refine lv_aload_n hx hb dX10_set_79 rfl (lv_at hl 1 rfl) ?_
    refine va_get (v := .ref (a 1)) (C := RX10) (T := TX10) (N := 18) hx hb hts hinX10 hown hK hW.1 0 rfl rfl 0 (by decide) hf7 (fun _ h9 => h9) rfl dX10_set_80 ?_
    refine lv_bipush (v := (10 : Int32)) hx hb dX10_set_83 (by decide) ?_
    refine q_iald (v := (upd (σ 1) v1.toNatClampNeg v2) 10) C0 hW 1 rfl rfl vi_10_672 cl_10 rfl dX10_set_85 ?_
    exact b_X10_set_b86 l D k a A C0 R (u2 σ 1 (upd (σ 1) v1.toNatClampNeg v2)) (σ 1 v1.toNatClampNeg) ((upd (σ 1) v1.toNatClampNeg v2) 10) hs hR H locs ls hW (lv_sub hl [0] rfl)
  · have hs := hs.1 c_11
    rw [if_pos c_11] at hR
    refine lv_iconst (v := (4 : Int32)) hx hb dX10_set_73 (by decide) ?_
    refine lv_iload_n hx hb dX10_set_74 rfl (lv_at hl 3 rfl) ?_
    refine lv_imul hx hb dX10_set_75 ?_
    refine lv_goto (tgt := 86) hx hb dX10_set_76 (by decide) ?_
    exact b_X10_set_b86 l D k a A C0 R (u2 σ 1 (upd (σ 1) v1.toNatClampNeg v2)) (σ 1 v1.toNatClampNeg) ((4 : Int32) * v2) hs hR H locs ls hW (lv_sub hl [0] rfl)
set_option maxHeartbeats 400000 in
set_option maxRecDepth 100000 in
theorem b_X10_set_b45 {p : Program} {e : Env} {s : State} {m : MethodId} {args : Array Value} {below : List Frame} {meth : Method} {c : Code} (l : Launch) (D : va_G) (k : Nat → ClassId) (a : Nat → Nat) (A : Nat → Prop) (C0 : q_C p s m meth c args RX10 cX10_set 4 (some .int) wsX10_set D (tyL k) A) (R : Int32 × T2) : ∀ (σ : T2) (v1 : Int32) (v2 : Int32), S_X10_set_b45 σ v1 v2 → P_X10_set_b45 σ v1 v2 = R → ∀ (H : Heap) (locs : List Loc) (ls : Array Slot), q_W D A s.heap (wX10 k a σ) H locs → lv_has ls 4 [(0, .ref (a 0)), (1, .int v1), (2, .int v2)] → W p l e { frames := 1, cells := 0, slots := 0, locals := 22 } s m args below meth c H locs 0 0 (MQ below (va_Qi (fun r u => (r, u) = R) (fun u => q_E D (tyL k) A (wX10 k a u)) A) args s 0 0 A) (F0 m 45 ls []) := by
  intro σ v1 v2 hs hR H locs ls hW hl
  rw [P_X10_set_b45_e] at hR
  rw [S_X10_set_b45_e] at hs
  obtain ⟨hx, hb, hr, hml, hts, hown, hlocks, hK, hA⟩ := id C0
  refine lv_aload_n hx hb dX10_set_45 rfl (lv_at hl 0 rfl) ?_
  have hs8 := hs.1
  have hs := hs.2
  refine q_Vv (As := []) (rest := []) (wf := wX10 k a) (R := P_X10_keep σ) (wd' := wX10 k a (P_X10_keep σ)) [0, 1, 2, 3, 4, 5, 6, 7, 8] [0, 1, 2, 3] 0 10 C0 hW (m_X10_keep l D k a H.size σ  hs8) (cwV 0 hts gX10_set_X10_keep rfl rfl rfl hd_X10_keep ⟨Nat.le_of_ble_eq_true rfl, Nat.le_of_ble_eq_true rfl⟩) (by decide) (wX10_pl k a _) rfl (wX10_rec k a _) rfl (wX10_fst k a _ _) (wX10_put k a _ _) hl rfl rfl (Nat.le_of_ble_eq_true rfl) dX10_set_46 ⟨Nat.le_refl 0, Nat.le_refl 0⟩ (fun H locs hW => ?_)
  exact b_X10_set_b49c l D k a A C0 R (P_X10_keep σ) v1 v2 hs hR H locs ls hW (lv_sub hl [0, 1, 2] rfl)
set_option maxHeartbeats 400000 in
set_option maxRecDepth 100000 in
theorem b_X10_set_b0 {p : Program} {e : Env} {s : State} {m : MethodId} {args : Array Value} {below : List Frame} {meth : Method} {c : Code} (l : Launch) (D : va_G) (k : Nat → ClassId) (a : Nat → Nat) (A : Nat → Prop) (C0 : q_C p s m meth c args RX10 cX10_set 4 (some .int) wsX10_set D (tyL k) A) (R : Int32 × T2) : ∀ (σ : T2) (v1 : Int32) (v2 : Int32), S_X10_set_b0 σ v1 v2 → P_X10_set_b0 σ v1 v2 = R → ∀ (H : Heap) (locs : List Loc) (ls : Array Slot), q_W D A s.heap (wX10 k a σ) H locs → lv_has ls 4 [(0, .ref (a 0)), (1, .int v1), (2, .int v2)] → W p l e { frames := 1, cells := 0, slots := 0, locals := 22 } s m args below meth c H locs 0 0 (MQ below (va_Qi (fun r u => (r, u) = R) (fun u => q_E D (tyL k) A (wX10 k a u)) A) args s 0 0 A) (F0 m 0 ls []) := by
  intro σ v1 v2 hs hR H locs ls hW hl
  rw [P_X10_set_b0_e] at hR
  rw [S_X10_set_b0_e] at hs
  obtain ⟨hx, hb, hr, hml, hts, hown, hlocks, hK, hA⟩ := id C0
  have hf7 := hts (.fieldLink RX10 7 "BeatFollowerModel" "at" "[I") (by decide +kernel)
  have hinX10 : ∀ w ∈ u_ws RX10 TX10 18, w ∈ wsX10_set := hin_X10_set_X10
  refine lv_iload_n hx hb dX10_set_0 rfl (lv_at hl 1 rfl) ?_
  refine lv_iconst (v := (0 : Int32)) hx hb dX10_set_1 (by decide) ?_
  refine lv_bipush (v := (7 : Int32)) hx hb dX10_set_2 (by decide) ?_
  have hs1 := hs.1
  have hs := hs.2
  refine q_Si (As := [.int v1, .int (0 : Int32), .int (7 : Int32)]) (rest := []) (R := P_X10_in v1 (0 : Int32) (7 : Int32)) ⟨hx, hb, hml, hown, hts⟩ (m_X10_in l v1 (0 : Int32) (7 : Int32) hs1) (va_cwS 3 hts gX10_set_X10_in rfl rfl rfl hd_X10_in ⟨Nat.le_of_ble_eq_true rfl, Nat.le_of_ble_eq_true rfl⟩) hl rfl rfl (Nat.le_of_ble_eq_true rfl) dX10_set_4 ⟨Nat.le_refl 0, Nat.le_refl 0⟩ ?_
  refine lv_if_eq (tgt := 25) hx hb dX10_set_7 (by decide) (fun c_2 => ?_) (fun c_2 => ?_)
  · have hs := hs.1 c_2
    rw [if_pos c_2] at hR
    refine lv_bipush (v := (-2 : Int32)) hx hb dX10_set_25 (by decide) ?_
    exact q_iret C0 hW hR dX10_set_27
  · have hs := hs.2 c_2
    rw [if_neg c_2] at hR
    refine lv_iload_n hx hb dX10_set_10 rfl (lv_at hl 2 rfl) ?_
    refine lv_iload_n hx hb dX10_set_11 rfl (lv_at hl 1 rfl) ?_
    have hs3 := hs.1
    have hs := hs.2
    refine q_Si (As := [.int v1]) (rest := [.int v2]) (R := P_X10_lowest v1) ⟨hx, hb, hml, hown, hts⟩ (m_X10_lowest l v1 hs3) (va_cwS 1 hts gX10_set_X10_lowest rfl rfl rfl hd_X10_lowest ⟨Nat.le_of_ble_eq_true rfl, Nat.le_of_ble_eq_true rfl⟩) hl rfl rfl (Nat.le_of_ble_eq_true rfl) dX10_set_12 ⟨Nat.le_refl 0, Nat.le_refl 0⟩ ?_
    refine lv_iload_n hx hb dX10_set_15 rfl (lv_at hl 1 rfl) ?_
    have hs4 := hs.1
    have hs := hs.2
    refine q_Si (As := [.int v1]) (rest := [.int (P_X10_lowest v1), .int v2]) (R := P_X10_highest v1) ⟨hx, hb, hml, hown, hts⟩ (m_X10_highest l v1 hs4) (va_cwS 1 hts gX10_set_X10_highest rfl rfl rfl hd_X10_highest ⟨Nat.le_of_ble_eq_true rfl, Nat.le_of_ble_eq_true rfl⟩) hl rfl rfl (Nat.le_of_ble_eq_true rfl) dX10_set_16 ⟨Nat.le_refl 0, Nat.le_refl 0⟩ ?_
    have hs5 := hs.1
    have hs := hs.2
    refine q_Si (As := [.int v2, .int (P_X10_lowest v1), .int (P_X10_highest v1)]) (rest := []) (R := P_X10_in v2 (P_X10_lowest v1) (P_X10_highest v1)) ⟨hx, hb, hml, hown, hts⟩ (m_X10_in l v2 (P_X10_lowest v1) (P_X10_highest v1) hs5) (va_cwS 3 hts gX10_set_X10_in rfl rfl rfl hd_X10_in ⟨Nat.le_of_ble_eq_true rfl, Nat.le_of_ble_eq_true rfl⟩) hl rfl rfl (Nat.le_of_ble_eq_true rfl) dX10_set_19 ⟨Nat.le_refl 0, Nat.le_refl 0⟩ ?_
    refine lv_if_ne (tgt := 28) hx hb dX10_set_22 (by decide) (fun c_6 => ?_) (fun c_6 => ?_)
    · have hs := hs.2 c_6
      rw [if_neg c_6] at hR
      refine lv_iload_n hx hb dX10_set_28 rfl (lv_at hl 1 rfl) ?_
      refine lv_if_ne (tgt := 45) hx hb dX10_set_29 (by decide) (fun c_7 => ?_) (fun c_7 => ?_)
      · have hs := hs.2 c_7
        rw [if_neg c_7] at hR
        exact b_X10_set_b45 l D k a A C0 R σ v1 v2 hs hR H locs ls hW (lv_sub hl [0, 1, 2] rfl)
      · have hs := hs.1 c_7
        rw [if_pos c_7] at hR
        refine lv_aload_n hx hb dX10_set_32 rfl (lv_at hl 0 rfl) ?_
        refine va_get (v := .ref (a 1)) (C := RX10) (T := TX10) (N := 18) hx hb hts hinX10 hown hK hW.1 0 rfl rfl 0 (by decide) hf7 (fun _ h9 => h9) rfl dX10_set_33 ?_
        refine lv_bipush (v := (11 : Int32)) hx hb dX10_set_36 (by decide) ?_
        refine q_iald (v := σ 1 11) C0 hW 1 rfl rfl vi_11_672 cl_11 rfl dX10_set_38 ?_
        refine lv_if_lt (tgt := 45) hx hb dX10_set_39 (by decide) (fun c_12 => ?_) (fun c_12 => ?_)
        · have hs := hs.1 c_12
          rw [if_pos c_12] at hR
          exact b_X10_set_b45 l D k a A C0 R σ v1 v2 hs hR H locs ls hW (lv_sub hl [0, 1, 2] rfl)
        · have hs := hs.2 c_12
          rw [if_neg c_12] at hR
          refine lv_bipush (v := (-5 : Int32)) hx hb dX10_set_42 (by decide) ?_
          exact q_iret C0 hW hR dX10_set_44
    · have hs := hs.1 c_6
      rw [if_pos c_6] at hR
      refine lv_bipush (v := (-2 : Int32)) hx hb dX10_set_25 (by decide) ?_
      exact q_iret C0 hW hR dX10_set_27
set_option maxHeartbeats 400000 in
set_option maxRecDepth 100000 in
theorem m_X10_set (l : Launch) (D : va_G) (k : Nat → ClassId) (a : Nat → Nat) (sz : Nat) (σ : T2) (p0 : Int32) (p1 : Int32) (hs : S_X10_set σ p0 p1) : Met l yX10_set wsX10_set { frames := 1, cells := 0, slots := 0, locals := 22 } (va_Pc [.ref (a 0), .int p0, .int p1] (q_B D (tyL k) (wX10 k a σ) sz)) (va_Qi (fun r u => (r, u) = P_X10_set σ p0 p1) (fun u => q_E D (tyL k) (va_A (wX10 k a σ) sz) (wX10 k a u)) (va_A (wX10 k a σ) sz)) 0 0 (va_A (wX10 k a σ) sz) := by
  refine q_met [.ref (a 0), .int p0, .int p1] (wX10 k a σ) sz (cc := cX10_set) (maxL := 4) (ret := (some .int)) (by decide) rfl (Nat.le_of_ble_eq_true rfl) ?_
  intro p e s m args below meth c ls hsz C0 hW hl hin
  subst hsz
  exact b_X10_set_b0 l D k a _ C0 _ σ p0 p1 hs rfl s.heap [] ls hW (lv_sub hl [0, 1, 2] rfl)
theorem hin_X10_lastTime_X10 : ∀ w ∈ u_ws RX10 TX10 18, w ∈ wsX10_lastTime := by decide +kernel
theorem hd_X10_lastTime : yX10_lastTime.cls = RX10 ∧ yX10_lastTime.cls ≠ "java/lang/invoke/MethodHandle" ∧ yX10_lastTime.cls ≠ "java/lang/invoke/VarHandle" ∧ (parseMethodDescriptor yX10_lastTime.desc).map (fun d => d.parameters.length) = some 0 := by decide +kernel
noncomputable def P_X10_lastTime_b0 (σ : T2) : Int32 := if (σ 1 22) = 0 then ((0 : Int32)) else (P_X10_ofB σ ((σ 1 22) - (1 : Int32)) (0 : Int32))
def S_X10_lastTime_b0 (σ : T2) : Prop := ((σ 1 22) = 0 → (True)) ∧ (¬ ((σ 1 22) = 0) → ((S_X10_ofB σ ((σ 1 22) - (1 : Int32)) (0 : Int32)) ∧ (True)))
theorem P_X10_lastTime_b0_e (σ : T2) : P_X10_lastTime_b0 σ = if (σ 1 22) = 0 then ((0 : Int32)) else (P_X10_ofB σ ((σ 1 22) - (1 : Int32)) (0 : Int32)) := rfl
theorem S_X10_lastTime_b0_e (σ : T2) : S_X10_lastTime_b0 σ = (((σ 1 22) = 0 → (True)) ∧ (¬ ((σ 1 22) = 0) → ((S_X10_ofB σ ((σ 1 22) - (1 : Int32)) (0 : Int32)) ∧ (True)))) := rfl
noncomputable def P_X10_lastTime (σ : T2) : Int32 := P_X10_lastTime_b0 σ
def S_X10_lastTime (σ : T2) : Prop := S_X10_lastTime_b0 σ
set_option maxHeartbeats 400000 in
set_option maxRecDepth 100000 in
theorem b_X10_lastTime_b0 {p : Program} {e : Env} {s : State} {m : MethodId} {args : Array Value} {below : List Frame} {meth : Method} {c : Code} (l : Launch) (D : va_G) (k : Nat → ClassId) (a : Nat → Nat) (A : Nat → Prop) (C0 : q_C p s m meth c args RX10 cX10_lastTime 1 (some .int) wsX10_lastTime D (tyL k) A) (R : Int32) : ∀ (σ : T2), S_X10_lastTime_b0 σ → P_X10_lastTime_b0 σ = R → ∀ (H : Heap) (locs : List Loc) (ls : Array Slot), q_W D A s.heap (wX10 k a σ) s.heap [] → lv_has ls 1 [(0, .ref (a 0))] → W p l e { frames := 1, cells := 0, slots := 0, locals := 22 } s m args below meth c s.heap [] 0 0 (MQ below (vp_Si (fun r => r = R)) args s 0 0 (fun _ => False)) (F0 m 0 ls []) := by
  intro σ hs hR H locs ls hW hl
  rw [P_X10_lastTime_b0_e] at hR
  rw [S_X10_lastTime_b0_e] at hs
  obtain ⟨hx, hb, hr, hml, hts, hown, hlocks, hK, hA⟩ := id C0
  have hf7 := hts (.fieldLink RX10 7 "BeatFollowerModel" "at" "[I") (by decide +kernel)
  have hinX10 : ∀ w ∈ u_ws RX10 TX10 18, w ∈ wsX10_lastTime := hin_X10_lastTime_X10
  refine lv_aload_n hx hb dX10_lastTime_0 rfl (lv_at hl 0 rfl) ?_
  refine va_get (v := .ref (a 1)) (C := RX10) (T := TX10) (N := 18) hx hb hts hinX10 hown hK hW.1 0 rfl rfl 0 (by decide) hf7 (fun _ h9 => h9) rfl dX10_lastTime_1 ?_
  refine lv_bipush (v := (22 : Int32)) hx hb dX10_lastTime_4 (by decide) ?_
  refine q_iald (v := σ 1 22) C0 hW 1 rfl rfl vi_22_672 cl_22 rfl dX10_lastTime_6 ?_
  refine lv_if_ne (tgt := 14) hx hb dX10_lastTime_7 (by decide) (fun c_1 => ?_) (fun c_1 => ?_)
  · have hs := hs.2 c_1
    rw [if_neg c_1] at hR
    refine lv_aload_n hx hb dX10_lastTime_14 rfl (lv_at hl 0 rfl) ?_
    refine lv_aload_n hx hb dX10_lastTime_15 rfl (lv_at hl 0 rfl) ?_
    refine va_get (v := .ref (a 1)) (C := RX10) (T := TX10) (N := 18) hx hb hts hinX10 hown hK hW.1 0 rfl rfl 0 (by decide) hf7 (fun _ h9 => h9) rfl dX10_lastTime_16 ?_
    refine lv_bipush (v := (22 : Int32)) hx hb dX10_lastTime_19 (by decide) ?_
    refine q_iald (v := σ 1 22) C0 hW 1 rfl rfl vi_22_672 cl_22 rfl dX10_lastTime_21 ?_
    refine lv_iconst (v := (1 : Int32)) hx hb dX10_lastTime_22 (by decide) ?_
    refine lv_isub hx hb dX10_lastTime_23 ?_
    refine lv_iconst (v := (0 : Int32)) hx hb dX10_lastTime_24 (by decide) ?_
    have hs2 := hs.1
    have hs := hs.2
    refine q_Vi (As := [.int ((σ 1 22) - (1 : Int32)), .int (0 : Int32)]) (rest := []) (R := P_X10_ofB σ ((σ 1 22) - (1 : Int32)) (0 : Int32)) [0, 1, 2, 3, 4, 5, 6, 7, 8] [0, 1, 2, 3] 0 10 C0 hW (m_X10_ofB l D k a _ σ ((σ 1 22) - (1 : Int32)) (0 : Int32) hs2) (cwV 2 hts gX10_lastTime_X10_ofB rfl rfl rfl hd_X10_ofB ⟨Nat.le_of_ble_eq_true rfl, Nat.le_of_ble_eq_true rfl⟩) (by decide) (wX10_pl k a _) rfl (wX10_rec k a _) rfl hl rfl rfl (Nat.le_of_ble_eq_true rfl) dX10_lastTime_25 ⟨Nat.le_refl 0, Nat.le_refl 0⟩ ?_
    exact q_iretr C0 hR dX10_lastTime_28
  · have hs := hs.1 c_1
    rw [if_pos c_1] at hR
    refine lv_iconst (v := (0 : Int32)) hx hb dX10_lastTime_10 (by decide) ?_
    refine lv_goto (tgt := 28) hx hb dX10_lastTime_11 (by decide) ?_
    exact q_iretr C0 hR dX10_lastTime_28
set_option maxHeartbeats 400000 in
set_option maxRecDepth 100000 in
theorem m_X10_lastTime (l : Launch) (D : va_G) (k : Nat → ClassId) (a : Nat → Nat) (sz : Nat) (σ : T2) (hs : S_X10_lastTime σ) : Met l yX10_lastTime wsX10_lastTime { frames := 1, cells := 0, slots := 0, locals := 22 } (va_Pc [.ref (a 0)] (q_B D (tyL k) (wX10 k a σ) sz)) (vp_Si (fun r => r = P_X10_lastTime σ)) 0 0 (fun _ => False) := by
  refine q_met [.ref (a 0)] (wX10 k a σ) sz (cc := cX10_lastTime) (maxL := 1) (ret := (some .int)) (by decide) rfl (Nat.le_of_ble_eq_true rfl) ?_
  intro p e s m args below meth c ls hsz C0 hW hl hin
  subst hsz
  exact b_X10_lastTime_b0 l D k a _ C0 _ σ  hs rfl s.heap [] ls hW (lv_sub hl [0] rfl)
theorem hin_X10_nextTrue_X10 : ∀ w ∈ u_ws RX10 TX10 18, w ∈ wsX10_nextTrue := by decide +kernel
theorem hd_X10_nextTrue : yX10_nextTrue.cls = RX10 ∧ yX10_nextTrue.cls ≠ "java/lang/invoke/MethodHandle" ∧ yX10_nextTrue.cls ≠ "java/lang/invoke/VarHandle" ∧ (parseMethodDescriptor yX10_nextTrue.desc).map (fun d => d.parameters.length) = some 0 := by decide +kernel
noncomputable def P_X10_nextTrue_b0 (σ : T2) : Int32 := if (σ 1 22) = 0 then ((0 : Int32)) else ((P_X10_ofB σ ((σ 1 22) - (1 : Int32)) (1 : Int32)) + (1 : Int32))
def S_X10_nextTrue_b0 (σ : T2) : Prop := ((σ 1 22) = 0 → (True)) ∧ (¬ ((σ 1 22) = 0) → ((S_X10_ofB σ ((σ 1 22) - (1 : Int32)) (1 : Int32)) ∧ (True)))
theorem P_X10_nextTrue_b0_e (σ : T2) : P_X10_nextTrue_b0 σ = if (σ 1 22) = 0 then ((0 : Int32)) else ((P_X10_ofB σ ((σ 1 22) - (1 : Int32)) (1 : Int32)) + (1 : Int32)) := rfl
theorem S_X10_nextTrue_b0_e (σ : T2) : S_X10_nextTrue_b0 σ = (((σ 1 22) = 0 → (True)) ∧ (¬ ((σ 1 22) = 0) → ((S_X10_ofB σ ((σ 1 22) - (1 : Int32)) (1 : Int32)) ∧ (True)))) := rfl
noncomputable def P_X10_nextTrue (σ : T2) : Int32 := P_X10_nextTrue_b0 σ
def S_X10_nextTrue (σ : T2) : Prop := S_X10_nextTrue_b0 σ
set_option maxHeartbeats 400000 in
set_option maxRecDepth 100000 in
theorem b_X10_nextTrue_b0 {p : Program} {e : Env} {s : State} {m : MethodId} {args : Array Value} {below : List Frame} {meth : Method} {c : Code} (l : Launch) (D : va_G) (k : Nat → ClassId) (a : Nat → Nat) (A : Nat → Prop) (C0 : q_C p s m meth c args RX10 cX10_nextTrue 1 (some .int) wsX10_nextTrue D (tyL k) A) (R : Int32) : ∀ (σ : T2), S_X10_nextTrue_b0 σ → P_X10_nextTrue_b0 σ = R → ∀ (H : Heap) (locs : List Loc) (ls : Array Slot), q_W D A s.heap (wX10 k a σ) s.heap [] → lv_has ls 1 [(0, .ref (a 0))] → W p l e { frames := 1, cells := 0, slots := 0, locals := 22 } s m args below meth c s.heap [] 0 0 (MQ below (vp_Si (fun r => r = R)) args s 0 0 (fun _ => False)) (F0 m 0 ls []) := by
  intro σ hs hR H locs ls hW hl
  rw [P_X10_nextTrue_b0_e] at hR
  rw [S_X10_nextTrue_b0_e] at hs
  obtain ⟨hx, hb, hr, hml, hts, hown, hlocks, hK, hA⟩ := id C0
  have hf7 := hts (.fieldLink RX10 7 "BeatFollowerModel" "at" "[I") (by decide +kernel)
  have hinX10 : ∀ w ∈ u_ws RX10 TX10 18, w ∈ wsX10_nextTrue := hin_X10_nextTrue_X10
  refine lv_aload_n hx hb dX10_nextTrue_0 rfl (lv_at hl 0 rfl) ?_
  refine va_get (v := .ref (a 1)) (C := RX10) (T := TX10) (N := 18) hx hb hts hinX10 hown hK hW.1 0 rfl rfl 0 (by decide) hf7 (fun _ h9 => h9) rfl dX10_nextTrue_1 ?_
  refine lv_bipush (v := (22 : Int32)) hx hb dX10_nextTrue_4 (by decide) ?_
  refine q_iald (v := σ 1 22) C0 hW 1 rfl rfl vi_22_672 cl_22 rfl dX10_nextTrue_6 ?_
  refine lv_if_ne (tgt := 14) hx hb dX10_nextTrue_7 (by decide) (fun c_1 => ?_) (fun c_1 => ?_)
  · have hs := hs.2 c_1
    rw [if_neg c_1] at hR
    refine lv_aload_n hx hb dX10_nextTrue_14 rfl (lv_at hl 0 rfl) ?_
    refine lv_aload_n hx hb dX10_nextTrue_15 rfl (lv_at hl 0 rfl) ?_
    refine va_get (v := .ref (a 1)) (C := RX10) (T := TX10) (N := 18) hx hb hts hinX10 hown hK hW.1 0 rfl rfl 0 (by decide) hf7 (fun _ h9 => h9) rfl dX10_nextTrue_16 ?_
    refine lv_bipush (v := (22 : Int32)) hx hb dX10_nextTrue_19 (by decide) ?_
    refine q_iald (v := σ 1 22) C0 hW 1 rfl rfl vi_22_672 cl_22 rfl dX10_nextTrue_21 ?_
    refine lv_iconst (v := (1 : Int32)) hx hb dX10_nextTrue_22 (by decide) ?_
    refine lv_isub hx hb dX10_nextTrue_23 ?_
    refine lv_iconst (v := (1 : Int32)) hx hb dX10_nextTrue_24 (by decide) ?_
    have hs2 := hs.1
    have hs := hs.2
    refine q_Vi (As := [.int ((σ 1 22) - (1 : Int32)), .int (1 : Int32)]) (rest := []) (R := P_X10_ofB σ ((σ 1 22) - (1 : Int32)) (1 : Int32)) [0, 1, 2, 3, 4, 5, 6, 7, 8] [0, 1, 2, 3] 0 10 C0 hW (m_X10_ofB l D k a _ σ ((σ 1 22) - (1 : Int32)) (1 : Int32) hs2) (cwV 2 hts gX10_nextTrue_X10_ofB rfl rfl rfl hd_X10_ofB ⟨Nat.le_of_ble_eq_true rfl, Nat.le_of_ble_eq_true rfl⟩) (by decide) (wX10_pl k a _) rfl (wX10_rec k a _) rfl hl rfl rfl (Nat.le_of_ble_eq_true rfl) dX10_nextTrue_25 ⟨Nat.le_refl 0, Nat.le_refl 0⟩ ?_
    refine lv_iconst (v := (1 : Int32)) hx hb dX10_nextTrue_28 (by decide) ?_
    refine lv_iadd hx hb dX10_nextTrue_29 ?_
    exact q_iretr C0 hR dX10_nextTrue_30
  · have hs := hs.1 c_1
    rw [if_pos c_1] at hR
    refine lv_iconst (v := (0 : Int32)) hx hb dX10_nextTrue_10 (by decide) ?_
    refine lv_goto (tgt := 30) hx hb dX10_nextTrue_11 (by decide) ?_
    exact q_iretr C0 hR dX10_nextTrue_30
set_option maxHeartbeats 400000 in
set_option maxRecDepth 100000 in
theorem m_X10_nextTrue (l : Launch) (D : va_G) (k : Nat → ClassId) (a : Nat → Nat) (sz : Nat) (σ : T2) (hs : S_X10_nextTrue σ) : Met l yX10_nextTrue wsX10_nextTrue { frames := 1, cells := 0, slots := 0, locals := 22 } (va_Pc [.ref (a 0)] (q_B D (tyL k) (wX10 k a σ) sz)) (vp_Si (fun r => r = P_X10_nextTrue σ)) 0 0 (fun _ => False) := by
  refine q_met [.ref (a 0)] (wX10 k a σ) sz (cc := cX10_nextTrue) (maxL := 1) (ret := (some .int)) (by decide) rfl (Nat.le_of_ble_eq_true rfl) ?_
  intro p e s m args below meth c ls hsz C0 hW hl hin
  subst hsz
  exact b_X10_nextTrue_b0 l D k a _ C0 _ σ  hs rfl s.heap [] ls hW (lv_sub hl [0] rfl)
theorem hin_X10_addBeat_X10 : ∀ w ∈ u_ws RX10 TX10 18, w ∈ wsX10_addBeat := by decide +kernel
theorem hd_X10_addBeat : yX10_addBeat.cls = RX10 ∧ yX10_addBeat.cls ≠ "java/lang/invoke/MethodHandle" ∧ yX10_addBeat.cls ≠ "java/lang/invoke/VarHandle" ∧ (parseMethodDescriptor yX10_addBeat.desc).map (fun d => d.parameters.length) = some 2 := by decide +kernel
noncomputable def P_X10_addBeat_b34c (σ : T2) : T2 := u2 σ 1 (upd (σ 1) 22 ((σ 1 22) + (1 : Int32)))
def S_X10_addBeat_b34c (σ : T2) : Prop := True
theorem P_X10_addBeat_b34c_e (σ : T2) : P_X10_addBeat_b34c σ = u2 σ 1 (upd (σ 1) 22 ((σ 1 22) + (1 : Int32))) := rfl
theorem S_X10_addBeat_b34c_e (σ : T2) : S_X10_addBeat_b34c σ = (True) := rfl
noncomputable def P_X10_addBeat_b22c (σ : T2) (v3 : Int32) : T2 := P_X10_addBeat_b34c (P_X10_become σ v3 (0 : Int32) (-6 : Int32) (-6 : Int32) (-6 : Int32))
def S_X10_addBeat_b22c (σ : T2) (v3 : Int32) : Prop := (S_X10_become σ v3 (0 : Int32) (-6 : Int32) (-6 : Int32) (-6 : Int32)) ∧ (S_X10_addBeat_b34c (P_X10_become σ v3 (0 : Int32) (-6 : Int32) (-6 : Int32) (-6 : Int32)))
theorem P_X10_addBeat_b22c_e (σ : T2) (v3 : Int32) : P_X10_addBeat_b22c σ v3 = P_X10_addBeat_b34c (P_X10_become σ v3 (0 : Int32) (-6 : Int32) (-6 : Int32) (-6 : Int32)) := rfl
theorem S_X10_addBeat_b22c_e (σ : T2) (v3 : Int32) : S_X10_addBeat_b22c σ v3 = ((S_X10_become σ v3 (0 : Int32) (-6 : Int32) (-6 : Int32) (-6 : Int32)) ∧ (S_X10_addBeat_b34c (P_X10_become σ v3 (0 : Int32) (-6 : Int32) (-6 : Int32) (-6 : Int32)))) := rfl
noncomputable def P_X10_addBeat_b15c (σ : T2) (v2 : Int32) (v3 : Int32) : T2 := P_X10_addBeat_b22c (P_X10_layB σ v3 (1 : Int32) v2) v3
def S_X10_addBeat_b15c (σ : T2) (v2 : Int32) (v3 : Int32) : Prop := (S_X10_layB σ v3 (1 : Int32) v2) ∧ (S_X10_addBeat_b22c (P_X10_layB σ v3 (1 : Int32) v2) v3)
theorem P_X10_addBeat_b15c_e (σ : T2) (v2 : Int32) (v3 : Int32) : P_X10_addBeat_b15c σ v2 v3 = P_X10_addBeat_b22c (P_X10_layB σ v3 (1 : Int32) v2) v3 := rfl
theorem S_X10_addBeat_b15c_e (σ : T2) (v2 : Int32) (v3 : Int32) : S_X10_addBeat_b15c σ v2 v3 = ((S_X10_layB σ v3 (1 : Int32) v2) ∧ (S_X10_addBeat_b22c (P_X10_layB σ v3 (1 : Int32) v2) v3)) := rfl
noncomputable def P_X10_addBeat_b0 (σ : T2) (v1 : Int32) (v2 : Int32) : T2 := P_X10_addBeat_b15c (P_X10_layB σ (σ 1 22) (0 : Int32) v1) v2 (σ 1 22)
def S_X10_addBeat_b0 (σ : T2) (v1 : Int32) (v2 : Int32) : Prop := (S_X10_layB σ (σ 1 22) (0 : Int32) v1) ∧ (S_X10_addBeat_b15c (P_X10_layB σ (σ 1 22) (0 : Int32) v1) v2 (σ 1 22))
theorem P_X10_addBeat_b0_e (σ : T2) (v1 : Int32) (v2 : Int32) : P_X10_addBeat_b0 σ v1 v2 = P_X10_addBeat_b15c (P_X10_layB σ (σ 1 22) (0 : Int32) v1) v2 (σ 1 22) := rfl
theorem S_X10_addBeat_b0_e (σ : T2) (v1 : Int32) (v2 : Int32) : S_X10_addBeat_b0 σ v1 v2 = ((S_X10_layB σ (σ 1 22) (0 : Int32) v1) ∧ (S_X10_addBeat_b15c (P_X10_layB σ (σ 1 22) (0 : Int32) v1) v2 (σ 1 22))) := rfl
noncomputable def P_X10_addBeat (σ : T2) (p0 : Int32) (p1 : Int32) : T2 := P_X10_addBeat_b0 σ p0 p1
def S_X10_addBeat (σ : T2) (p0 : Int32) (p1 : Int32) : Prop := S_X10_addBeat_b0 σ p0 p1
set_option maxHeartbeats 400000 in
set_option maxRecDepth 100000 in
theorem b_X10_addBeat_b34c {p : Program} {e : Env} {s : State} {m : MethodId} {args : Array Value} {below : List Frame} {meth : Method} {c : Code} (l : Launch) (D : va_G) (k : Nat → ClassId) (a : Nat → Nat) (A : Nat → Prop) (C0 : q_C p s m meth c args RX10 cX10_addBeat 4 none wsX10_addBeat D (tyL k) A) (R : T2) : ∀ (σ : T2), S_X10_addBeat_b34c σ → P_X10_addBeat_b34c σ = R → ∀ (H : Heap) (locs : List Loc) (ls : Array Slot), q_W D A s.heap (wX10 k a σ) H locs → lv_has ls 4 [(0, .ref (a 0))] → W p l e { frames := 2, cells := 0, slots := 0, locals := 48 } s m args below meth c H locs 0 0 (MQ below (va_Qv (fun u => u = R) (fun u => q_E D (tyL k) A (wX10 k a u)) A) args s 0 0 A) (F0 m 34 ls []) := by
  intro σ hs hR H locs ls hW hl
  rw [P_X10_addBeat_b34c_e] at hR
  rw [S_X10_addBeat_b34c_e] at hs
  obtain ⟨hx, hb, hr, hml, hts, hown, hlocks, hK, hA⟩ := id C0
  have hf7 := hts (.fieldLink RX10 7 "BeatFollowerModel" "at" "[I") (by decide +kernel)
  have hinX10 : ∀ w ∈ u_ws RX10 TX10 18, w ∈ wsX10_addBeat := hin_X10_addBeat_X10
  refine lv_aload_n hx hb dX10_addBeat_34 rfl (lv_at hl 0 rfl) ?_
  refine va_get (v := .ref (a 1)) (C := RX10) (T := TX10) (N := 18) hx hb hts hinX10 hown hK hW.1 0 rfl rfl 0 (by decide) hf7 (fun _ h9 => h9) rfl dX10_addBeat_35 ?_
  refine lv_bipush (v := (22 : Int32)) hx hb dX10_addBeat_38 (by decide) ?_
  refine lv_dup2_11 hx hb dX10_addBeat_40 rfl rfl ?_
  refine q_iald (v := σ 1 22) C0 hW 1 rfl rfl vi_22_672 cl_22 rfl dX10_addBeat_41 ?_
  refine lv_iconst (v := (1 : Int32)) hx hb dX10_addBeat_42 (by decide) ?_
  refine lv_iadd hx hb dX10_addBeat_43 ?_
  refine q_iast (f := σ 1) (wd' := wX10 k a (u2 σ 1 (upd (σ 1) 22 ((σ 1 22) + (1 : Int32))))) C0 hW 1 rfl rfl vi_22_672 cl_22 dX10_addBeat_44 (wX10_s1 k a _ _) (fun H locs hW => ?_)
  exact q_vret C0 hW hR dX10_addBeat_45
set_option maxHeartbeats 400000 in
set_option maxRecDepth 100000 in
theorem b_X10_addBeat_b22c {p : Program} {e : Env} {s : State} {m : MethodId} {args : Array Value} {below : List Frame} {meth : Method} {c : Code} (l : Launch) (D : va_G) (k : Nat → ClassId) (a : Nat → Nat) (A : Nat → Prop) (C0 : q_C p s m meth c args RX10 cX10_addBeat 4 none wsX10_addBeat D (tyL k) A) (R : T2) : ∀ (σ : T2) (v3 : Int32), S_X10_addBeat_b22c σ v3 → P_X10_addBeat_b22c σ v3 = R → ∀ (H : Heap) (locs : List Loc) (ls : Array Slot), q_W D A s.heap (wX10 k a σ) H locs → lv_has ls 4 [(0, .ref (a 0)), (3, .int v3)] → W p l e { frames := 2, cells := 0, slots := 0, locals := 48 } s m args below meth c H locs 0 0 (MQ below (va_Qv (fun u => u = R) (fun u => q_E D (tyL k) A (wX10 k a u)) A) args s 0 0 A) (F0 m 22 ls []) := by
  intro σ v3 hs hR H locs ls hW hl
  rw [P_X10_addBeat_b22c_e] at hR
  rw [S_X10_addBeat_b22c_e] at hs
  obtain ⟨hx, hb, hr, hml, hts, hown, hlocks, hK, hA⟩ := id C0
  refine lv_aload_n hx hb dX10_addBeat_22 rfl (lv_at hl 0 rfl) ?_
  refine lv_iload_n hx hb dX10_addBeat_23 rfl (lv_at hl 1 rfl) ?_
  refine lv_iconst (v := (0 : Int32)) hx hb dX10_addBeat_24 (by decide) ?_
  refine lv_bipush (v := (-6 : Int32)) hx hb dX10_addBeat_25 (by decide) ?_
  refine lv_bipush (v := (-6 : Int32)) hx hb dX10_addBeat_27 (by decide) ?_
  refine lv_bipush (v := (-6 : Int32)) hx hb dX10_addBeat_29 (by decide) ?_
  have hs3 := hs.1
  have hs := hs.2
  refine q_Vv (As := [.int v3, .int (0 : Int32), .int (-6 : Int32), .int (-6 : Int32), .int (-6 : Int32)]) (rest := []) (wf := wX10 k a) (R := P_X10_become σ v3 (0 : Int32) (-6 : Int32) (-6 : Int32) (-6 : Int32)) (wd' := wX10 k a (P_X10_become σ v3 (0 : Int32) (-6 : Int32) (-6 : Int32) (-6 : Int32))) [0, 1, 2, 3, 4, 5, 6, 7, 8] [0, 1, 2, 3] 0 10 C0 hW (m_X10_become l D k a H.size σ v3 (0 : Int32) (-6 : Int32) (-6 : Int32) (-6 : Int32) hs3) (cwV 5 hts gX10_addBeat_X10_become rfl rfl rfl hd_X10_become ⟨Nat.le_of_ble_eq_true rfl, Nat.le_of_ble_eq_true rfl⟩) (by decide) (wX10_pl k a _) rfl (wX10_rec k a _) rfl (wX10_fst k a _ _) (wX10_put k a _ _) hl rfl rfl (Nat.le_of_ble_eq_true rfl) dX10_addBeat_31 ⟨Nat.le_refl 0, Nat.le_refl 0⟩ (fun H locs hW => ?_)
  exact b_X10_addBeat_b34c l D k a A C0 R (P_X10_become σ v3 (0 : Int32) (-6 : Int32) (-6 : Int32) (-6 : Int32)) hs hR H locs ls hW (lv_sub hl [0] rfl)
set_option maxHeartbeats 400000 in
set_option maxRecDepth 100000 in
theorem b_X10_addBeat_b15c {p : Program} {e : Env} {s : State} {m : MethodId} {args : Array Value} {below : List Frame} {meth : Method} {c : Code} (l : Launch) (D : va_G) (k : Nat → ClassId) (a : Nat → Nat) (A : Nat → Prop) (C0 : q_C p s m meth c args RX10 cX10_addBeat 4 none wsX10_addBeat D (tyL k) A) (R : T2) : ∀ (σ : T2) (v2 : Int32) (v3 : Int32), S_X10_addBeat_b15c σ v2 v3 → P_X10_addBeat_b15c σ v2 v3 = R → ∀ (H : Heap) (locs : List Loc) (ls : Array Slot), q_W D A s.heap (wX10 k a σ) H locs → lv_has ls 4 [(0, .ref (a 0)), (2, .int v2), (3, .int v3)] → W p l e { frames := 2, cells := 0, slots := 0, locals := 48 } s m args below meth c H locs 0 0 (MQ below (va_Qv (fun u => u = R) (fun u => q_E D (tyL k) A (wX10 k a u)) A) args s 0 0 A) (F0 m 15 ls []) := by
  intro σ v2 v3 hs hR H locs ls hW hl
  rw [P_X10_addBeat_b15c_e] at hR
  rw [S_X10_addBeat_b15c_e] at hs
  obtain ⟨hx, hb, hr, hml, hts, hown, hlocks, hK, hA⟩ := id C0
  refine lv_aload_n hx hb dX10_addBeat_15 rfl (lv_at hl 0 rfl) ?_
  refine lv_iload_n hx hb dX10_addBeat_16 rfl (lv_at hl 2 rfl) ?_
  refine lv_iconst (v := (1 : Int32)) hx hb dX10_addBeat_17 (by decide) ?_
  refine lv_iload_n hx hb dX10_addBeat_18 rfl (lv_at hl 1 rfl) ?_
  have hs2 := hs.1
  have hs := hs.2
  refine q_Vv (As := [.int v3, .int (1 : Int32), .int v2]) (rest := []) (wf := wX10 k a) (R := P_X10_layB σ v3 (1 : Int32) v2) (wd' := wX10 k a (P_X10_layB σ v3 (1 : Int32) v2)) [0, 1, 2, 3, 4, 5, 6, 7, 8] [0, 1, 2, 3] 0 10 C0 hW (m_X10_layB l D k a H.size σ v3 (1 : Int32) v2 hs2) (cwV 3 hts gX10_addBeat_X10_layB rfl rfl rfl hd_X10_layB ⟨Nat.le_of_ble_eq_true rfl, Nat.le_of_ble_eq_true rfl⟩) (by decide) (wX10_pl k a _) rfl (wX10_rec k a _) rfl (wX10_fst k a _ _) (wX10_put k a _ _) hl rfl rfl (Nat.le_of_ble_eq_true rfl) dX10_addBeat_19 ⟨Nat.le_refl 0, Nat.le_refl 0⟩ (fun H locs hW => ?_)
  exact b_X10_addBeat_b22c l D k a A C0 R (P_X10_layB σ v3 (1 : Int32) v2) v3 hs hR H locs ls hW (lv_sub hl [0, 2] rfl)
set_option maxHeartbeats 400000 in
set_option maxRecDepth 100000 in
theorem b_X10_addBeat_b0 {p : Program} {e : Env} {s : State} {m : MethodId} {args : Array Value} {below : List Frame} {meth : Method} {c : Code} (l : Launch) (D : va_G) (k : Nat → ClassId) (a : Nat → Nat) (A : Nat → Prop) (C0 : q_C p s m meth c args RX10 cX10_addBeat 4 none wsX10_addBeat D (tyL k) A) (R : T2) : ∀ (σ : T2) (v1 : Int32) (v2 : Int32), S_X10_addBeat_b0 σ v1 v2 → P_X10_addBeat_b0 σ v1 v2 = R → ∀ (H : Heap) (locs : List Loc) (ls : Array Slot), q_W D A s.heap (wX10 k a σ) H locs → lv_has ls 4 [(0, .ref (a 0)), (1, .int v1), (2, .int v2)] → W p l e { frames := 2, cells := 0, slots := 0, locals := 48 } s m args below meth c H locs 0 0 (MQ below (va_Qv (fun u => u = R) (fun u => q_E D (tyL k) A (wX10 k a u)) A) args s 0 0 A) (F0 m 0 ls []) := by
  intro σ v1 v2 hs hR H locs ls hW hl
  rw [P_X10_addBeat_b0_e] at hR
  rw [S_X10_addBeat_b0_e] at hs
  obtain ⟨hx, hb, hr, hml, hts, hown, hlocks, hK, hA⟩ := id C0
  have hf7 := hts (.fieldLink RX10 7 "BeatFollowerModel" "at" "[I") (by decide +kernel)
  have hinX10 : ∀ w ∈ u_ws RX10 TX10 18, w ∈ wsX10_addBeat := hin_X10_addBeat_X10
  refine lv_aload_n hx hb dX10_addBeat_0 rfl (lv_at hl 0 rfl) ?_
  refine va_get (v := .ref (a 1)) (C := RX10) (T := TX10) (N := 18) hx hb hts hinX10 hown hK hW.1 0 rfl rfl 0 (by decide) hf7 (fun _ h9 => h9) rfl dX10_addBeat_1 ?_
  refine lv_bipush (v := (22 : Int32)) hx hb dX10_addBeat_4 (by decide) ?_
  refine q_iald (v := σ 1 22) C0 hW 1 rfl rfl vi_22_672 cl_22 rfl dX10_addBeat_6 ?_
  refine lv_istore_n (lv' := [(3, .int (σ 1 22)), (0, .ref (a 0)), (1, .int v1), (2, .int v2)]) hx hb dX10_addBeat_7 rfl hl (by decide) rfl (fun ls hl => ?_)
  refine lv_aload_n hx hb dX10_addBeat_8 rfl (lv_at hl 1 rfl) ?_
  refine lv_iload_n hx hb dX10_addBeat_9 rfl (lv_at hl 0 rfl) ?_
  refine lv_iconst (v := (0 : Int32)) hx hb dX10_addBeat_10 (by decide) ?_
  refine lv_iload_n hx hb dX10_addBeat_11 rfl (lv_at hl 2 rfl) ?_
  have hs1 := hs.1
  have hs := hs.2
  refine q_Vv (As := [.int (σ 1 22), .int (0 : Int32), .int v1]) (rest := []) (wf := wX10 k a) (R := P_X10_layB σ (σ 1 22) (0 : Int32) v1) (wd' := wX10 k a (P_X10_layB σ (σ 1 22) (0 : Int32) v1)) [0, 1, 2, 3, 4, 5, 6, 7, 8] [0, 1, 2, 3] 0 10 C0 hW (m_X10_layB l D k a H.size σ (σ 1 22) (0 : Int32) v1 hs1) (cwV 3 hts gX10_addBeat_X10_layB rfl rfl rfl hd_X10_layB ⟨Nat.le_of_ble_eq_true rfl, Nat.le_of_ble_eq_true rfl⟩) (by decide) (wX10_pl k a _) rfl (wX10_rec k a _) rfl (wX10_fst k a _ _) (wX10_put k a _ _) hl rfl rfl (Nat.le_of_ble_eq_true rfl) dX10_addBeat_12 ⟨Nat.le_refl 0, Nat.le_refl 0⟩ (fun H locs hW => ?_)
  exact b_X10_addBeat_b15c l D k a A C0 R (P_X10_layB σ (σ 1 22) (0 : Int32) v1) v2 (σ 1 22) hs hR H locs ls hW (lv_sub hl [1, 3, 0] rfl)
set_option maxHeartbeats 400000 in
set_option maxRecDepth 100000 in
theorem m_X10_addBeat (l : Launch) (D : va_G) (k : Nat → ClassId) (a : Nat → Nat) (sz : Nat) (σ : T2) (p0 : Int32) (p1 : Int32) (hs : S_X10_addBeat σ p0 p1) : Met l yX10_addBeat wsX10_addBeat { frames := 2, cells := 0, slots := 0, locals := 48 } (va_Pc [.ref (a 0), .int p0, .int p1] (q_B D (tyL k) (wX10 k a σ) sz)) (va_Qv (fun u => u = P_X10_addBeat σ p0 p1) (fun u => q_E D (tyL k) (va_A (wX10 k a σ) sz) (wX10 k a u)) (va_A (wX10 k a σ) sz)) 0 0 (va_A (wX10 k a σ) sz) := by
  refine q_met [.ref (a 0), .int p0, .int p1] (wX10 k a σ) sz (cc := cX10_addBeat) (maxL := 4) (ret := none) (by decide) rfl (Nat.le_of_ble_eq_true rfl) ?_
  intro p e s m args below meth c ls hsz C0 hW hl hin
  subst hsz
  exact b_X10_addBeat_b0 l D k a _ C0 _ σ p0 p1 hs rfl s.heap [] ls hW (lv_sub hl [0, 1, 2] rfl)
theorem hin_X10_beat_X10 : ∀ w ∈ u_ws RX10 TX10 18, w ∈ wsX10_beat := by decide +kernel
theorem hd_X10_beat : yX10_beat.cls = RX10 ∧ yX10_beat.cls ≠ "java/lang/invoke/MethodHandle" ∧ yX10_beat.cls ≠ "java/lang/invoke/VarHandle" ∧ (parseMethodDescriptor yX10_beat.desc).map (fun d => d.parameters.length) = some 2 := by decide +kernel
noncomputable def P_X10_beat_b93c (σ : T2) : Int32 × T2 := (σ 1 22, σ)
def S_X10_beat_b93c (σ : T2) : Prop := True
theorem P_X10_beat_b93c_e (σ : T2) : P_X10_beat_b93c σ = (σ 1 22, σ) := rfl
theorem S_X10_beat_b93c_e (σ : T2) : S_X10_beat_b93c σ = (True) := rfl
noncomputable def P_X10_beat_b86c (σ : T2) (v3 : Int32) (v4 : Int32) : Int32 × T2 := P_X10_beat_b93c (P_X10_addBeat σ v3 v4)
def S_X10_beat_b86c (σ : T2) (v3 : Int32) (v4 : Int32) : Prop := (S_X10_addBeat σ v3 v4) ∧ (S_X10_beat_b93c (P_X10_addBeat σ v3 v4))
theorem P_X10_beat_b86c_e (σ : T2) (v3 : Int32) (v4 : Int32) : P_X10_beat_b86c σ v3 v4 = P_X10_beat_b93c (P_X10_addBeat σ v3 v4) := rfl
theorem S_X10_beat_b86c_e (σ : T2) (v3 : Int32) (v4 : Int32) : S_X10_beat_b86c σ v3 v4 = ((S_X10_addBeat σ v3 v4) ∧ (S_X10_beat_b93c (P_X10_addBeat σ v3 v4))) := rfl
noncomputable def P_X10_beat_b0 (σ : T2) (v1 : Int32) (v2 : Int32) : Int32 × T2 := if (P_X10_in v1 (1 : Int32) (9999 : Int32)) = 0 then (((-2 : Int32), σ)) else (if (P_X10_in v2 (0 : Int32) (99 : Int32)) = 0 then (((-2 : Int32), σ)) else (if (σ 1 22) = (64 : Int32) then (((-4 : Int32), σ)) else (if (100000 : Int32) < ((P_X10_lastTime σ) + v1) then (((-4 : Int32), σ)) else (if ((P_X10_nextTrue σ) + v2) ≤ (1000 : Int32) then (if (σ 1 8) < ((P_X10_lastTime σ) + v1) then (P_X10_beat_b86c (P_X10_keep σ) ((P_X10_lastTime σ) + v1) ((P_X10_nextTrue σ) + v2)) else (((-5 : Int32), σ))) else (((-4 : Int32), σ))))))
def S_X10_beat_b0 (σ : T2) (v1 : Int32) (v2 : Int32) : Prop := (S_X10_in v1 (1 : Int32) (9999 : Int32)) ∧ (((P_X10_in v1 (1 : Int32) (9999 : Int32)) = 0 → (True)) ∧ (¬ ((P_X10_in v1 (1 : Int32) (9999 : Int32)) = 0) → ((S_X10_in v2 (0 : Int32) (99 : Int32)) ∧ (((P_X10_in v2 (0 : Int32) (99 : Int32)) = 0 → (True)) ∧ (¬ ((P_X10_in v2 (0 : Int32) (99 : Int32)) = 0) → ((S_X10_lastTime σ ) ∧ ((S_X10_nextTrue σ ) ∧ (((σ 1 22) = (64 : Int32) → (True)) ∧ (¬ ((σ 1 22) = (64 : Int32)) → (((100000 : Int32) < ((P_X10_lastTime σ) + v1) → (True)) ∧ (¬ ((100000 : Int32) < ((P_X10_lastTime σ) + v1)) → ((((P_X10_nextTrue σ) + v2) ≤ (1000 : Int32) → (((σ 1 8) < ((P_X10_lastTime σ) + v1) → ((S_X10_keep σ ) ∧ (S_X10_beat_b86c (P_X10_keep σ) ((P_X10_lastTime σ) + v1) ((P_X10_nextTrue σ) + v2)))) ∧ (¬ ((σ 1 8) < ((P_X10_lastTime σ) + v1)) → (True)))) ∧ (¬ (((P_X10_nextTrue σ) + v2) ≤ (1000 : Int32)) → (True))))))))))))))
theorem P_X10_beat_b0_e (σ : T2) (v1 : Int32) (v2 : Int32) : P_X10_beat_b0 σ v1 v2 = if (P_X10_in v1 (1 : Int32) (9999 : Int32)) = 0 then (((-2 : Int32), σ)) else (if (P_X10_in v2 (0 : Int32) (99 : Int32)) = 0 then (((-2 : Int32), σ)) else (if (σ 1 22) = (64 : Int32) then (((-4 : Int32), σ)) else (if (100000 : Int32) < ((P_X10_lastTime σ) + v1) then (((-4 : Int32), σ)) else (if ((P_X10_nextTrue σ) + v2) ≤ (1000 : Int32) then (if (σ 1 8) < ((P_X10_lastTime σ) + v1) then (P_X10_beat_b86c (P_X10_keep σ) ((P_X10_lastTime σ) + v1) ((P_X10_nextTrue σ) + v2)) else (((-5 : Int32), σ))) else (((-4 : Int32), σ)))))) := rfl
theorem S_X10_beat_b0_e (σ : T2) (v1 : Int32) (v2 : Int32) : S_X10_beat_b0 σ v1 v2 = ((S_X10_in v1 (1 : Int32) (9999 : Int32)) ∧ (((P_X10_in v1 (1 : Int32) (9999 : Int32)) = 0 → (True)) ∧ (¬ ((P_X10_in v1 (1 : Int32) (9999 : Int32)) = 0) → ((S_X10_in v2 (0 : Int32) (99 : Int32)) ∧ (((P_X10_in v2 (0 : Int32) (99 : Int32)) = 0 → (True)) ∧ (¬ ((P_X10_in v2 (0 : Int32) (99 : Int32)) = 0) → ((S_X10_lastTime σ ) ∧ ((S_X10_nextTrue σ ) ∧ (((σ 1 22) = (64 : Int32) → (True)) ∧ (¬ ((σ 1 22) = (64 : Int32)) → (((100000 : Int32) < ((P_X10_lastTime σ) + v1) → (True)) ∧ (¬ ((100000 : Int32) < ((P_X10_lastTime σ) + v1)) → ((((P_X10_nextTrue σ) + v2) ≤ (1000 : Int32) → (((σ 1 8) < ((P_X10_lastTime σ) + v1) → ((S_X10_keep σ ) ∧ (S_X10_beat_b86c (P_X10_keep σ) ((P_X10_lastTime σ) + v1) ((P_X10_nextTrue σ) + v2)))) ∧ (¬ ((σ 1 8) < ((P_X10_lastTime σ) + v1)) → (True)))) ∧ (¬ (((P_X10_nextTrue σ) + v2) ≤ (1000 : Int32)) → (True))))))))))))))) := rfl
noncomputable def P_X10_beat (σ : T2) (p0 : Int32) (p1 : Int32) : Int32 × T2 := P_X10_beat_b0 σ p0 p1
def S_X10_beat (σ : T2) (p0 : Int32) (p1 : Int32) : Prop := S_X10_beat_b0 σ p0 p1
set_option maxHeartbeats 400000 in
set_option maxRecDepth 100000 in
theorem b_X10_beat_b93c {p : Program} {e : Env} {s : State} {m : MethodId} {args : Array Value} {below : List Frame} {meth : Method} {c : Code} (l : Launch) (D : va_G) (k : Nat → ClassId) (a : Nat → Nat) (A : Nat → Prop) (C0 : q_C p s m meth c args RX10 cX10_beat 5 (some .int) wsX10_beat D (tyL k) A) (R : Int32 × T2) : ∀ (σ : T2), S_X10_beat_b93c σ → P_X10_beat_b93c σ = R → ∀ (H : Heap) (locs : List Loc) (ls : Array Slot), q_W D A s.heap (wX10 k a σ) H locs → lv_has ls 5 [(0, .ref (a 0))] → W p l e { frames := 3, cells := 0, slots := 0, locals := 71 } s m args below meth c H locs 0 0 (MQ below (va_Qi (fun r u => (r, u) = R) (fun u => q_E D (tyL k) A (wX10 k a u)) A) args s 0 0 A) (F0 m 93 ls []) := by
  intro σ hs hR H locs ls hW hl
  rw [P_X10_beat_b93c_e] at hR
  rw [S_X10_beat_b93c_e] at hs
  obtain ⟨hx, hb, hr, hml, hts, hown, hlocks, hK, hA⟩ := id C0
  have hf7 := hts (.fieldLink RX10 7 "BeatFollowerModel" "at" "[I") (by decide +kernel)
  have hinX10 : ∀ w ∈ u_ws RX10 TX10 18, w ∈ wsX10_beat := hin_X10_beat_X10
  refine lv_aload_n hx hb dX10_beat_93 rfl (lv_at hl 0 rfl) ?_
  refine va_get (v := .ref (a 1)) (C := RX10) (T := TX10) (N := 18) hx hb hts hinX10 hown hK hW.1 0 rfl rfl 0 (by decide) hf7 (fun _ h9 => h9) rfl dX10_beat_94 ?_
  refine lv_bipush (v := (22 : Int32)) hx hb dX10_beat_97 (by decide) ?_
  refine q_iald (v := σ 1 22) C0 hW 1 rfl rfl vi_22_672 cl_22 rfl dX10_beat_99 ?_
  exact q_iret C0 hW hR dX10_beat_100
set_option maxHeartbeats 400000 in
set_option maxRecDepth 100000 in
theorem b_X10_beat_b86c {p : Program} {e : Env} {s : State} {m : MethodId} {args : Array Value} {below : List Frame} {meth : Method} {c : Code} (l : Launch) (D : va_G) (k : Nat → ClassId) (a : Nat → Nat) (A : Nat → Prop) (C0 : q_C p s m meth c args RX10 cX10_beat 5 (some .int) wsX10_beat D (tyL k) A) (R : Int32 × T2) : ∀ (σ : T2) (v3 : Int32) (v4 : Int32), S_X10_beat_b86c σ v3 v4 → P_X10_beat_b86c σ v3 v4 = R → ∀ (H : Heap) (locs : List Loc) (ls : Array Slot), q_W D A s.heap (wX10 k a σ) H locs → lv_has ls 5 [(0, .ref (a 0)), (3, .int v3), (4, .int v4)] → W p l e { frames := 3, cells := 0, slots := 0, locals := 71 } s m args below meth c H locs 0 0 (MQ below (va_Qi (fun r u => (r, u) = R) (fun u => q_E D (tyL k) A (wX10 k a u)) A) args s 0 0 A) (F0 m 86 ls []) := by
  intro σ v3 v4 hs hR H locs ls hW hl
  rw [P_X10_beat_b86c_e] at hR
  rw [S_X10_beat_b86c_e] at hs
  obtain ⟨hx, hb, hr, hml, hts, hown, hlocks, hK, hA⟩ := id C0
  refine lv_aload_n hx hb dX10_beat_86 rfl (lv_at hl 0 rfl) ?_
  refine lv_iload_n hx hb dX10_beat_87 rfl (lv_at hl 1 rfl) ?_
  refine lv_iload hx hb dX10_beat_88 (lv_at hl 2 rfl) ?_
  have hs12 := hs.1
  have hs := hs.2
  refine q_Vv (As := [.int v3, .int v4]) (rest := []) (wf := wX10 k a) (R := P_X10_addBeat σ v3 v4) (wd' := wX10 k a (P_X10_addBeat σ v3 v4)) [0, 1, 2, 3, 4, 5, 6, 7, 8] [0, 1, 2, 3] 0 10 C0 hW (m_X10_addBeat l D k a H.size σ v3 v4 hs12) (cwV 2 hts gX10_beat_X10_addBeat rfl rfl rfl hd_X10_addBeat ⟨Nat.le_of_ble_eq_true rfl, Nat.le_of_ble_eq_true rfl⟩) (by decide) (wX10_pl k a _) rfl (wX10_rec k a _) rfl (wX10_fst k a _ _) (wX10_put k a _ _) hl rfl rfl (Nat.le_of_ble_eq_true rfl) dX10_beat_90 ⟨Nat.le_refl 0, Nat.le_refl 0⟩ (fun H locs hW => ?_)
  exact b_X10_beat_b93c l D k a A C0 R (P_X10_addBeat σ v3 v4) hs hR H locs ls hW (lv_sub hl [0] rfl)
set_option maxHeartbeats 400000 in
set_option maxRecDepth 100000 in
theorem b_X10_beat_b0 {p : Program} {e : Env} {s : State} {m : MethodId} {args : Array Value} {below : List Frame} {meth : Method} {c : Code} (l : Launch) (D : va_G) (k : Nat → ClassId) (a : Nat → Nat) (A : Nat → Prop) (C0 : q_C p s m meth c args RX10 cX10_beat 5 (some .int) wsX10_beat D (tyL k) A) (R : Int32 × T2) : ∀ (σ : T2) (v1 : Int32) (v2 : Int32), S_X10_beat_b0 σ v1 v2 → P_X10_beat_b0 σ v1 v2 = R → ∀ (H : Heap) (locs : List Loc) (ls : Array Slot), q_W D A s.heap (wX10 k a σ) H locs → lv_has ls 5 [(0, .ref (a 0)), (1, .int v1), (2, .int v2)] → W p l e { frames := 3, cells := 0, slots := 0, locals := 71 } s m args below meth c H locs 0 0 (MQ below (va_Qi (fun r u => (r, u) = R) (fun u => q_E D (tyL k) A (wX10 k a u)) A) args s 0 0 A) (F0 m 0 ls []) := by
  intro σ v1 v2 hs hR H locs ls hW hl
  rw [P_X10_beat_b0_e] at hR
  rw [S_X10_beat_b0_e] at hs
  obtain ⟨hx, hb, hr, hml, hts, hown, hlocks, hK, hA⟩ := id C0
  have hf7 := hts (.fieldLink RX10 7 "BeatFollowerModel" "at" "[I") (by decide +kernel)
  have hinX10 : ∀ w ∈ u_ws RX10 TX10 18, w ∈ wsX10_beat := hin_X10_beat_X10
  refine lv_iload_n hx hb dX10_beat_0 rfl (lv_at hl 1 rfl) ?_
  refine lv_iconst (v := (1 : Int32)) hx hb dX10_beat_1 (by decide) ?_
  refine lv_sipush (v := (9999 : Int32)) hx hb dX10_beat_2 (by decide) ?_
  have hs1 := hs.1
  have hs := hs.2
  refine q_Si (As := [.int v1, .int (1 : Int32), .int (9999 : Int32)]) (rest := []) (R := P_X10_in v1 (1 : Int32) (9999 : Int32)) ⟨hx, hb, hml, hown, hts⟩ (m_X10_in l v1 (1 : Int32) (9999 : Int32) hs1) (va_cwS 3 hts gX10_beat_X10_in rfl rfl rfl hd_X10_in ⟨Nat.le_of_ble_eq_true rfl, Nat.le_of_ble_eq_true rfl⟩) hl rfl rfl (Nat.le_of_ble_eq_true rfl) dX10_beat_5 ⟨Nat.le_refl 0, Nat.le_refl 0⟩ ?_
  refine lv_if_eq (tgt := 21) hx hb dX10_beat_8 (by decide) (fun c_2 => ?_) (fun c_2 => ?_)
  · have hs := hs.1 c_2
    rw [if_pos c_2] at hR
    refine lv_bipush (v := (-2 : Int32)) hx hb dX10_beat_21 (by decide) ?_
    exact q_iret C0 hW hR dX10_beat_23
  · have hs := hs.2 c_2
    rw [if_neg c_2] at hR
    refine lv_iload_n hx hb dX10_beat_11 rfl (lv_at hl 2 rfl) ?_
    refine lv_iconst (v := (0 : Int32)) hx hb dX10_beat_12 (by decide) ?_
    refine lv_bipush (v := (99 : Int32)) hx hb dX10_beat_13 (by decide) ?_
    have hs3 := hs.1
    have hs := hs.2
    refine q_Si (As := [.int v2, .int (0 : Int32), .int (99 : Int32)]) (rest := []) (R := P_X10_in v2 (0 : Int32) (99 : Int32)) ⟨hx, hb, hml, hown, hts⟩ (m_X10_in l v2 (0 : Int32) (99 : Int32) hs3) (va_cwS 3 hts gX10_beat_X10_in rfl rfl rfl hd_X10_in ⟨Nat.le_of_ble_eq_true rfl, Nat.le_of_ble_eq_true rfl⟩) hl rfl rfl (Nat.le_of_ble_eq_true rfl) dX10_beat_15 ⟨Nat.le_refl 0, Nat.le_refl 0⟩ ?_
    refine lv_if_ne (tgt := 24) hx hb dX10_beat_18 (by decide) (fun c_4 => ?_) (fun c_4 => ?_)
    · have hs := hs.2 c_4
      rw [if_neg c_4] at hR
      refine lv_aload_n hx hb dX10_beat_24 rfl (lv_at hl 0 rfl) ?_
      have hs5 := hs.1
      have hs := hs.2
      refine q_Vi (As := []) (rest := []) (R := P_X10_lastTime σ) [0, 1, 2, 3, 4, 5, 6, 7, 8] [0, 1, 2, 3] 0 10 C0 hW (m_X10_lastTime l D k a _ σ  hs5) (cwV 0 hts gX10_beat_X10_lastTime rfl rfl rfl hd_X10_lastTime ⟨Nat.le_of_ble_eq_true rfl, Nat.le_of_ble_eq_true rfl⟩) (by decide) (wX10_pl k a _) rfl (wX10_rec k a _) rfl hl rfl rfl (Nat.le_of_ble_eq_true rfl) dX10_beat_25 ⟨Nat.le_refl 0, Nat.le_refl 0⟩ ?_
      refine lv_iload_n hx hb dX10_beat_28 rfl (lv_at hl 1 rfl) ?_
      refine lv_iadd hx hb dX10_beat_29 ?_
      refine lv_istore_n (lv' := [(3, .int ((P_X10_lastTime σ) + v1)), (0, .ref (a 0)), (1, .int v1), (2, .int v2)]) hx hb dX10_beat_30 rfl hl (by decide) rfl (fun ls hl => ?_)
      refine lv_aload_n hx hb dX10_beat_31 rfl (lv_at hl 1 rfl) ?_
      have hs6 := hs.1
      have hs := hs.2
      refine q_Vi (As := []) (rest := []) (R := P_X10_nextTrue σ) [0, 1, 2, 3, 4, 5, 6, 7, 8] [0, 1, 2, 3] 0 10 C0 hW (m_X10_nextTrue l D k a _ σ  hs6) (cwV 0 hts gX10_beat_X10_nextTrue rfl rfl rfl hd_X10_nextTrue ⟨Nat.le_of_ble_eq_true rfl, Nat.le_of_ble_eq_true rfl⟩) (by decide) (wX10_pl k a _) rfl (wX10_rec k a _) rfl hl rfl rfl (Nat.le_of_ble_eq_true rfl) dX10_beat_32 ⟨Nat.le_refl 0, Nat.le_refl 0⟩ ?_
      refine lv_iload_n hx hb dX10_beat_35 rfl (lv_at hl 3 rfl) ?_
      refine lv_iadd hx hb dX10_beat_36 ?_
      refine lv_istore (lv' := [(4, .int ((P_X10_nextTrue σ) + v2)), (3, .int ((P_X10_lastTime σ) + v1)), (0, .ref (a 0)), (1, .int v1), (2, .int v2)]) hx hb dX10_beat_37 hl (by decide) rfl (fun ls hl => ?_)
      refine lv_aload_n hx hb dX10_beat_39 rfl (lv_at hl 2 rfl) ?_
      refine va_get (v := .ref (a 1)) (C := RX10) (T := TX10) (N := 18) hx hb hts hinX10 hown hK hW.1 0 rfl rfl 0 (by decide) hf7 (fun _ h9 => h9) rfl dX10_beat_40 ?_
      refine lv_bipush (v := (22 : Int32)) hx hb dX10_beat_43 (by decide) ?_
      refine q_iald (v := σ 1 22) C0 hW 1 rfl rfl vi_22_672 cl_22 rfl dX10_beat_45 ?_
      refine lv_bipush (v := (64 : Int32)) hx hb dX10_beat_46 (by decide) ?_
      refine lv_icmp_eq (tgt := 65) hx hb dX10_beat_48 (by decide) (fun c_7 => ?_) (fun c_7 => ?_)
      · have hs := hs.1 c_7
        rw [if_pos c_7] at hR
        refine lv_bipush (v := (-4 : Int32)) hx hb dX10_beat_65 (by decide) ?_
        exact q_iret C0 hW hR dX10_beat_67
      · have hs := hs.2 c_7
        rw [if_neg c_7] at hR
        refine lv_iload_n hx hb dX10_beat_51 rfl (lv_at hl 1 rfl) ?_
        refine lv_ldc (v := (100000 : Int32)) hx hb hown (hts (.constant RX10 117 (100000 : Int32)) (by decide +kernel)) dX10_beat_52 ?_
        refine lv_icmp_gt (tgt := 65) hx hb dX10_beat_54 (by decide) (fun c_8 => ?_) (fun c_8 => ?_)
        · have hs := hs.1 c_8
          rw [if_pos c_8] at hR
          refine lv_bipush (v := (-4 : Int32)) hx hb dX10_beat_65 (by decide) ?_
          exact q_iret C0 hW hR dX10_beat_67
        · have hs := hs.2 c_8
          rw [if_neg c_8] at hR
          refine lv_iload hx hb dX10_beat_57 (lv_at hl 0 rfl) ?_
          refine lv_sipush (v := (1000 : Int32)) hx hb dX10_beat_59 (by decide) ?_
          refine lv_icmp_le (tgt := 68) hx hb dX10_beat_62 (by decide) (fun c_9 => ?_) (fun c_9 => ?_)
          · have hs := hs.1 c_9
            rw [if_pos c_9] at hR
            refine lv_iload_n hx hb dX10_beat_68 rfl (lv_at hl 1 rfl) ?_
            refine lv_aload_n hx hb dX10_beat_69 rfl (lv_at hl 2 rfl) ?_
            refine va_get (v := .ref (a 1)) (C := RX10) (T := TX10) (N := 18) hx hb hts hinX10 hown hK hW.1 0 rfl rfl 0 (by decide) hf7 (fun _ h9 => h9) rfl dX10_beat_70 ?_
            refine lv_bipush (v := (8 : Int32)) hx hb dX10_beat_73 (by decide) ?_
            refine q_iald (v := σ 1 8) C0 hW 1 rfl rfl vi_8_672 cl_8 rfl dX10_beat_75 ?_
            refine lv_icmp_gt (tgt := 82) hx hb dX10_beat_76 (by decide) (fun c_10 => ?_) (fun c_10 => ?_)
            · have hs := hs.1 c_10
              rw [if_pos c_10] at hR
              refine lv_aload_n hx hb dX10_beat_82 rfl (lv_at hl 2 rfl) ?_
              have hs11 := hs.1
              have hs := hs.2
              refine q_Vv (As := []) (rest := []) (wf := wX10 k a) (R := P_X10_keep σ) (wd' := wX10 k a (P_X10_keep σ)) [0, 1, 2, 3, 4, 5, 6, 7, 8] [0, 1, 2, 3] 0 10 C0 hW (m_X10_keep l D k a H.size σ  hs11) (cwV 0 hts gX10_beat_X10_keep rfl rfl rfl hd_X10_keep ⟨Nat.le_of_ble_eq_true rfl, Nat.le_of_ble_eq_true rfl⟩) (by decide) (wX10_pl k a _) rfl (wX10_rec k a _) rfl (wX10_fst k a _ _) (wX10_put k a _ _) hl rfl rfl (Nat.le_of_ble_eq_true rfl) dX10_beat_83 ⟨Nat.le_refl 0, Nat.le_refl 0⟩ (fun H locs hW => ?_)
              exact b_X10_beat_b86c l D k a A C0 R (P_X10_keep σ) ((P_X10_lastTime σ) + v1) ((P_X10_nextTrue σ) + v2) hs hR H locs ls hW (lv_sub hl [2, 1, 0] rfl)
            · have hs := hs.2 c_10
              rw [if_neg c_10] at hR
              refine lv_bipush (v := (-5 : Int32)) hx hb dX10_beat_79 (by decide) ?_
              exact q_iret C0 hW hR dX10_beat_81
          · have hs := hs.2 c_9
            rw [if_neg c_9] at hR
            refine lv_bipush (v := (-4 : Int32)) hx hb dX10_beat_65 (by decide) ?_
            exact q_iret C0 hW hR dX10_beat_67
    · have hs := hs.1 c_4
      rw [if_pos c_4] at hR
      refine lv_bipush (v := (-2 : Int32)) hx hb dX10_beat_21 (by decide) ?_
      exact q_iret C0 hW hR dX10_beat_23
set_option maxHeartbeats 400000 in
set_option maxRecDepth 100000 in
theorem m_X10_beat (l : Launch) (D : va_G) (k : Nat → ClassId) (a : Nat → Nat) (sz : Nat) (σ : T2) (p0 : Int32) (p1 : Int32) (hs : S_X10_beat σ p0 p1) : Met l yX10_beat wsX10_beat { frames := 3, cells := 0, slots := 0, locals := 71 } (va_Pc [.ref (a 0), .int p0, .int p1] (q_B D (tyL k) (wX10 k a σ) sz)) (va_Qi (fun r u => (r, u) = P_X10_beat σ p0 p1) (fun u => q_E D (tyL k) (va_A (wX10 k a σ) sz) (wX10 k a u)) (va_A (wX10 k a σ) sz)) 0 0 (va_A (wX10 k a σ) sz) := by
  refine q_met [.ref (a 0), .int p0, .int p1] (wX10 k a σ) sz (cc := cX10_beat) (maxL := 5) (ret := (some .int)) (by decide) rfl (Nat.le_of_ble_eq_true rfl) ?_
  intro p e s m args below meth c ls hsz C0 hW hl hin
  subst hsz
  exact b_X10_beat_b0 l D k a _ C0 _ σ p0 p1 hs rfl s.heap [] ls hW (lv_sub hl [0, 1, 2] rfl)
theorem hin_X10_cut_X10 : ∀ w ∈ u_ws RX10 TX10 18, w ∈ wsX10_cut := by decide +kernel
theorem hd_X10_cut : yX10_cut.cls = RX10 ∧ yX10_cut.cls ≠ "java/lang/invoke/MethodHandle" ∧ yX10_cut.cls ≠ "java/lang/invoke/VarHandle" ∧ (parseMethodDescriptor yX10_cut.desc).map (fun d => d.parameters.length) = some 1 := by decide +kernel
noncomputable def P_X10_cut_b39c (σ : T2) (v1 : Int32) : Int32 × T2 := ((σ 1 22) - v1, u2 σ 1 (upd (σ 1) 22 ((σ 1 22) - v1)))
def S_X10_cut_b39c (σ : T2) (v1 : Int32) : Prop := True
theorem P_X10_cut_b39c_e (σ : T2) (v1 : Int32) : P_X10_cut_b39c σ v1 = ((σ 1 22) - v1, u2 σ 1 (upd (σ 1) 22 ((σ 1 22) - v1))) := rfl
theorem S_X10_cut_b39c_e (σ : T2) (v1 : Int32) : S_X10_cut_b39c σ v1 = (True) := rfl
noncomputable def P_X10_cut_b0 (σ : T2) (v1 : Int32) : Int32 × T2 := if (P_X10_in v1 (1 : Int32) (64 : Int32)) = 0 then (((-2 : Int32), σ)) else (if v1 ≤ ((σ 1 22) - (σ 1 14)) then (P_X10_cut_b39c (P_X10_keep σ) v1) else (((-5 : Int32), σ)))
def S_X10_cut_b0 (σ : T2) (v1 : Int32) : Prop := (S_X10_in v1 (1 : Int32) (64 : Int32)) ∧ (((P_X10_in v1 (1 : Int32) (64 : Int32)) = 0 → (True)) ∧ (¬ ((P_X10_in v1 (1 : Int32) (64 : Int32)) = 0) → ((v1 ≤ ((σ 1 22) - (σ 1 14)) → ((S_X10_keep σ ) ∧ (S_X10_cut_b39c (P_X10_keep σ) v1))) ∧ (¬ (v1 ≤ ((σ 1 22) - (σ 1 14))) → (True)))))
theorem P_X10_cut_b0_e (σ : T2) (v1 : Int32) : P_X10_cut_b0 σ v1 = if (P_X10_in v1 (1 : Int32) (64 : Int32)) = 0 then (((-2 : Int32), σ)) else (if v1 ≤ ((σ 1 22) - (σ 1 14)) then (P_X10_cut_b39c (P_X10_keep σ) v1) else (((-5 : Int32), σ))) := rfl
theorem S_X10_cut_b0_e (σ : T2) (v1 : Int32) : S_X10_cut_b0 σ v1 = ((S_X10_in v1 (1 : Int32) (64 : Int32)) ∧ (((P_X10_in v1 (1 : Int32) (64 : Int32)) = 0 → (True)) ∧ (¬ ((P_X10_in v1 (1 : Int32) (64 : Int32)) = 0) → ((v1 ≤ ((σ 1 22) - (σ 1 14)) → ((S_X10_keep σ ) ∧ (S_X10_cut_b39c (P_X10_keep σ) v1))) ∧ (¬ (v1 ≤ ((σ 1 22) - (σ 1 14))) → (True)))))) := rfl
noncomputable def P_X10_cut (σ : T2) (p0 : Int32) : Int32 × T2 := P_X10_cut_b0 σ p0
def S_X10_cut (σ : T2) (p0 : Int32) : Prop := S_X10_cut_b0 σ p0
set_option maxHeartbeats 400000 in
set_option maxRecDepth 100000 in
theorem b_X10_cut_b39c {p : Program} {e : Env} {s : State} {m : MethodId} {args : Array Value} {below : List Frame} {meth : Method} {c : Code} (l : Launch) (D : va_G) (k : Nat → ClassId) (a : Nat → Nat) (A : Nat → Prop) (C0 : q_C p s m meth c args RX10 cX10_cut 2 (some .int) wsX10_cut D (tyL k) A) (R : Int32 × T2) : ∀ (σ : T2) (v1 : Int32), S_X10_cut_b39c σ v1 → P_X10_cut_b39c σ v1 = R → ∀ (H : Heap) (locs : List Loc) (ls : Array Slot), q_W D A s.heap (wX10 k a σ) H locs → lv_has ls 2 [(0, .ref (a 0)), (1, .int v1)] → W p l e { frames := 1, cells := 0, slots := 0, locals := 22 } s m args below meth c H locs 0 0 (MQ below (va_Qi (fun r u => (r, u) = R) (fun u => q_E D (tyL k) A (wX10 k a u)) A) args s 0 0 A) (F0 m 39 ls []) := by
  intro σ v1 hs hR H locs ls hW hl
  rw [P_X10_cut_b39c_e] at hR
  rw [S_X10_cut_b39c_e] at hs
  obtain ⟨hx, hb, hr, hml, hts, hown, hlocks, hK, hA⟩ := id C0
  have hf7 := hts (.fieldLink RX10 7 "BeatFollowerModel" "at" "[I") (by decide +kernel)
  have hinX10 : ∀ w ∈ u_ws RX10 TX10 18, w ∈ wsX10_cut := hin_X10_cut_X10
  refine lv_aload_n hx hb dX10_cut_39 rfl (lv_at hl 0 rfl) ?_
  refine va_get (v := .ref (a 1)) (C := RX10) (T := TX10) (N := 18) hx hb hts hinX10 hown hK hW.1 0 rfl rfl 0 (by decide) hf7 (fun _ h9 => h9) rfl dX10_cut_40 ?_
  refine lv_bipush (v := (22 : Int32)) hx hb dX10_cut_43 (by decide) ?_
  refine lv_dup2_11 hx hb dX10_cut_45 rfl rfl ?_
  refine q_iald (v := σ 1 22) C0 hW 1 rfl rfl vi_22_672 cl_22 rfl dX10_cut_46 ?_
  refine lv_iload_n hx hb dX10_cut_47 rfl (lv_at hl 1 rfl) ?_
  refine lv_isub hx hb dX10_cut_48 ?_
  refine q_iast (f := σ 1) (wd' := wX10 k a (u2 σ 1 (upd (σ 1) 22 ((σ 1 22) - v1)))) C0 hW 1 rfl rfl vi_22_672 cl_22 dX10_cut_49 (wX10_s1 k a _ _) (fun H locs hW => ?_)
  refine lv_aload_n hx hb dX10_cut_50 rfl (lv_at hl 0 rfl) ?_
  refine va_get (v := .ref (a 1)) (C := RX10) (T := TX10) (N := 18) hx hb hts hinX10 hown hK hW.1 0 rfl rfl 0 (by decide) hf7 (fun _ h9 => h9) rfl dX10_cut_51 ?_
  refine lv_bipush (v := (22 : Int32)) hx hb dX10_cut_54 (by decide) ?_
  refine q_iald (v := (σ 1 22) - v1) C0 hW 1 rfl rfl vi_22_672 cl_22 rfl dX10_cut_56 ?_
  exact q_iret C0 hW hR dX10_cut_57
set_option maxHeartbeats 400000 in
set_option maxRecDepth 100000 in
theorem b_X10_cut_b0 {p : Program} {e : Env} {s : State} {m : MethodId} {args : Array Value} {below : List Frame} {meth : Method} {c : Code} (l : Launch) (D : va_G) (k : Nat → ClassId) (a : Nat → Nat) (A : Nat → Prop) (C0 : q_C p s m meth c args RX10 cX10_cut 2 (some .int) wsX10_cut D (tyL k) A) (R : Int32 × T2) : ∀ (σ : T2) (v1 : Int32), S_X10_cut_b0 σ v1 → P_X10_cut_b0 σ v1 = R → ∀ (H : Heap) (locs : List Loc) (ls : Array Slot), q_W D A s.heap (wX10 k a σ) H locs → lv_has ls 2 [(0, .ref (a 0)), (1, .int v1)] → W p l e { frames := 1, cells := 0, slots := 0, locals := 22 } s m args below meth c H locs 0 0 (MQ below (va_Qi (fun r u => (r, u) = R) (fun u => q_E D (tyL k) A (wX10 k a u)) A) args s 0 0 A) (F0 m 0 ls []) := by
  intro σ v1 hs hR H locs ls hW hl
  rw [P_X10_cut_b0_e] at hR
  rw [S_X10_cut_b0_e] at hs
  obtain ⟨hx, hb, hr, hml, hts, hown, hlocks, hK, hA⟩ := id C0
  have hf7 := hts (.fieldLink RX10 7 "BeatFollowerModel" "at" "[I") (by decide +kernel)
  have hinX10 : ∀ w ∈ u_ws RX10 TX10 18, w ∈ wsX10_cut := hin_X10_cut_X10
  refine lv_iload_n hx hb dX10_cut_0 rfl (lv_at hl 1 rfl) ?_
  refine lv_iconst (v := (1 : Int32)) hx hb dX10_cut_1 (by decide) ?_
  refine lv_bipush (v := (64 : Int32)) hx hb dX10_cut_2 (by decide) ?_
  have hs1 := hs.1
  have hs := hs.2
  refine q_Si (As := [.int v1, .int (1 : Int32), .int (64 : Int32)]) (rest := []) (R := P_X10_in v1 (1 : Int32) (64 : Int32)) ⟨hx, hb, hml, hown, hts⟩ (m_X10_in l v1 (1 : Int32) (64 : Int32) hs1) (va_cwS 3 hts gX10_cut_X10_in rfl rfl rfl hd_X10_in ⟨Nat.le_of_ble_eq_true rfl, Nat.le_of_ble_eq_true rfl⟩) hl rfl rfl (Nat.le_of_ble_eq_true rfl) dX10_cut_4 ⟨Nat.le_refl 0, Nat.le_refl 0⟩ ?_
  refine lv_if_ne (tgt := 13) hx hb dX10_cut_7 (by decide) (fun c_2 => ?_) (fun c_2 => ?_)
  · have hs := hs.2 c_2
    rw [if_neg c_2] at hR
    refine lv_iload_n hx hb dX10_cut_13 rfl (lv_at hl 1 rfl) ?_
    refine lv_aload_n hx hb dX10_cut_14 rfl (lv_at hl 0 rfl) ?_
    refine va_get (v := .ref (a 1)) (C := RX10) (T := TX10) (N := 18) hx hb hts hinX10 hown hK hW.1 0 rfl rfl 0 (by decide) hf7 (fun _ h9 => h9) rfl dX10_cut_15 ?_
    refine lv_bipush (v := (22 : Int32)) hx hb dX10_cut_18 (by decide) ?_
    refine q_iald (v := σ 1 22) C0 hW 1 rfl rfl vi_22_672 cl_22 rfl dX10_cut_20 ?_
    refine lv_aload_n hx hb dX10_cut_21 rfl (lv_at hl 0 rfl) ?_
    refine va_get (v := .ref (a 1)) (C := RX10) (T := TX10) (N := 18) hx hb hts hinX10 hown hK hW.1 0 rfl rfl 0 (by decide) hf7 (fun _ h9 => h9) rfl dX10_cut_22 ?_
    refine lv_bipush (v := (14 : Int32)) hx hb dX10_cut_25 (by decide) ?_
    refine q_iald (v := σ 1 14) C0 hW 1 rfl rfl vi_14_672 cl_14 rfl dX10_cut_27 ?_
    refine lv_isub hx hb dX10_cut_28 ?_
    refine lv_icmp_le (tgt := 35) hx hb dX10_cut_29 (by decide) (fun c_3 => ?_) (fun c_3 => ?_)
    · have hs := hs.1 c_3
      rw [if_pos c_3] at hR
      refine lv_aload_n hx hb dX10_cut_35 rfl (lv_at hl 0 rfl) ?_
      have hs4 := hs.1
      have hs := hs.2
      refine q_Vv (As := []) (rest := []) (wf := wX10 k a) (R := P_X10_keep σ) (wd' := wX10 k a (P_X10_keep σ)) [0, 1, 2, 3, 4, 5, 6, 7, 8] [0, 1, 2, 3] 0 10 C0 hW (m_X10_keep l D k a H.size σ  hs4) (cwV 0 hts gX10_cut_X10_keep rfl rfl rfl hd_X10_keep ⟨Nat.le_of_ble_eq_true rfl, Nat.le_of_ble_eq_true rfl⟩) (by decide) (wX10_pl k a _) rfl (wX10_rec k a _) rfl (wX10_fst k a _ _) (wX10_put k a _ _) hl rfl rfl (Nat.le_of_ble_eq_true rfl) dX10_cut_36 ⟨Nat.le_refl 0, Nat.le_refl 0⟩ (fun H locs hW => ?_)
      exact b_X10_cut_b39c l D k a A C0 R (P_X10_keep σ) v1 hs hR H locs ls hW (lv_sub hl [0, 1] rfl)
    · have hs := hs.2 c_3
      rw [if_neg c_3] at hR
      refine lv_bipush (v := (-5 : Int32)) hx hb dX10_cut_32 (by decide) ?_
      exact q_iret C0 hW hR dX10_cut_34
  · have hs := hs.1 c_2
    rw [if_pos c_2] at hR
    refine lv_bipush (v := (-2 : Int32)) hx hb dX10_cut_10 (by decide) ?_
    exact q_iret C0 hW hR dX10_cut_12
set_option maxHeartbeats 400000 in
set_option maxRecDepth 100000 in
theorem m_X10_cut (l : Launch) (D : va_G) (k : Nat → ClassId) (a : Nat → Nat) (sz : Nat) (σ : T2) (p0 : Int32) (hs : S_X10_cut σ p0) : Met l yX10_cut wsX10_cut { frames := 1, cells := 0, slots := 0, locals := 22 } (va_Pc [.ref (a 0), .int p0] (q_B D (tyL k) (wX10 k a σ) sz)) (va_Qi (fun r u => (r, u) = P_X10_cut σ p0) (fun u => q_E D (tyL k) (va_A (wX10 k a σ) sz) (wX10 k a u)) (va_A (wX10 k a σ) sz)) 0 0 (va_A (wX10 k a σ) sz) := by
  refine q_met [.ref (a 0), .int p0] (wX10 k a σ) sz (cc := cX10_cut) (maxL := 2) (ret := (some .int)) (by decide) rfl (Nat.le_of_ble_eq_true rfl) ?_
  intro p e s m args below meth c ls hsz C0 hW hl hin
  subst hsz
  exact b_X10_cut_b0 l D k a _ C0 _ σ p0 hs rfl s.heap [] ls hW (lv_sub hl [0, 1] rfl)
theorem hin_X10_pass_X10 : ∀ w ∈ u_ws RX10 TX10 18, w ∈ wsX10_pass := by decide +kernel
theorem hd_X10_pass : yX10_pass.cls = RX10 ∧ yX10_pass.cls ≠ "java/lang/invoke/MethodHandle" ∧ yX10_pass.cls ≠ "java/lang/invoke/VarHandle" ∧ (parseMethodDescriptor yX10_pass.desc).map (fun d => d.parameters.length) = some 1 := by decide +kernel
noncomputable def P_X10_pass_b59c (σ : T2) : Int32 × T2 := (σ 1 8, σ)
def S_X10_pass_b59c (σ : T2) : Prop := True
theorem P_X10_pass_b59c_e (σ : T2) : P_X10_pass_b59c σ = (σ 1 8, σ) := rfl
theorem S_X10_pass_b59c_e (σ : T2) : S_X10_pass_b59c σ = (True) := rfl
noncomputable def P_X10_pass_b35c (σ : T2) (v1 : Int32) : Int32 × T2 := P_X10_pass_b59c (P_X10_happenUpTo (u2 σ 1 (upd (σ 1) 8 ((σ 1 8) + v1))) ((4 : Int32) * ((σ 1 8) + v1)))
def S_X10_pass_b35c (σ : T2) (v1 : Int32) : Prop := (S_X10_happenUpTo (u2 σ 1 (upd (σ 1) 8 ((σ 1 8) + v1))) ((4 : Int32) * ((σ 1 8) + v1))) ∧ (S_X10_pass_b59c (P_X10_happenUpTo (u2 σ 1 (upd (σ 1) 8 ((σ 1 8) + v1))) ((4 : Int32) * ((σ 1 8) + v1))))
theorem P_X10_pass_b35c_e (σ : T2) (v1 : Int32) : P_X10_pass_b35c σ v1 = P_X10_pass_b59c (P_X10_happenUpTo (u2 σ 1 (upd (σ 1) 8 ((σ 1 8) + v1))) ((4 : Int32) * ((σ 1 8) + v1))) := rfl
theorem S_X10_pass_b35c_e (σ : T2) (v1 : Int32) : S_X10_pass_b35c σ v1 = ((S_X10_happenUpTo (u2 σ 1 (upd (σ 1) 8 ((σ 1 8) + v1))) ((4 : Int32) * ((σ 1 8) + v1))) ∧ (S_X10_pass_b59c (P_X10_happenUpTo (u2 σ 1 (upd (σ 1) 8 ((σ 1 8) + v1))) ((4 : Int32) * ((σ 1 8) + v1))))) := rfl
noncomputable def P_X10_pass_b0 (σ : T2) (v1 : Int32) : Int32 × T2 := if (P_X10_in v1 (1 : Int32) (10000 : Int32)) = 0 then (((-2 : Int32), σ)) else (if ((σ 1 8) + v1) ≤ (120000 : Int32) then (P_X10_pass_b35c (P_X10_keep σ) v1) else (((-4 : Int32), σ)))
def S_X10_pass_b0 (σ : T2) (v1 : Int32) : Prop := (S_X10_in v1 (1 : Int32) (10000 : Int32)) ∧ (((P_X10_in v1 (1 : Int32) (10000 : Int32)) = 0 → (True)) ∧ (¬ ((P_X10_in v1 (1 : Int32) (10000 : Int32)) = 0) → ((((σ 1 8) + v1) ≤ (120000 : Int32) → ((S_X10_keep σ ) ∧ (S_X10_pass_b35c (P_X10_keep σ) v1))) ∧ (¬ (((σ 1 8) + v1) ≤ (120000 : Int32)) → (True)))))
theorem P_X10_pass_b0_e (σ : T2) (v1 : Int32) : P_X10_pass_b0 σ v1 = if (P_X10_in v1 (1 : Int32) (10000 : Int32)) = 0 then (((-2 : Int32), σ)) else (if ((σ 1 8) + v1) ≤ (120000 : Int32) then (P_X10_pass_b35c (P_X10_keep σ) v1) else (((-4 : Int32), σ))) := rfl
theorem S_X10_pass_b0_e (σ : T2) (v1 : Int32) : S_X10_pass_b0 σ v1 = ((S_X10_in v1 (1 : Int32) (10000 : Int32)) ∧ (((P_X10_in v1 (1 : Int32) (10000 : Int32)) = 0 → (True)) ∧ (¬ ((P_X10_in v1 (1 : Int32) (10000 : Int32)) = 0) → ((((σ 1 8) + v1) ≤ (120000 : Int32) → ((S_X10_keep σ ) ∧ (S_X10_pass_b35c (P_X10_keep σ) v1))) ∧ (¬ (((σ 1 8) + v1) ≤ (120000 : Int32)) → (True)))))) := rfl
noncomputable def P_X10_pass (σ : T2) (p0 : Int32) : Int32 × T2 := P_X10_pass_b0 σ p0
def S_X10_pass (σ : T2) (p0 : Int32) : Prop := S_X10_pass_b0 σ p0
set_option maxHeartbeats 400000 in
set_option maxRecDepth 100000 in
theorem b_X10_pass_b59c {p : Program} {e : Env} {s : State} {m : MethodId} {args : Array Value} {below : List Frame} {meth : Method} {c : Code} (l : Launch) (D : va_G) (k : Nat → ClassId) (a : Nat → Nat) (A : Nat → Prop) (C0 : q_C p s m meth c args RX10 cX10_pass 2 (some .int) wsX10_pass D (tyL k) A) (R : Int32 × T2) : ∀ (σ : T2), S_X10_pass_b59c σ → P_X10_pass_b59c σ = R → ∀ (H : Heap) (locs : List Loc) (ls : Array Slot), q_W D A s.heap (wX10 k a σ) H locs → lv_has ls 2 [(0, .ref (a 0))] → W p l e { frames := 5, cells := 0, slots := 0, locals := 118 } s m args below meth c H locs 0 0 (MQ below (va_Qi (fun r u => (r, u) = R) (fun u => q_E D (tyL k) A (wX10 k a u)) A) args s 0 0 A) (F0 m 59 ls []) := by
  intro σ hs hR H locs ls hW hl
  rw [P_X10_pass_b59c_e] at hR
  rw [S_X10_pass_b59c_e] at hs
  obtain ⟨hx, hb, hr, hml, hts, hown, hlocks, hK, hA⟩ := id C0
  have hf7 := hts (.fieldLink RX10 7 "BeatFollowerModel" "at" "[I") (by decide +kernel)
  have hinX10 : ∀ w ∈ u_ws RX10 TX10 18, w ∈ wsX10_pass := hin_X10_pass_X10
  refine lv_aload_n hx hb dX10_pass_59 rfl (lv_at hl 0 rfl) ?_
  refine va_get (v := .ref (a 1)) (C := RX10) (T := TX10) (N := 18) hx hb hts hinX10 hown hK hW.1 0 rfl rfl 0 (by decide) hf7 (fun _ h9 => h9) rfl dX10_pass_60 ?_
  refine lv_bipush (v := (8 : Int32)) hx hb dX10_pass_63 (by decide) ?_
  refine q_iald (v := σ 1 8) C0 hW 1 rfl rfl vi_8_672 cl_8 rfl dX10_pass_65 ?_
  exact q_iret C0 hW hR dX10_pass_66
set_option maxHeartbeats 400000 in
set_option maxRecDepth 100000 in
theorem b_X10_pass_b35c {p : Program} {e : Env} {s : State} {m : MethodId} {args : Array Value} {below : List Frame} {meth : Method} {c : Code} (l : Launch) (D : va_G) (k : Nat → ClassId) (a : Nat → Nat) (A : Nat → Prop) (C0 : q_C p s m meth c args RX10 cX10_pass 2 (some .int) wsX10_pass D (tyL k) A) (R : Int32 × T2) : ∀ (σ : T2) (v1 : Int32), S_X10_pass_b35c σ v1 → P_X10_pass_b35c σ v1 = R → ∀ (H : Heap) (locs : List Loc) (ls : Array Slot), q_W D A s.heap (wX10 k a σ) H locs → lv_has ls 2 [(0, .ref (a 0)), (1, .int v1)] → W p l e { frames := 5, cells := 0, slots := 0, locals := 118 } s m args below meth c H locs 0 0 (MQ below (va_Qi (fun r u => (r, u) = R) (fun u => q_E D (tyL k) A (wX10 k a u)) A) args s 0 0 A) (F0 m 35 ls []) := by
  intro σ v1 hs hR H locs ls hW hl
  rw [P_X10_pass_b35c_e] at hR
  rw [S_X10_pass_b35c_e] at hs
  obtain ⟨hx, hb, hr, hml, hts, hown, hlocks, hK, hA⟩ := id C0
  have hf7 := hts (.fieldLink RX10 7 "BeatFollowerModel" "at" "[I") (by decide +kernel)
  have hinX10 : ∀ w ∈ u_ws RX10 TX10 18, w ∈ wsX10_pass := hin_X10_pass_X10
  refine lv_aload_n hx hb dX10_pass_35 rfl (lv_at hl 0 rfl) ?_
  refine va_get (v := .ref (a 1)) (C := RX10) (T := TX10) (N := 18) hx hb hts hinX10 hown hK hW.1 0 rfl rfl 0 (by decide) hf7 (fun _ h9 => h9) rfl dX10_pass_36 ?_
  refine lv_bipush (v := (8 : Int32)) hx hb dX10_pass_39 (by decide) ?_
  refine lv_dup2_11 hx hb dX10_pass_41 rfl rfl ?_
  refine q_iald (v := σ 1 8) C0 hW 1 rfl rfl vi_8_672 cl_8 rfl dX10_pass_42 ?_
  refine lv_iload_n hx hb dX10_pass_43 rfl (lv_at hl 1 rfl) ?_
  refine lv_iadd hx hb dX10_pass_44 ?_
  refine q_iast (f := σ 1) (wd' := wX10 k a (u2 σ 1 (upd (σ 1) 8 ((σ 1 8) + v1)))) C0 hW 1 rfl rfl vi_8_672 cl_8 dX10_pass_45 (wX10_s1 k a _ _) (fun H locs hW => ?_)
  refine lv_aload_n hx hb dX10_pass_46 rfl (lv_at hl 0 rfl) ?_
  refine lv_iconst (v := (4 : Int32)) hx hb dX10_pass_47 (by decide) ?_
  refine lv_aload_n hx hb dX10_pass_48 rfl (lv_at hl 0 rfl) ?_
  refine va_get (v := .ref (a 1)) (C := RX10) (T := TX10) (N := 18) hx hb hts hinX10 hown hK hW.1 0 rfl rfl 0 (by decide) hf7 (fun _ h9 => h9) rfl dX10_pass_49 ?_
  refine lv_bipush (v := (8 : Int32)) hx hb dX10_pass_52 (by decide) ?_
  refine q_iald (v := (σ 1 8) + v1) C0 hW 1 rfl rfl vi_8_672 cl_8 rfl dX10_pass_54 ?_
  refine lv_imul hx hb dX10_pass_55 ?_
  have hs5 := hs.1
  have hs := hs.2
  refine q_Vv (As := [.int ((4 : Int32) * ((σ 1 8) + v1))]) (rest := []) (wf := wX10 k a) (R := P_X10_happenUpTo (u2 σ 1 (upd (σ 1) 8 ((σ 1 8) + v1))) ((4 : Int32) * ((σ 1 8) + v1))) (wd' := wX10 k a (P_X10_happenUpTo (u2 σ 1 (upd (σ 1) 8 ((σ 1 8) + v1))) ((4 : Int32) * ((σ 1 8) + v1)))) [0, 1, 2, 3, 4, 5, 6, 7, 8] [0, 1, 2, 3] 0 10 C0 hW (m_X10_happenUpTo l D k a H.size (u2 σ 1 (upd (σ 1) 8 ((σ 1 8) + v1))) ((4 : Int32) * ((σ 1 8) + v1)) hs5) (cwV 1 hts gX10_pass_X10_happenUpTo rfl rfl rfl hd_X10_happenUpTo ⟨Nat.le_of_ble_eq_true rfl, Nat.le_of_ble_eq_true rfl⟩) (by decide) (wX10_pl k a _) rfl (wX10_rec k a _) rfl (wX10_fst k a _ _) (wX10_put k a _ _) hl rfl rfl (Nat.le_of_ble_eq_true rfl) dX10_pass_56 ⟨Nat.le_refl 0, Nat.le_refl 0⟩ (fun H locs hW => ?_)
  exact b_X10_pass_b59c l D k a A C0 R (P_X10_happenUpTo (u2 σ 1 (upd (σ 1) 8 ((σ 1 8) + v1))) ((4 : Int32) * ((σ 1 8) + v1))) hs hR H locs ls hW (lv_sub hl [0] rfl)
set_option maxHeartbeats 400000 in
set_option maxRecDepth 100000 in
theorem b_X10_pass_b0 {p : Program} {e : Env} {s : State} {m : MethodId} {args : Array Value} {below : List Frame} {meth : Method} {c : Code} (l : Launch) (D : va_G) (k : Nat → ClassId) (a : Nat → Nat) (A : Nat → Prop) (C0 : q_C p s m meth c args RX10 cX10_pass 2 (some .int) wsX10_pass D (tyL k) A) (R : Int32 × T2) : ∀ (σ : T2) (v1 : Int32), S_X10_pass_b0 σ v1 → P_X10_pass_b0 σ v1 = R → ∀ (H : Heap) (locs : List Loc) (ls : Array Slot), q_W D A s.heap (wX10 k a σ) H locs → lv_has ls 2 [(0, .ref (a 0)), (1, .int v1)] → W p l e { frames := 5, cells := 0, slots := 0, locals := 118 } s m args below meth c H locs 0 0 (MQ below (va_Qi (fun r u => (r, u) = R) (fun u => q_E D (tyL k) A (wX10 k a u)) A) args s 0 0 A) (F0 m 0 ls []) := by
  intro σ v1 hs hR H locs ls hW hl
  rw [P_X10_pass_b0_e] at hR
  rw [S_X10_pass_b0_e] at hs
  obtain ⟨hx, hb, hr, hml, hts, hown, hlocks, hK, hA⟩ := id C0
  have hf7 := hts (.fieldLink RX10 7 "BeatFollowerModel" "at" "[I") (by decide +kernel)
  have hinX10 : ∀ w ∈ u_ws RX10 TX10 18, w ∈ wsX10_pass := hin_X10_pass_X10
  refine lv_iload_n hx hb dX10_pass_0 rfl (lv_at hl 1 rfl) ?_
  refine lv_iconst (v := (1 : Int32)) hx hb dX10_pass_1 (by decide) ?_
  refine lv_sipush (v := (10000 : Int32)) hx hb dX10_pass_2 (by decide) ?_
  have hs1 := hs.1
  have hs := hs.2
  refine q_Si (As := [.int v1, .int (1 : Int32), .int (10000 : Int32)]) (rest := []) (R := P_X10_in v1 (1 : Int32) (10000 : Int32)) ⟨hx, hb, hml, hown, hts⟩ (m_X10_in l v1 (1 : Int32) (10000 : Int32) hs1) (va_cwS 3 hts gX10_pass_X10_in rfl rfl rfl hd_X10_in ⟨Nat.le_of_ble_eq_true rfl, Nat.le_of_ble_eq_true rfl⟩) hl rfl rfl (Nat.le_of_ble_eq_true rfl) dX10_pass_5 ⟨Nat.le_refl 0, Nat.le_refl 0⟩ ?_
  refine lv_if_ne (tgt := 14) hx hb dX10_pass_8 (by decide) (fun c_2 => ?_) (fun c_2 => ?_)
  · have hs := hs.2 c_2
    rw [if_neg c_2] at hR
    refine lv_aload_n hx hb dX10_pass_14 rfl (lv_at hl 0 rfl) ?_
    refine va_get (v := .ref (a 1)) (C := RX10) (T := TX10) (N := 18) hx hb hts hinX10 hown hK hW.1 0 rfl rfl 0 (by decide) hf7 (fun _ h9 => h9) rfl dX10_pass_15 ?_
    refine lv_bipush (v := (8 : Int32)) hx hb dX10_pass_18 (by decide) ?_
    refine q_iald (v := σ 1 8) C0 hW 1 rfl rfl vi_8_672 cl_8 rfl dX10_pass_20 ?_
    refine lv_iload_n hx hb dX10_pass_21 rfl (lv_at hl 1 rfl) ?_
    refine lv_iadd hx hb dX10_pass_22 ?_
    refine lv_ldc (v := (120000 : Int32)) hx hb hown (hts (.constant RX10 121 (120000 : Int32)) (by decide +kernel)) dX10_pass_23 ?_
    refine lv_icmp_le (tgt := 31) hx hb dX10_pass_25 (by decide) (fun c_3 => ?_) (fun c_3 => ?_)
    · have hs := hs.1 c_3
      rw [if_pos c_3] at hR
      refine lv_aload_n hx hb dX10_pass_31 rfl (lv_at hl 0 rfl) ?_
      have hs4 := hs.1
      have hs := hs.2
      refine q_Vv (As := []) (rest := []) (wf := wX10 k a) (R := P_X10_keep σ) (wd' := wX10 k a (P_X10_keep σ)) [0, 1, 2, 3, 4, 5, 6, 7, 8] [0, 1, 2, 3] 0 10 C0 hW (m_X10_keep l D k a H.size σ  hs4) (cwV 0 hts gX10_pass_X10_keep rfl rfl rfl hd_X10_keep ⟨Nat.le_of_ble_eq_true rfl, Nat.le_of_ble_eq_true rfl⟩) (by decide) (wX10_pl k a _) rfl (wX10_rec k a _) rfl (wX10_fst k a _ _) (wX10_put k a _ _) hl rfl rfl (Nat.le_of_ble_eq_true rfl) dX10_pass_32 ⟨Nat.le_refl 0, Nat.le_refl 0⟩ (fun H locs hW => ?_)
      exact b_X10_pass_b35c l D k a A C0 R (P_X10_keep σ) v1 hs hR H locs ls hW (lv_sub hl [0, 1] rfl)
    · have hs := hs.2 c_3
      rw [if_neg c_3] at hR
      refine lv_bipush (v := (-4 : Int32)) hx hb dX10_pass_28 (by decide) ?_
      exact q_iret C0 hW hR dX10_pass_30
  · have hs := hs.1 c_2
    rw [if_pos c_2] at hR
    refine lv_bipush (v := (-2 : Int32)) hx hb dX10_pass_11 (by decide) ?_
    exact q_iret C0 hW hR dX10_pass_13
set_option maxHeartbeats 400000 in
set_option maxRecDepth 100000 in
theorem m_X10_pass (l : Launch) (D : va_G) (k : Nat → ClassId) (a : Nat → Nat) (sz : Nat) (σ : T2) (p0 : Int32) (hs : S_X10_pass σ p0) : Met l yX10_pass wsX10_pass { frames := 5, cells := 0, slots := 0, locals := 118 } (va_Pc [.ref (a 0), .int p0] (q_B D (tyL k) (wX10 k a σ) sz)) (va_Qi (fun r u => (r, u) = P_X10_pass σ p0) (fun u => q_E D (tyL k) (va_A (wX10 k a σ) sz) (wX10 k a u)) (va_A (wX10 k a σ) sz)) 0 0 (va_A (wX10 k a σ) sz) := by
  refine q_met [.ref (a 0), .int p0] (wX10 k a σ) sz (cc := cX10_pass) (maxL := 2) (ret := (some .int)) (by decide) rfl (Nat.le_of_ble_eq_true rfl) ?_
  intro p e s m args below meth c ls hsz C0 hW hl hin
  subst hsz
  exact b_X10_pass_b0 l D k a _ C0 _ σ p0 hs rfl s.heap [] ls hW (lv_sub hl [0, 1] rfl)
theorem hin_X10_beginAnew_X10 : ∀ w ∈ u_ws RX10 TX10 18, w ∈ wsX10_beginAnew := by decide +kernel
theorem hd_X10_beginAnew : yX10_beginAnew.cls = RX10 ∧ yX10_beginAnew.cls ≠ "java/lang/invoke/MethodHandle" ∧ yX10_beginAnew.cls ≠ "java/lang/invoke/VarHandle" ∧ (parseMethodDescriptor yX10_beginAnew.desc).map (fun d => d.parameters.length) = some 0 := by decide +kernel
noncomputable def P_X10_beginAnew_b81c (pk64 : T2 → Int32 → Int32 → T2) (σ : T2) (v1 : Int32) (v2 : Int32) : T2 := pk64 σ v1 (v2 + (1 : Int32))
def S_X10_beginAnew_b81c (sk64 : T2 → Int32 → Int32 → Prop) (σ : T2) (v1 : Int32) (v2 : Int32) : Prop := sk64 σ v1 (v2 + (1 : Int32))
theorem P_X10_beginAnew_b81c_e (pk64 : T2 → Int32 → Int32 → T2) (σ : T2) (v1 : Int32) (v2 : Int32) : P_X10_beginAnew_b81c pk64 σ v1 v2 = pk64 σ v1 (v2 + (1 : Int32)) := rfl
theorem S_X10_beginAnew_b81c_e (sk64 : T2 → Int32 → Int32 → Prop) (σ : T2) (v1 : Int32) (v2 : Int32) : S_X10_beginAnew_b81c sk64 σ v1 v2 = (sk64 σ v1 (v2 + (1 : Int32))) := rfl
noncomputable def P_X10_beginAnew_b64 (n : Nat) : T2 → Int32 → Int32 → T2 := Nat.rec (motive := fun _ => T2 → Int32 → Int32 → T2) (fun _ _ _ => (fun _ _ => 0)) (fun _ pk64 => fun σ v1 v2 => if v1 ≤ v2 then (σ) else (P_X10_beginAnew_b81c pk64 (P_X10_become σ v2 (0 : Int32) (-6 : Int32) (-6 : Int32) (-6 : Int32)) v1 v2)) n
def S_X10_beginAnew_b64 (n : Nat) : T2 → Int32 → Int32 → Prop := Nat.rec (motive := fun _ => T2 → Int32 → Int32 → Prop) (fun _ _ _ => False) (fun _ sk64 => fun σ v1 v2 => (v1 ≤ v2 → (True)) ∧ (¬ (v1 ≤ v2) → ((S_X10_become σ v2 (0 : Int32) (-6 : Int32) (-6 : Int32) (-6 : Int32)) ∧ (S_X10_beginAnew_b81c sk64 (P_X10_become σ v2 (0 : Int32) (-6 : Int32) (-6 : Int32) (-6 : Int32)) v1 v2)))) n
theorem P_X10_beginAnew_b64_e (n : Nat) (σ : T2) (v1 : Int32) (v2 : Int32) : P_X10_beginAnew_b64 (n + 1) σ v1 v2 = if v1 ≤ v2 then (σ) else (P_X10_beginAnew_b81c (P_X10_beginAnew_b64 n) (P_X10_become σ v2 (0 : Int32) (-6 : Int32) (-6 : Int32) (-6 : Int32)) v1 v2) := rfl
theorem S_X10_beginAnew_b64_e (n : Nat) (σ : T2) (v1 : Int32) (v2 : Int32) : S_X10_beginAnew_b64 (n + 1) σ v1 v2 = ((v1 ≤ v2 → (True)) ∧ (¬ (v1 ≤ v2) → ((S_X10_become σ v2 (0 : Int32) (-6 : Int32) (-6 : Int32) (-6 : Int32)) ∧ (S_X10_beginAnew_b81c (S_X10_beginAnew_b64 n) (P_X10_become σ v2 (0 : Int32) (-6 : Int32) (-6 : Int32) (-6 : Int32)) v1 v2)))) := rfl
noncomputable def P_X10_beginAnew_b11 (n : Nat) : T2 → Int32 → Int32 → T2 := Nat.rec (motive := fun _ => T2 → Int32 → Int32 → T2) (fun _ _ _ => (fun _ _ => 0)) (fun _ pk11 => fun σ v1 v2 => if (32 : Int32) ≤ v2 then (P_X10_beginAnew_b64 FU (u2 σ 1 (upd (upd (upd (σ 1) 22 v1) 10 ((4 : Int32) * (σ 1 0))) 11 (-6 : Int32))) v1 (0 : Int32)) else (pk11 (u2 σ 1 (upd (σ 1) v2.toNatClampNeg (0 : Int32))) v1 (v2 + (1 : Int32)))) n
def S_X10_beginAnew_b11 (n : Nat) : T2 → Int32 → Int32 → Prop := Nat.rec (motive := fun _ => T2 → Int32 → Int32 → Prop) (fun _ _ _ => False) (fun _ sk11 => fun σ v1 v2 => ((32 : Int32) ≤ v2 → (S_X10_beginAnew_b64 FU (u2 σ 1 (upd (upd (upd (σ 1) 22 v1) 10 ((4 : Int32) * (σ 1 0))) 11 (-6 : Int32))) v1 (0 : Int32))) ∧ (¬ ((32 : Int32) ≤ v2) → ((vp_in v2 672) ∧ (sk11 (u2 σ 1 (upd (σ 1) v2.toNatClampNeg (0 : Int32))) v1 (v2 + (1 : Int32)))))) n
theorem P_X10_beginAnew_b11_e (n : Nat) (σ : T2) (v1 : Int32) (v2 : Int32) : P_X10_beginAnew_b11 (n + 1) σ v1 v2 = if (32 : Int32) ≤ v2 then (P_X10_beginAnew_b64 FU (u2 σ 1 (upd (upd (upd (σ 1) 22 v1) 10 ((4 : Int32) * (σ 1 0))) 11 (-6 : Int32))) v1 (0 : Int32)) else ((P_X10_beginAnew_b11 n) (u2 σ 1 (upd (σ 1) v2.toNatClampNeg (0 : Int32))) v1 (v2 + (1 : Int32))) := rfl
theorem S_X10_beginAnew_b11_e (n : Nat) (σ : T2) (v1 : Int32) (v2 : Int32) : S_X10_beginAnew_b11 (n + 1) σ v1 v2 = (((32 : Int32) ≤ v2 → (S_X10_beginAnew_b64 FU (u2 σ 1 (upd (upd (upd (σ 1) 22 v1) 10 ((4 : Int32) * (σ 1 0))) 11 (-6 : Int32))) v1 (0 : Int32))) ∧ (¬ ((32 : Int32) ≤ v2) → ((vp_in v2 672) ∧ ((S_X10_beginAnew_b11 n) (u2 σ 1 (upd (σ 1) v2.toNatClampNeg (0 : Int32))) v1 (v2 + (1 : Int32)))))) := rfl
noncomputable def P_X10_beginAnew_b0 (σ : T2) : T2 := P_X10_beginAnew_b11 FU σ (σ 1 22) (8 : Int32)
def S_X10_beginAnew_b0 (σ : T2) : Prop := S_X10_beginAnew_b11 FU σ (σ 1 22) (8 : Int32)
theorem P_X10_beginAnew_b0_e (σ : T2) : P_X10_beginAnew_b0 σ = P_X10_beginAnew_b11 FU σ (σ 1 22) (8 : Int32) := rfl
theorem S_X10_beginAnew_b0_e (σ : T2) : S_X10_beginAnew_b0 σ = (S_X10_beginAnew_b11 FU σ (σ 1 22) (8 : Int32)) := rfl
noncomputable def P_X10_beginAnew (σ : T2) : T2 := P_X10_beginAnew_b0 σ
def S_X10_beginAnew (σ : T2) : Prop := S_X10_beginAnew_b0 σ
set_option maxHeartbeats 400000 in
set_option maxRecDepth 100000 in
theorem b_X10_beginAnew_b81c {p : Program} {e : Env} {s : State} {m : MethodId} {args : Array Value} {below : List Frame} {meth : Method} {c : Code} (l : Launch) (D : va_G) (k : Nat → ClassId) (a : Nat → Nat) (A : Nat → Prop) (C0 : q_C p s m meth c args RX10 cX10_beginAnew 3 none wsX10_beginAnew D (tyL k) A) (R : T2) (pk64 : T2 → Int32 → Int32 → T2) (sk64 : T2 → Int32 → Int32 → Prop) (hk64 : ∀ (σ : T2) (v1 : Int32) (v2 : Int32), sk64 σ v1 v2 → pk64 σ v1 v2 = R → ∀ (H : Heap) (locs : List Loc) (ls : Array Slot), q_W D A s.heap (wX10 k a σ) H locs → lv_has ls 3 [(0, .ref (a 0)), (1, .int v1), (2, .int v2)] → W p l e { frames := 2, cells := 0, slots := 0, locals := 48 } s m args below meth c H locs 0 0 (MQ below (va_Qv (fun u => u = R) (fun u => q_E D (tyL k) A (wX10 k a u)) A) args s 0 0 A) (F0 m 64 ls [])) : ∀ (σ : T2) (v1 : Int32) (v2 : Int32), S_X10_beginAnew_b81c sk64 σ v1 v2 → P_X10_beginAnew_b81c pk64 σ v1 v2 = R → ∀ (H : Heap) (locs : List Loc) (ls : Array Slot), q_W D A s.heap (wX10 k a σ) H locs → lv_has ls 3 [(0, .ref (a 0)), (1, .int v1), (2, .int v2)] → W p l e { frames := 2, cells := 0, slots := 0, locals := 48 } s m args below meth c H locs 0 0 (MQ below (va_Qv (fun u => u = R) (fun u => q_E D (tyL k) A (wX10 k a u)) A) args s 0 0 A) (F0 m 81 ls []) := by
  intro σ v1 v2 hs hR H locs ls hW hl
  rw [P_X10_beginAnew_b81c_e] at hR
  rw [S_X10_beginAnew_b81c_e] at hs
  obtain ⟨hx, hb, hr, hml, hts, hown, hlocks, hK, hA⟩ := id C0
  refine lv_iinc (v := v2 + (1 : Int32)) (lv' := [(2, .int (v2 + (1 : Int32))), (0, .ref (a 0)), (1, .int v1)]) hx hb dX10_beginAnew_81 hl (k := 2) rfl rfl (by decide) rfl (fun ls hl => ?_)
  refine lv_goto (tgt := 64) hx hb dX10_beginAnew_84 (by decide) ?_
  exact hk64 σ v1 (v2 + (1 : Int32)) hs hR H locs ls hW (lv_sub hl [1, 2, 0] rfl)
set_option maxHeartbeats 400000 in
set_option maxRecDepth 100000 in
theorem b_X10_beginAnew_b64 {p : Program} {e : Env} {s : State} {m : MethodId} {args : Array Value} {below : List Frame} {meth : Method} {c : Code} (l : Launch) (D : va_G) (k : Nat → ClassId) (a : Nat → Nat) (A : Nat → Prop) (C0 : q_C p s m meth c args RX10 cX10_beginAnew 3 none wsX10_beginAnew D (tyL k) A) (R : T2) : ∀ n : Nat, ∀ (σ : T2) (v1 : Int32) (v2 : Int32), S_X10_beginAnew_b64 n σ v1 v2 → P_X10_beginAnew_b64 n σ v1 v2 = R → ∀ (H : Heap) (locs : List Loc) (ls : Array Slot), q_W D A s.heap (wX10 k a σ) H locs → lv_has ls 3 [(0, .ref (a 0)), (1, .int v1), (2, .int v2)] → W p l e { frames := 2, cells := 0, slots := 0, locals := 48 } s m args below meth c H locs 0 0 (MQ below (va_Qv (fun u => u = R) (fun u => q_E D (tyL k) A (wX10 k a u)) A) args s 0 0 A) (F0 m 64 ls []) := by
  intro n
  induction n with
  | zero => intro σ v1 v2 hs; exact False.elim hs
  | succ n ih =>
    intro σ v1 v2 hs hR H locs ls hW hl
    rw [P_X10_beginAnew_b64_e] at hR
    rw [S_X10_beginAnew_b64_e] at hs
    obtain ⟨hx, hb, hr, hml, hts, hown, hlocks, hK, hA⟩ := id C0
    refine lv_iload_n hx hb dX10_beginAnew_64 rfl (lv_at hl 2 rfl) ?_
    refine lv_iload_n hx hb dX10_beginAnew_65 rfl (lv_at hl 1 rfl) ?_
    refine lv_icmp_ge (tgt := 87) hx hb dX10_beginAnew_66 (by decide) (fun c_2 => ?_) (fun c_2 => ?_)
    · have hs := hs.1 c_2
      rw [if_pos c_2] at hR
      exact q_vret C0 hW hR dX10_beginAnew_87
    · have hs := hs.2 c_2
      rw [if_neg c_2] at hR
      refine lv_aload_n hx hb dX10_beginAnew_69 rfl (lv_at hl 0 rfl) ?_
      refine lv_iload_n hx hb dX10_beginAnew_70 rfl (lv_at hl 2 rfl) ?_
      refine lv_iconst (v := (0 : Int32)) hx hb dX10_beginAnew_71 (by decide) ?_
      refine lv_bipush (v := (-6 : Int32)) hx hb dX10_beginAnew_72 (by decide) ?_
      refine lv_bipush (v := (-6 : Int32)) hx hb dX10_beginAnew_74 (by decide) ?_
      refine lv_bipush (v := (-6 : Int32)) hx hb dX10_beginAnew_76 (by decide) ?_
      have hs3 := hs.1
      have hs := hs.2
      refine q_Vv (As := [.int v2, .int (0 : Int32), .int (-6 : Int32), .int (-6 : Int32), .int (-6 : Int32)]) (rest := []) (wf := wX10 k a) (R := P_X10_become σ v2 (0 : Int32) (-6 : Int32) (-6 : Int32) (-6 : Int32)) (wd' := wX10 k a (P_X10_become σ v2 (0 : Int32) (-6 : Int32) (-6 : Int32) (-6 : Int32))) [0, 1, 2, 3, 4, 5, 6, 7, 8] [0, 1, 2, 3] 0 10 C0 hW (m_X10_become l D k a H.size σ v2 (0 : Int32) (-6 : Int32) (-6 : Int32) (-6 : Int32) hs3) (cwV 5 hts gX10_beginAnew_X10_become rfl rfl rfl hd_X10_become ⟨Nat.le_of_ble_eq_true rfl, Nat.le_of_ble_eq_true rfl⟩) (by decide) (wX10_pl k a _) rfl (wX10_rec k a _) rfl (wX10_fst k a _ _) (wX10_put k a _ _) hl rfl rfl (Nat.le_of_ble_eq_true rfl) dX10_beginAnew_78 ⟨Nat.le_refl 0, Nat.le_refl 0⟩ (fun H locs hW => ?_)
      exact b_X10_beginAnew_b81c l D k a A C0 R _ _ ih (P_X10_become σ v2 (0 : Int32) (-6 : Int32) (-6 : Int32) (-6 : Int32)) v1 v2 hs hR H locs ls hW (lv_sub hl [0, 1, 2] rfl)
set_option maxHeartbeats 400000 in
set_option maxRecDepth 100000 in
theorem b_X10_beginAnew_b11 {p : Program} {e : Env} {s : State} {m : MethodId} {args : Array Value} {below : List Frame} {meth : Method} {c : Code} (l : Launch) (D : va_G) (k : Nat → ClassId) (a : Nat → Nat) (A : Nat → Prop) (C0 : q_C p s m meth c args RX10 cX10_beginAnew 3 none wsX10_beginAnew D (tyL k) A) (R : T2) : ∀ n : Nat, ∀ (σ : T2) (v1 : Int32) (v2 : Int32), S_X10_beginAnew_b11 n σ v1 v2 → P_X10_beginAnew_b11 n σ v1 v2 = R → ∀ (H : Heap) (locs : List Loc) (ls : Array Slot), q_W D A s.heap (wX10 k a σ) H locs → lv_has ls 3 [(0, .ref (a 0)), (1, .int v1), (2, .int v2)] → W p l e { frames := 2, cells := 0, slots := 0, locals := 48 } s m args below meth c H locs 0 0 (MQ below (va_Qv (fun u => u = R) (fun u => q_E D (tyL k) A (wX10 k a u)) A) args s 0 0 A) (F0 m 11 ls []) := by
  intro n
  induction n with
  | zero => intro σ v1 v2 hs; exact False.elim hs
  | succ n ih =>
    intro σ v1 v2 hs hR H locs ls hW hl
    rw [P_X10_beginAnew_b11_e] at hR
    rw [S_X10_beginAnew_b11_e] at hs
    obtain ⟨hx, hb, hr, hml, hts, hown, hlocks, hK, hA⟩ := id C0
    have hf7 := hts (.fieldLink RX10 7 "BeatFollowerModel" "at" "[I") (by decide +kernel)
    have hinX10 : ∀ w ∈ u_ws RX10 TX10 18, w ∈ wsX10_beginAnew := hin_X10_beginAnew_X10
    refine lv_iload_n hx hb dX10_beginAnew_11 rfl (lv_at hl 2 rfl) ?_
    refine lv_bipush (v := (32 : Int32)) hx hb dX10_beginAnew_12 (by decide) ?_
    refine lv_icmp_ge (tgt := 30) hx hb dX10_beginAnew_14 (by decide) (fun c_1 => ?_) (fun c_1 => ?_)
    · have hs := hs.1 c_1
      rw [if_pos c_1] at hR
      refine lv_aload_n hx hb dX10_beginAnew_30 rfl (lv_at hl 0 rfl) ?_
      refine va_get (v := .ref (a 1)) (C := RX10) (T := TX10) (N := 18) hx hb hts hinX10 hown hK hW.1 0 rfl rfl 0 (by decide) hf7 (fun _ h9 => h9) rfl dX10_beginAnew_31 ?_
      refine lv_bipush (v := (22 : Int32)) hx hb dX10_beginAnew_34 (by decide) ?_
      refine lv_iload_n hx hb dX10_beginAnew_36 rfl (lv_at hl 1 rfl) ?_
      refine q_iast (f := σ 1) (wd' := wX10 k a (u2 σ 1 (upd (σ 1) 22 v1))) C0 hW 1 rfl rfl vi_22_672 cl_22 dX10_beginAnew_37 (wX10_s1 k a _ _) (fun H locs hW => ?_)
      refine lv_aload_n hx hb dX10_beginAnew_38 rfl (lv_at hl 0 rfl) ?_
      refine va_get (v := .ref (a 1)) (C := RX10) (T := TX10) (N := 18) hx hb hts hinX10 hown hK hW.1 0 rfl rfl 0 (by decide) hf7 (fun _ h9 => h9) rfl dX10_beginAnew_39 ?_
      refine lv_bipush (v := (10 : Int32)) hx hb dX10_beginAnew_42 (by decide) ?_
      refine lv_iconst (v := (4 : Int32)) hx hb dX10_beginAnew_44 (by decide) ?_
      refine lv_aload_n hx hb dX10_beginAnew_45 rfl (lv_at hl 0 rfl) ?_
      refine va_get (v := .ref (a 1)) (C := RX10) (T := TX10) (N := 18) hx hb hts hinX10 hown hK hW.1 0 rfl rfl 0 (by decide) hf7 (fun _ h9 => h9) rfl dX10_beginAnew_46 ?_
      refine lv_iconst (v := (0 : Int32)) hx hb dX10_beginAnew_49 (by decide) ?_
      refine q_iald (v := σ 1 0) C0 hW 1 rfl rfl vi_0_672 cl_0 rfl dX10_beginAnew_50 ?_
      refine lv_imul hx hb dX10_beginAnew_51 ?_
      refine q_iast (f := upd (σ 1) 22 v1) (wd' := wX10 k a (u2 σ 1 (upd (upd (σ 1) 22 v1) 10 ((4 : Int32) * (σ 1 0))))) C0 hW 1 rfl rfl vi_10_672 cl_10 dX10_beginAnew_52 ((wX10_s1 k a _ _).trans (congrArg (wX10 k a) (u2_same _ _ _ _))) (fun H locs hW => ?_)
      refine lv_aload_n hx hb dX10_beginAnew_53 rfl (lv_at hl 0 rfl) ?_
      refine va_get (v := .ref (a 1)) (C := RX10) (T := TX10) (N := 18) hx hb hts hinX10 hown hK hW.1 0 rfl rfl 0 (by decide) hf7 (fun _ h9 => h9) rfl dX10_beginAnew_54 ?_
      refine lv_bipush (v := (11 : Int32)) hx hb dX10_beginAnew_57 (by decide) ?_
      refine lv_bipush (v := (-6 : Int32)) hx hb dX10_beginAnew_59 (by decide) ?_
      refine q_iast (f := upd (upd (σ 1) 22 v1) 10 ((4 : Int32) * (σ 1 0))) (wd' := wX10 k a (u2 σ 1 (upd (upd (upd (σ 1) 22 v1) 10 ((4 : Int32) * (σ 1 0))) 11 (-6 : Int32)))) C0 hW 1 rfl rfl vi_11_672 cl_11 dX10_beginAnew_61 ((wX10_s1 k a _ _).trans (congrArg (wX10 k a) (u2_same _ _ _ _))) (fun H locs hW => ?_)
      refine lv_iconst (v := (0 : Int32)) hx hb dX10_beginAnew_62 (by decide) ?_
      refine lv_istore_n (lv' := [(2, .int (0 : Int32)), (0, .ref (a 0)), (1, .int v1)]) hx hb dX10_beginAnew_63 rfl hl (by decide) rfl (fun ls hl => ?_)
      exact b_X10_beginAnew_b64 l D k a A C0 R FU (u2 σ 1 (upd (upd (upd (σ 1) 22 v1) 10 ((4 : Int32) * (σ 1 0))) 11 (-6 : Int32))) v1 (0 : Int32) hs hR H locs ls hW (lv_sub hl [1, 2, 0] rfl)
    · have hs := hs.2 c_1
      rw [if_neg c_1] at hR
      refine lv_aload_n hx hb dX10_beginAnew_17 rfl (lv_at hl 0 rfl) ?_
      refine va_get (v := .ref (a 1)) (C := RX10) (T := TX10) (N := 18) hx hb hts hinX10 hown hK hW.1 0 rfl rfl 0 (by decide) hf7 (fun _ h9 => h9) rfl dX10_beginAnew_18 ?_
      refine lv_iload_n hx hb dX10_beginAnew_21 rfl (lv_at hl 2 rfl) ?_
      refine lv_iconst (v := (0 : Int32)) hx hb dX10_beginAnew_22 (by decide) ?_
      have hi4 := hs.1
      have hs := hs.2
      refine q_iast (f := σ 1) (wd' := wX10 k a (u2 σ 1 (upd (σ 1) v2.toNatClampNeg (0 : Int32)))) C0 hW 1 rfl rfl hi4 rfl dX10_beginAnew_23 (wX10_s1 k a _ _) (fun H locs hW => ?_)
      refine lv_iinc (v := v2 + (1 : Int32)) (lv' := [(2, .int (v2 + (1 : Int32))), (0, .ref (a 0)), (1, .int v1)]) hx hb dX10_beginAnew_24 hl (k := 2) rfl rfl (by decide) rfl (fun ls hl => ?_)
      refine lv_goto (tgt := 11) hx hb dX10_beginAnew_27 (by decide) ?_
      exact ih (u2 σ 1 (upd (σ 1) v2.toNatClampNeg (0 : Int32))) v1 (v2 + (1 : Int32)) hs hR H locs ls hW (lv_sub hl [1, 2, 0] rfl)
set_option maxHeartbeats 400000 in
set_option maxRecDepth 100000 in
theorem b_X10_beginAnew_b0 {p : Program} {e : Env} {s : State} {m : MethodId} {args : Array Value} {below : List Frame} {meth : Method} {c : Code} (l : Launch) (D : va_G) (k : Nat → ClassId) (a : Nat → Nat) (A : Nat → Prop) (C0 : q_C p s m meth c args RX10 cX10_beginAnew 3 none wsX10_beginAnew D (tyL k) A) (R : T2) : ∀ (σ : T2), S_X10_beginAnew_b0 σ → P_X10_beginAnew_b0 σ = R → ∀ (H : Heap) (locs : List Loc) (ls : Array Slot), q_W D A s.heap (wX10 k a σ) H locs → lv_has ls 3 [(0, .ref (a 0))] → W p l e { frames := 2, cells := 0, slots := 0, locals := 48 } s m args below meth c H locs 0 0 (MQ below (va_Qv (fun u => u = R) (fun u => q_E D (tyL k) A (wX10 k a u)) A) args s 0 0 A) (F0 m 0 ls []) := by
  intro σ hs hR H locs ls hW hl
  rw [P_X10_beginAnew_b0_e] at hR
  rw [S_X10_beginAnew_b0_e] at hs
  obtain ⟨hx, hb, hr, hml, hts, hown, hlocks, hK, hA⟩ := id C0
  have hf7 := hts (.fieldLink RX10 7 "BeatFollowerModel" "at" "[I") (by decide +kernel)
  have hinX10 : ∀ w ∈ u_ws RX10 TX10 18, w ∈ wsX10_beginAnew := hin_X10_beginAnew_X10
  refine lv_aload_n hx hb dX10_beginAnew_0 rfl (lv_at hl 0 rfl) ?_
  refine va_get (v := .ref (a 1)) (C := RX10) (T := TX10) (N := 18) hx hb hts hinX10 hown hK hW.1 0 rfl rfl 0 (by decide) hf7 (fun _ h9 => h9) rfl dX10_beginAnew_1 ?_
  refine lv_bipush (v := (22 : Int32)) hx hb dX10_beginAnew_4 (by decide) ?_
  refine q_iald (v := σ 1 22) C0 hW 1 rfl rfl vi_22_672 cl_22 rfl dX10_beginAnew_6 ?_
  refine lv_istore_n (lv' := [(1, .int (σ 1 22)), (0, .ref (a 0))]) hx hb dX10_beginAnew_7 rfl hl (by decide) rfl (fun ls hl => ?_)
  refine lv_bipush (v := (8 : Int32)) hx hb dX10_beginAnew_8 (by decide) ?_
  refine lv_istore_n (lv' := [(2, .int (8 : Int32)), (1, .int (σ 1 22)), (0, .ref (a 0))]) hx hb dX10_beginAnew_10 rfl hl (by decide) rfl (fun ls hl => ?_)
  exact b_X10_beginAnew_b11 l D k a A C0 R FU σ (σ 1 22) (8 : Int32) hs hR H locs ls hW (lv_sub hl [2, 1, 0] rfl)
set_option maxHeartbeats 400000 in
set_option maxRecDepth 100000 in
theorem m_X10_beginAnew (l : Launch) (D : va_G) (k : Nat → ClassId) (a : Nat → Nat) (sz : Nat) (σ : T2) (hs : S_X10_beginAnew σ) : Met l yX10_beginAnew wsX10_beginAnew { frames := 2, cells := 0, slots := 0, locals := 48 } (va_Pc [.ref (a 0)] (q_B D (tyL k) (wX10 k a σ) sz)) (va_Qv (fun u => u = P_X10_beginAnew σ) (fun u => q_E D (tyL k) (va_A (wX10 k a σ) sz) (wX10 k a u)) (va_A (wX10 k a σ) sz)) 0 0 (va_A (wX10 k a σ) sz) := by
  refine q_met [.ref (a 0)] (wX10 k a σ) sz (cc := cX10_beginAnew) (maxL := 3) (ret := none) (by decide) rfl (Nat.le_of_ble_eq_true rfl) ?_
  intro p e s m args below meth c ls hsz C0 hW hl hin
  subst hsz
  exact b_X10_beginAnew_b0 l D k a _ C0 _ σ  hs rfl s.heap [] ls hW (lv_sub hl [0] rfl)
theorem hin_X10_anew_X10 : ∀ w ∈ u_ws RX10 TX10 18, w ∈ wsX10_anew := by decide +kernel
theorem hd_X10_anew : yX10_anew.cls = RX10 ∧ yX10_anew.cls ≠ "java/lang/invoke/MethodHandle" ∧ yX10_anew.cls ≠ "java/lang/invoke/VarHandle" ∧ (parseMethodDescriptor yX10_anew.desc).map (fun d => d.parameters.length) = some 0 := by decide +kernel
noncomputable def P_X10_anew_b8c (σ : T2) : Int32 × T2 := (σ 1 22, σ)
def S_X10_anew_b8c (σ : T2) : Prop := True
theorem P_X10_anew_b8c_e (σ : T2) : P_X10_anew_b8c σ = (σ 1 22, σ) := rfl
theorem S_X10_anew_b8c_e (σ : T2) : S_X10_anew_b8c σ = (True) := rfl
noncomputable def P_X10_anew_b4c (σ : T2) : Int32 × T2 := P_X10_anew_b8c (P_X10_beginAnew σ)
def S_X10_anew_b4c (σ : T2) : Prop := (S_X10_beginAnew σ ) ∧ (S_X10_anew_b8c (P_X10_beginAnew σ))
theorem P_X10_anew_b4c_e (σ : T2) : P_X10_anew_b4c σ = P_X10_anew_b8c (P_X10_beginAnew σ) := rfl
theorem S_X10_anew_b4c_e (σ : T2) : S_X10_anew_b4c σ = ((S_X10_beginAnew σ ) ∧ (S_X10_anew_b8c (P_X10_beginAnew σ))) := rfl
noncomputable def P_X10_anew_b0 (σ : T2) : Int32 × T2 := P_X10_anew_b4c (P_X10_keep σ)
def S_X10_anew_b0 (σ : T2) : Prop := (S_X10_keep σ ) ∧ (S_X10_anew_b4c (P_X10_keep σ))
theorem P_X10_anew_b0_e (σ : T2) : P_X10_anew_b0 σ = P_X10_anew_b4c (P_X10_keep σ) := rfl
theorem S_X10_anew_b0_e (σ : T2) : S_X10_anew_b0 σ = ((S_X10_keep σ ) ∧ (S_X10_anew_b4c (P_X10_keep σ))) := rfl
noncomputable def P_X10_anew (σ : T2) : Int32 × T2 := P_X10_anew_b0 σ
def S_X10_anew (σ : T2) : Prop := S_X10_anew_b0 σ
set_option maxHeartbeats 400000 in
set_option maxRecDepth 100000 in
theorem b_X10_anew_b8c {p : Program} {e : Env} {s : State} {m : MethodId} {args : Array Value} {below : List Frame} {meth : Method} {c : Code} (l : Launch) (D : va_G) (k : Nat → ClassId) (a : Nat → Nat) (A : Nat → Prop) (C0 : q_C p s m meth c args RX10 cX10_anew 1 (some .int) wsX10_anew D (tyL k) A) (R : Int32 × T2) : ∀ (σ : T2), S_X10_anew_b8c σ → P_X10_anew_b8c σ = R → ∀ (H : Heap) (locs : List Loc) (ls : Array Slot), q_W D A s.heap (wX10 k a σ) H locs → lv_has ls 1 [(0, .ref (a 0))] → W p l e { frames := 3, cells := 0, slots := 0, locals := 70 } s m args below meth c H locs 0 0 (MQ below (va_Qi (fun r u => (r, u) = R) (fun u => q_E D (tyL k) A (wX10 k a u)) A) args s 0 0 A) (F0 m 8 ls []) := by
  intro σ hs hR H locs ls hW hl
  rw [P_X10_anew_b8c_e] at hR
  rw [S_X10_anew_b8c_e] at hs
  obtain ⟨hx, hb, hr, hml, hts, hown, hlocks, hK, hA⟩ := id C0
  have hf7 := hts (.fieldLink RX10 7 "BeatFollowerModel" "at" "[I") (by decide +kernel)
  have hinX10 : ∀ w ∈ u_ws RX10 TX10 18, w ∈ wsX10_anew := hin_X10_anew_X10
  refine lv_aload_n hx hb dX10_anew_8 rfl (lv_at hl 0 rfl) ?_
  refine va_get (v := .ref (a 1)) (C := RX10) (T := TX10) (N := 18) hx hb hts hinX10 hown hK hW.1 0 rfl rfl 0 (by decide) hf7 (fun _ h9 => h9) rfl dX10_anew_9 ?_
  refine lv_bipush (v := (22 : Int32)) hx hb dX10_anew_12 (by decide) ?_
  refine q_iald (v := σ 1 22) C0 hW 1 rfl rfl vi_22_672 cl_22 rfl dX10_anew_14 ?_
  exact q_iret C0 hW hR dX10_anew_15
set_option maxHeartbeats 400000 in
set_option maxRecDepth 100000 in
theorem b_X10_anew_b4c {p : Program} {e : Env} {s : State} {m : MethodId} {args : Array Value} {below : List Frame} {meth : Method} {c : Code} (l : Launch) (D : va_G) (k : Nat → ClassId) (a : Nat → Nat) (A : Nat → Prop) (C0 : q_C p s m meth c args RX10 cX10_anew 1 (some .int) wsX10_anew D (tyL k) A) (R : Int32 × T2) : ∀ (σ : T2), S_X10_anew_b4c σ → P_X10_anew_b4c σ = R → ∀ (H : Heap) (locs : List Loc) (ls : Array Slot), q_W D A s.heap (wX10 k a σ) H locs → lv_has ls 1 [(0, .ref (a 0))] → W p l e { frames := 3, cells := 0, slots := 0, locals := 70 } s m args below meth c H locs 0 0 (MQ below (va_Qi (fun r u => (r, u) = R) (fun u => q_E D (tyL k) A (wX10 k a u)) A) args s 0 0 A) (F0 m 4 ls []) := by
  intro σ hs hR H locs ls hW hl
  rw [P_X10_anew_b4c_e] at hR
  rw [S_X10_anew_b4c_e] at hs
  obtain ⟨hx, hb, hr, hml, hts, hown, hlocks, hK, hA⟩ := id C0
  refine lv_aload_n hx hb dX10_anew_4 rfl (lv_at hl 0 rfl) ?_
  have hs2 := hs.1
  have hs := hs.2
  refine q_Vv (As := []) (rest := []) (wf := wX10 k a) (R := P_X10_beginAnew σ) (wd' := wX10 k a (P_X10_beginAnew σ)) [0, 1, 2, 3, 4, 5, 6, 7, 8] [0, 1, 2, 3] 0 10 C0 hW (m_X10_beginAnew l D k a H.size σ  hs2) (cwV 0 hts gX10_anew_X10_beginAnew rfl rfl rfl hd_X10_beginAnew ⟨Nat.le_of_ble_eq_true rfl, Nat.le_of_ble_eq_true rfl⟩) (by decide) (wX10_pl k a _) rfl (wX10_rec k a _) rfl (wX10_fst k a _ _) (wX10_put k a _ _) hl rfl rfl (Nat.le_of_ble_eq_true rfl) dX10_anew_5 ⟨Nat.le_refl 0, Nat.le_refl 0⟩ (fun H locs hW => ?_)
  exact b_X10_anew_b8c l D k a A C0 R (P_X10_beginAnew σ) hs hR H locs ls hW (lv_sub hl [0] rfl)
set_option maxHeartbeats 400000 in
set_option maxRecDepth 100000 in
theorem b_X10_anew_b0 {p : Program} {e : Env} {s : State} {m : MethodId} {args : Array Value} {below : List Frame} {meth : Method} {c : Code} (l : Launch) (D : va_G) (k : Nat → ClassId) (a : Nat → Nat) (A : Nat → Prop) (C0 : q_C p s m meth c args RX10 cX10_anew 1 (some .int) wsX10_anew D (tyL k) A) (R : Int32 × T2) : ∀ (σ : T2), S_X10_anew_b0 σ → P_X10_anew_b0 σ = R → ∀ (H : Heap) (locs : List Loc) (ls : Array Slot), q_W D A s.heap (wX10 k a σ) H locs → lv_has ls 1 [(0, .ref (a 0))] → W p l e { frames := 3, cells := 0, slots := 0, locals := 70 } s m args below meth c H locs 0 0 (MQ below (va_Qi (fun r u => (r, u) = R) (fun u => q_E D (tyL k) A (wX10 k a u)) A) args s 0 0 A) (F0 m 0 ls []) := by
  intro σ hs hR H locs ls hW hl
  rw [P_X10_anew_b0_e] at hR
  rw [S_X10_anew_b0_e] at hs
  obtain ⟨hx, hb, hr, hml, hts, hown, hlocks, hK, hA⟩ := id C0
  refine lv_aload_n hx hb dX10_anew_0 rfl (lv_at hl 0 rfl) ?_
  have hs1 := hs.1
  have hs := hs.2
  refine q_Vv (As := []) (rest := []) (wf := wX10 k a) (R := P_X10_keep σ) (wd' := wX10 k a (P_X10_keep σ)) [0, 1, 2, 3, 4, 5, 6, 7, 8] [0, 1, 2, 3] 0 10 C0 hW (m_X10_keep l D k a H.size σ  hs1) (cwV 0 hts gX10_anew_X10_keep rfl rfl rfl hd_X10_keep ⟨Nat.le_of_ble_eq_true rfl, Nat.le_of_ble_eq_true rfl⟩) (by decide) (wX10_pl k a _) rfl (wX10_rec k a _) rfl (wX10_fst k a _ _) (wX10_put k a _ _) hl rfl rfl (Nat.le_of_ble_eq_true rfl) dX10_anew_1 ⟨Nat.le_refl 0, Nat.le_refl 0⟩ (fun H locs hW => ?_)
  exact b_X10_anew_b4c l D k a A C0 R (P_X10_keep σ) hs hR H locs ls hW (lv_sub hl [0] rfl)
set_option maxHeartbeats 400000 in
set_option maxRecDepth 100000 in
theorem m_X10_anew (l : Launch) (D : va_G) (k : Nat → ClassId) (a : Nat → Nat) (sz : Nat) (σ : T2) (hs : S_X10_anew σ) : Met l yX10_anew wsX10_anew { frames := 3, cells := 0, slots := 0, locals := 70 } (va_Pc [.ref (a 0)] (q_B D (tyL k) (wX10 k a σ) sz)) (va_Qi (fun r u => (r, u) = P_X10_anew σ) (fun u => q_E D (tyL k) (va_A (wX10 k a σ) sz) (wX10 k a u)) (va_A (wX10 k a σ) sz)) 0 0 (va_A (wX10 k a σ) sz) := by
  refine q_met [.ref (a 0)] (wX10 k a σ) sz (cc := cX10_anew) (maxL := 1) (ret := (some .int)) (by decide) rfl (Nat.le_of_ble_eq_true rfl) ?_
  intro p e s m args below meth c ls hsz C0 hW hl hin
  subst hsz
  exact b_X10_anew_b0 l D k a _ C0 _ σ  hs rfl s.heap [] ls hW (lv_sub hl [0] rfl)
theorem hin_X10_ofBeat_X10 : ∀ w ∈ u_ws RX10 TX10 18, w ∈ wsX10_ofBeat := by decide +kernel
theorem hd_X10_ofBeat : yX10_ofBeat.cls = RX10 ∧ yX10_ofBeat.cls ≠ "java/lang/invoke/MethodHandle" ∧ yX10_ofBeat.cls ≠ "java/lang/invoke/VarHandle" ∧ (parseMethodDescriptor yX10_ofBeat.desc).map (fun d => d.parameters.length) = some 2 := by decide +kernel
noncomputable def P_X10_ofBeat_b63 (σ : T2) (v3 : Int32) : Int32 := (100000 : Int32) + v3
def S_X10_ofBeat_b63 (σ : T2) (v3 : Int32) : Prop := True
theorem P_X10_ofBeat_b63_e (σ : T2) (v3 : Int32) : P_X10_ofBeat_b63 σ v3 = (100000 : Int32) + v3 := rfl
theorem S_X10_ofBeat_b63_e (σ : T2) (v3 : Int32) : S_X10_ofBeat_b63 σ v3 = (True) := rfl
noncomputable def P_X10_ofBeat_b0 (σ : T2) (v1 : Int32) (v2 : Int32) : Int32 := if (P_X10_in v1 (0 : Int32) ((σ 1 22) - (1 : Int32))) = 0 then ((-1 : Int32)) else (if (P_X10_in v2 (0 : Int32) (5 : Int32)) = 0 then ((-2 : Int32)) else (if v2 = (4 : Int32) then (if (P_X10_ofB σ v1 (2 : Int32)) = (1 : Int32) then (P_X10_ofBeat_b63 σ (P_X10_ofB σ v1 v2)) else (if (P_X10_ofB σ v1 (2 : Int32)) = (2 : Int32) then (P_X10_ofBeat_b63 σ (P_X10_ofB σ v1 v2)) else ((-6 : Int32)))) else (if v2 = (5 : Int32) then (if (P_X10_ofB σ v1 (2 : Int32)) < (2 : Int32) then ((-6 : Int32)) else ((1000 : Int32) + (P_X10_ofB σ v1 v2))) else (P_X10_ofB σ v1 v2))))
def S_X10_ofBeat_b0 (σ : T2) (v1 : Int32) (v2 : Int32) : Prop := (S_X10_in v1 (0 : Int32) ((σ 1 22) - (1 : Int32))) ∧ (((P_X10_in v1 (0 : Int32) ((σ 1 22) - (1 : Int32))) = 0 → (True)) ∧ (¬ ((P_X10_in v1 (0 : Int32) ((σ 1 22) - (1 : Int32))) = 0) → ((S_X10_in v2 (0 : Int32) (5 : Int32)) ∧ (((P_X10_in v2 (0 : Int32) (5 : Int32)) = 0 → (True)) ∧ (¬ ((P_X10_in v2 (0 : Int32) (5 : Int32)) = 0) → ((S_X10_ofB σ v1 v2) ∧ ((S_X10_ofB σ v1 (2 : Int32)) ∧ ((v2 = (4 : Int32) → (((P_X10_ofB σ v1 (2 : Int32)) = (1 : Int32) → (S_X10_ofBeat_b63 σ (P_X10_ofB σ v1 v2))) ∧ (¬ ((P_X10_ofB σ v1 (2 : Int32)) = (1 : Int32)) → (((P_X10_ofB σ v1 (2 : Int32)) = (2 : Int32) → (S_X10_ofBeat_b63 σ (P_X10_ofB σ v1 v2))) ∧ (¬ ((P_X10_ofB σ v1 (2 : Int32)) = (2 : Int32)) → (True)))))) ∧ (¬ (v2 = (4 : Int32)) → ((v2 = (5 : Int32) → (((P_X10_ofB σ v1 (2 : Int32)) < (2 : Int32) → (True)) ∧ (¬ ((P_X10_ofB σ v1 (2 : Int32)) < (2 : Int32)) → (True)))) ∧ (¬ (v2 = (5 : Int32)) → (True))))))))))))
theorem P_X10_ofBeat_b0_e (σ : T2) (v1 : Int32) (v2 : Int32) : P_X10_ofBeat_b0 σ v1 v2 = if (P_X10_in v1 (0 : Int32) ((σ 1 22) - (1 : Int32))) = 0 then ((-1 : Int32)) else (if (P_X10_in v2 (0 : Int32) (5 : Int32)) = 0 then ((-2 : Int32)) else (if v2 = (4 : Int32) then (if (P_X10_ofB σ v1 (2 : Int32)) = (1 : Int32) then (P_X10_ofBeat_b63 σ (P_X10_ofB σ v1 v2)) else (if (P_X10_ofB σ v1 (2 : Int32)) = (2 : Int32) then (P_X10_ofBeat_b63 σ (P_X10_ofB σ v1 v2)) else ((-6 : Int32)))) else (if v2 = (5 : Int32) then (if (P_X10_ofB σ v1 (2 : Int32)) < (2 : Int32) then ((-6 : Int32)) else ((1000 : Int32) + (P_X10_ofB σ v1 v2))) else (P_X10_ofB σ v1 v2)))) := rfl
theorem S_X10_ofBeat_b0_e (σ : T2) (v1 : Int32) (v2 : Int32) : S_X10_ofBeat_b0 σ v1 v2 = ((S_X10_in v1 (0 : Int32) ((σ 1 22) - (1 : Int32))) ∧ (((P_X10_in v1 (0 : Int32) ((σ 1 22) - (1 : Int32))) = 0 → (True)) ∧ (¬ ((P_X10_in v1 (0 : Int32) ((σ 1 22) - (1 : Int32))) = 0) → ((S_X10_in v2 (0 : Int32) (5 : Int32)) ∧ (((P_X10_in v2 (0 : Int32) (5 : Int32)) = 0 → (True)) ∧ (¬ ((P_X10_in v2 (0 : Int32) (5 : Int32)) = 0) → ((S_X10_ofB σ v1 v2) ∧ ((S_X10_ofB σ v1 (2 : Int32)) ∧ ((v2 = (4 : Int32) → (((P_X10_ofB σ v1 (2 : Int32)) = (1 : Int32) → (S_X10_ofBeat_b63 σ (P_X10_ofB σ v1 v2))) ∧ (¬ ((P_X10_ofB σ v1 (2 : Int32)) = (1 : Int32)) → (((P_X10_ofB σ v1 (2 : Int32)) = (2 : Int32) → (S_X10_ofBeat_b63 σ (P_X10_ofB σ v1 v2))) ∧ (¬ ((P_X10_ofB σ v1 (2 : Int32)) = (2 : Int32)) → (True)))))) ∧ (¬ (v2 = (4 : Int32)) → ((v2 = (5 : Int32) → (((P_X10_ofB σ v1 (2 : Int32)) < (2 : Int32) → (True)) ∧ (¬ ((P_X10_ofB σ v1 (2 : Int32)) < (2 : Int32)) → (True)))) ∧ (¬ (v2 = (5 : Int32)) → (True))))))))))))) := rfl
noncomputable def P_X10_ofBeat (σ : T2) (p0 : Int32) (p1 : Int32) : Int32 := P_X10_ofBeat_b0 σ p0 p1
def S_X10_ofBeat (σ : T2) (p0 : Int32) (p1 : Int32) : Prop := S_X10_ofBeat_b0 σ p0 p1
set_option maxHeartbeats 400000 in
set_option maxRecDepth 100000 in
theorem b_X10_ofBeat_b63 {p : Program} {e : Env} {s : State} {m : MethodId} {args : Array Value} {below : List Frame} {meth : Method} {c : Code} (l : Launch) (D : va_G) (k : Nat → ClassId) (a : Nat → Nat) (A : Nat → Prop) (C0 : q_C p s m meth c args RX10 cX10_ofBeat 5 (some .int) wsX10_ofBeat D (tyL k) A) (R : Int32) : ∀ (σ : T2) (v3 : Int32), S_X10_ofBeat_b63 σ v3 → P_X10_ofBeat_b63 σ v3 = R → ∀ (H : Heap) (locs : List Loc) (ls : Array Slot), q_W D A s.heap (wX10 k a σ) s.heap [] → lv_has ls 5 [(3, .int v3)] → W p l e { frames := 1, cells := 0, slots := 0, locals := 22 } s m args below meth c s.heap [] 0 0 (MQ below (vp_Si (fun r => r = R)) args s 0 0 (fun _ => False)) (F0 m 63 ls []) := by
  intro σ v3 hs hR H locs ls hW hl
  rw [P_X10_ofBeat_b63_e] at hR
  rw [S_X10_ofBeat_b63_e] at hs
  obtain ⟨hx, hb, hr, hml, hts, hown, hlocks, hK, hA⟩ := id C0
  refine lv_ldc (v := (100000 : Int32)) hx hb hown (hts (.constant RX10 117 (100000 : Int32)) (by decide +kernel)) dX10_ofBeat_63 ?_
  refine lv_iload_n hx hb dX10_ofBeat_65 rfl (lv_at hl 0 rfl) ?_
  refine lv_iadd hx hb dX10_ofBeat_66 ?_
  refine lv_goto (tgt := 72) hx hb dX10_ofBeat_67 (by decide) ?_
  exact q_iretr C0 hR dX10_ofBeat_72
set_option maxHeartbeats 400000 in
set_option maxRecDepth 100000 in
theorem b_X10_ofBeat_b0 {p : Program} {e : Env} {s : State} {m : MethodId} {args : Array Value} {below : List Frame} {meth : Method} {c : Code} (l : Launch) (D : va_G) (k : Nat → ClassId) (a : Nat → Nat) (A : Nat → Prop) (C0 : q_C p s m meth c args RX10 cX10_ofBeat 5 (some .int) wsX10_ofBeat D (tyL k) A) (R : Int32) : ∀ (σ : T2) (v1 : Int32) (v2 : Int32), S_X10_ofBeat_b0 σ v1 v2 → P_X10_ofBeat_b0 σ v1 v2 = R → ∀ (H : Heap) (locs : List Loc) (ls : Array Slot), q_W D A s.heap (wX10 k a σ) s.heap [] → lv_has ls 5 [(0, .ref (a 0)), (1, .int v1), (2, .int v2)] → W p l e { frames := 1, cells := 0, slots := 0, locals := 22 } s m args below meth c s.heap [] 0 0 (MQ below (vp_Si (fun r => r = R)) args s 0 0 (fun _ => False)) (F0 m 0 ls []) := by
  intro σ v1 v2 hs hR H locs ls hW hl
  rw [P_X10_ofBeat_b0_e] at hR
  rw [S_X10_ofBeat_b0_e] at hs
  obtain ⟨hx, hb, hr, hml, hts, hown, hlocks, hK, hA⟩ := id C0
  have hf7 := hts (.fieldLink RX10 7 "BeatFollowerModel" "at" "[I") (by decide +kernel)
  have hinX10 : ∀ w ∈ u_ws RX10 TX10 18, w ∈ wsX10_ofBeat := hin_X10_ofBeat_X10
  refine lv_iload_n hx hb dX10_ofBeat_0 rfl (lv_at hl 1 rfl) ?_
  refine lv_iconst (v := (0 : Int32)) hx hb dX10_ofBeat_1 (by decide) ?_
  refine lv_aload_n hx hb dX10_ofBeat_2 rfl (lv_at hl 0 rfl) ?_
  refine va_get (v := .ref (a 1)) (C := RX10) (T := TX10) (N := 18) hx hb hts hinX10 hown hK hW.1 0 rfl rfl 0 (by decide) hf7 (fun _ h9 => h9) rfl dX10_ofBeat_3 ?_
  refine lv_bipush (v := (22 : Int32)) hx hb dX10_ofBeat_6 (by decide) ?_
  refine q_iald (v := σ 1 22) C0 hW 1 rfl rfl vi_22_672 cl_22 rfl dX10_ofBeat_8 ?_
  refine lv_iconst (v := (1 : Int32)) hx hb dX10_ofBeat_9 (by decide) ?_
  refine lv_isub hx hb dX10_ofBeat_10 ?_
  have hs1 := hs.1
  have hs := hs.2
  refine q_Si (As := [.int v1, .int (0 : Int32), .int ((σ 1 22) - (1 : Int32))]) (rest := []) (R := P_X10_in v1 (0 : Int32) ((σ 1 22) - (1 : Int32))) ⟨hx, hb, hml, hown, hts⟩ (m_X10_in l v1 (0 : Int32) ((σ 1 22) - (1 : Int32)) hs1) (va_cwS 3 hts gX10_ofBeat_X10_in rfl rfl rfl hd_X10_in ⟨Nat.le_of_ble_eq_true rfl, Nat.le_of_ble_eq_true rfl⟩) hl rfl rfl (Nat.le_of_ble_eq_true rfl) dX10_ofBeat_11 ⟨Nat.le_refl 0, Nat.le_refl 0⟩ ?_
  refine lv_if_ne (tgt := 19) hx hb dX10_ofBeat_14 (by decide) (fun c_2 => ?_) (fun c_2 => ?_)
  · have hs := hs.2 c_2
    rw [if_neg c_2] at hR
    refine lv_iload_n hx hb dX10_ofBeat_19 rfl (lv_at hl 2 rfl) ?_
    refine lv_iconst (v := (0 : Int32)) hx hb dX10_ofBeat_20 (by decide) ?_
    refine lv_iconst (v := (5 : Int32)) hx hb dX10_ofBeat_21 (by decide) ?_
    have hs3 := hs.1
    have hs := hs.2
    refine q_Si (As := [.int v2, .int (0 : Int32), .int (5 : Int32)]) (rest := []) (R := P_X10_in v2 (0 : Int32) (5 : Int32)) ⟨hx, hb, hml, hown, hts⟩ (m_X10_in l v2 (0 : Int32) (5 : Int32) hs3) (va_cwS 3 hts gX10_ofBeat_X10_in rfl rfl rfl hd_X10_in ⟨Nat.le_of_ble_eq_true rfl, Nat.le_of_ble_eq_true rfl⟩) hl rfl rfl (Nat.le_of_ble_eq_true rfl) dX10_ofBeat_22 ⟨Nat.le_refl 0, Nat.le_refl 0⟩ ?_
    refine lv_if_ne (tgt := 31) hx hb dX10_ofBeat_25 (by decide) (fun c_4 => ?_) (fun c_4 => ?_)
    · have hs := hs.2 c_4
      rw [if_neg c_4] at hR
      refine lv_aload_n hx hb dX10_ofBeat_31 rfl (lv_at hl 0 rfl) ?_
      refine lv_iload_n hx hb dX10_ofBeat_32 rfl (lv_at hl 1 rfl) ?_
      refine lv_iload_n hx hb dX10_ofBeat_33 rfl (lv_at hl 2 rfl) ?_
      have hs5 := hs.1
      have hs := hs.2
      refine q_Vi (As := [.int v1, .int v2]) (rest := []) (R := P_X10_ofB σ v1 v2) [0, 1, 2, 3, 4, 5, 6, 7, 8] [0, 1, 2, 3] 0 10 C0 hW (m_X10_ofB l D k a _ σ v1 v2 hs5) (cwV 2 hts gX10_ofBeat_X10_ofB rfl rfl rfl hd_X10_ofB ⟨Nat.le_of_ble_eq_true rfl, Nat.le_of_ble_eq_true rfl⟩) (by decide) (wX10_pl k a _) rfl (wX10_rec k a _) rfl hl rfl rfl (Nat.le_of_ble_eq_true rfl) dX10_ofBeat_34 ⟨Nat.le_refl 0, Nat.le_refl 0⟩ ?_
      refine lv_istore_n (lv' := [(3, .int (P_X10_ofB σ v1 v2)), (0, .ref (a 0)), (1, .int v1), (2, .int v2)]) hx hb dX10_ofBeat_37 rfl hl (by decide) rfl (fun ls hl => ?_)
      refine lv_aload_n hx hb dX10_ofBeat_38 rfl (lv_at hl 1 rfl) ?_
      refine lv_iload_n hx hb dX10_ofBeat_39 rfl (lv_at hl 2 rfl) ?_
      refine lv_iconst (v := (2 : Int32)) hx hb dX10_ofBeat_40 (by decide) ?_
      have hs6 := hs.1
      have hs := hs.2
      refine q_Vi (As := [.int v1, .int (2 : Int32)]) (rest := []) (R := P_X10_ofB σ v1 (2 : Int32)) [0, 1, 2, 3, 4, 5, 6, 7, 8] [0, 1, 2, 3] 0 10 C0 hW (m_X10_ofB l D k a _ σ v1 (2 : Int32) hs6) (cwV 2 hts gX10_ofBeat_X10_ofB rfl rfl rfl hd_X10_ofB ⟨Nat.le_of_ble_eq_true rfl, Nat.le_of_ble_eq_true rfl⟩) (by decide) (wX10_pl k a _) rfl (wX10_rec k a _) rfl hl rfl rfl (Nat.le_of_ble_eq_true rfl) dX10_ofBeat_41 ⟨Nat.le_refl 0, Nat.le_refl 0⟩ ?_
      refine lv_istore (lv' := [(4, .int (P_X10_ofB σ v1 (2 : Int32))), (3, .int (P_X10_ofB σ v1 v2)), (0, .ref (a 0)), (1, .int v1), (2, .int v2)]) hx hb dX10_ofBeat_44 hl (by decide) rfl (fun ls hl => ?_)
      refine lv_iload_n hx hb dX10_ofBeat_46 rfl (lv_at hl 4 rfl) ?_
      refine lv_iconst (v := (4 : Int32)) hx hb dX10_ofBeat_47 (by decide) ?_
      refine lv_icmp_ne (tgt := 73) hx hb dX10_ofBeat_48 (by decide) (fun c_7 => ?_) (fun c_7 => ?_)
      · have hs := hs.2 c_7
        rw [if_neg c_7] at hR
        refine lv_iload_n hx hb dX10_ofBeat_73 rfl (lv_at hl 4 rfl) ?_
        refine lv_iconst (v := (5 : Int32)) hx hb dX10_ofBeat_74 (by decide) ?_
        refine lv_icmp_ne (tgt := 97) hx hb dX10_ofBeat_75 (by decide) (fun c_8 => ?_) (fun c_8 => ?_)
        · have hs := hs.2 c_8
          rw [if_neg c_8] at hR
          refine lv_iload_n hx hb dX10_ofBeat_97 rfl (lv_at hl 1 rfl) ?_
          exact q_iretr C0 hR dX10_ofBeat_98
        · have hs := hs.1 c_8
          rw [if_pos c_8] at hR
          refine lv_iload hx hb dX10_ofBeat_78 (lv_at hl 0 rfl) ?_
          refine lv_iconst (v := (2 : Int32)) hx hb dX10_ofBeat_80 (by decide) ?_
          refine lv_icmp_lt (tgt := 92) hx hb dX10_ofBeat_81 (by decide) (fun c_9 => ?_) (fun c_9 => ?_)
          · have hs := hs.1 c_9
            rw [if_pos c_9] at hR
            refine lv_bipush (v := (-6 : Int32)) hx hb dX10_ofBeat_92 (by decide) ?_
            refine lv_goto (tgt := 98) hx hb dX10_ofBeat_94 (by decide) ?_
            exact q_iretr C0 hR dX10_ofBeat_98
          · have hs := hs.2 c_9
            rw [if_neg c_9] at hR
            refine lv_sipush (v := (1000 : Int32)) hx hb dX10_ofBeat_84 (by decide) ?_
            refine lv_iload_n hx hb dX10_ofBeat_87 rfl (lv_at hl 1 rfl) ?_
            refine lv_iadd hx hb dX10_ofBeat_88 ?_
            refine lv_goto (tgt := 98) hx hb dX10_ofBeat_89 (by decide) ?_
            exact q_iretr C0 hR dX10_ofBeat_98
      · have hs := hs.1 c_7
        rw [if_pos c_7] at hR
        refine lv_iload hx hb dX10_ofBeat_51 (lv_at hl 0 rfl) ?_
        refine lv_iconst (v := (1 : Int32)) hx hb dX10_ofBeat_53 (by decide) ?_
        refine lv_icmp_eq (tgt := 63) hx hb dX10_ofBeat_54 (by decide) (fun c_10 => ?_) (fun c_10 => ?_)
        · have hs := hs.1 c_10
          rw [if_pos c_10] at hR
          exact b_X10_ofBeat_b63 l D k a A C0 R σ (P_X10_ofB σ v1 v2) hs hR H locs ls hW (lv_sub hl [1] rfl)
        · have hs := hs.2 c_10
          rw [if_neg c_10] at hR
          refine lv_iload hx hb dX10_ofBeat_57 (lv_at hl 0 rfl) ?_
          refine lv_iconst (v := (2 : Int32)) hx hb dX10_ofBeat_59 (by decide) ?_
          refine lv_icmp_ne (tgt := 70) hx hb dX10_ofBeat_60 (by decide) (fun c_11 => ?_) (fun c_11 => ?_)
          · have hs := hs.2 c_11
            rw [if_neg c_11] at hR
            refine lv_bipush (v := (-6 : Int32)) hx hb dX10_ofBeat_70 (by decide) ?_
            exact q_iretr C0 hR dX10_ofBeat_72
          · have hs := hs.1 c_11
            rw [if_pos c_11] at hR
            exact b_X10_ofBeat_b63 l D k a A C0 R σ (P_X10_ofB σ v1 v2) hs hR H locs ls hW (lv_sub hl [1] rfl)
    · have hs := hs.1 c_4
      rw [if_pos c_4] at hR
      refine lv_bipush (v := (-2 : Int32)) hx hb dX10_ofBeat_28 (by decide) ?_
      exact q_iretr C0 hR dX10_ofBeat_30
  · have hs := hs.1 c_2
    rw [if_pos c_2] at hR
    refine lv_iconst (v := (-1 : Int32)) hx hb dX10_ofBeat_17 (by decide) ?_
    exact q_iretr C0 hR dX10_ofBeat_18
set_option maxHeartbeats 400000 in
set_option maxRecDepth 100000 in
theorem m_X10_ofBeat (l : Launch) (D : va_G) (k : Nat → ClassId) (a : Nat → Nat) (sz : Nat) (σ : T2) (p0 : Int32) (p1 : Int32) (hs : S_X10_ofBeat σ p0 p1) : Met l yX10_ofBeat wsX10_ofBeat { frames := 1, cells := 0, slots := 0, locals := 22 } (va_Pc [.ref (a 0), .int p0, .int p1] (q_B D (tyL k) (wX10 k a σ) sz)) (vp_Si (fun r => r = P_X10_ofBeat σ p0 p1)) 0 0 (fun _ => False) := by
  refine q_met [.ref (a 0), .int p0, .int p1] (wX10 k a σ) sz (cc := cX10_ofBeat) (maxL := 5) (ret := (some .int)) (by decide) rfl (Nat.le_of_ble_eq_true rfl) ?_
  intro p e s m args below meth c ls hsz C0 hW hl hin
  subst hsz
  exact b_X10_ofBeat_b0 l D k a _ C0 _ σ p0 p1 hs rfl s.heap [] ls hW (lv_sub hl [0, 1, 2] rfl)
theorem hin_X10_ofBlow_X10 : ∀ w ∈ u_ws RX10 TX10 18, w ∈ wsX10_ofBlow := by decide +kernel
theorem hd_X10_ofBlow : yX10_ofBlow.cls = RX10 ∧ yX10_ofBlow.cls ≠ "java/lang/invoke/MethodHandle" ∧ yX10_ofBlow.cls ≠ "java/lang/invoke/VarHandle" ∧ (parseMethodDescriptor yX10_ofBlow.desc).map (fun d => d.parameters.length) = some 2 := by decide +kernel
noncomputable def P_X10_ofBlow_b0 (σ : T2) (v1 : Int32) (v2 : Int32) : Int32 := if v1 < 0 then ((-1 : Int32)) else (if (P_X10_in v1 ((σ 1 12) - (64 : Int32)) ((σ 1 12) - (1 : Int32))) = 0 then ((-1 : Int32)) else (if (P_X10_in v2 (0 : Int32) (3 : Int32)) = 0 then ((-2 : Int32)) else (σ 1 ((((416 : Int32) + ((4 : Int32) * (v1 - v1 / (64 : Int32) * (64 : Int32)))) + v2).toNatClampNeg))))
def S_X10_ofBlow_b0 (σ : T2) (v1 : Int32) (v2 : Int32) : Prop := (v1 < 0 → (True)) ∧ (¬ (v1 < 0) → ((S_X10_in v1 ((σ 1 12) - (64 : Int32)) ((σ 1 12) - (1 : Int32))) ∧ (((P_X10_in v1 ((σ 1 12) - (64 : Int32)) ((σ 1 12) - (1 : Int32))) = 0 → (True)) ∧ (¬ ((P_X10_in v1 ((σ 1 12) - (64 : Int32)) ((σ 1 12) - (1 : Int32))) = 0) → ((S_X10_in v2 (0 : Int32) (3 : Int32)) ∧ (((P_X10_in v2 (0 : Int32) (3 : Int32)) = 0 → (True)) ∧ (¬ ((P_X10_in v2 (0 : Int32) (3 : Int32)) = 0) → ((vp_in (((416 : Int32) + ((4 : Int32) * (v1 - v1 / (64 : Int32) * (64 : Int32)))) + v2) 672) ∧ (True)))))))))
theorem P_X10_ofBlow_b0_e (σ : T2) (v1 : Int32) (v2 : Int32) : P_X10_ofBlow_b0 σ v1 v2 = if v1 < 0 then ((-1 : Int32)) else (if (P_X10_in v1 ((σ 1 12) - (64 : Int32)) ((σ 1 12) - (1 : Int32))) = 0 then ((-1 : Int32)) else (if (P_X10_in v2 (0 : Int32) (3 : Int32)) = 0 then ((-2 : Int32)) else (σ 1 ((((416 : Int32) + ((4 : Int32) * (v1 - v1 / (64 : Int32) * (64 : Int32)))) + v2).toNatClampNeg)))) := rfl
theorem S_X10_ofBlow_b0_e (σ : T2) (v1 : Int32) (v2 : Int32) : S_X10_ofBlow_b0 σ v1 v2 = ((v1 < 0 → (True)) ∧ (¬ (v1 < 0) → ((S_X10_in v1 ((σ 1 12) - (64 : Int32)) ((σ 1 12) - (1 : Int32))) ∧ (((P_X10_in v1 ((σ 1 12) - (64 : Int32)) ((σ 1 12) - (1 : Int32))) = 0 → (True)) ∧ (¬ ((P_X10_in v1 ((σ 1 12) - (64 : Int32)) ((σ 1 12) - (1 : Int32))) = 0) → ((S_X10_in v2 (0 : Int32) (3 : Int32)) ∧ (((P_X10_in v2 (0 : Int32) (3 : Int32)) = 0 → (True)) ∧ (¬ ((P_X10_in v2 (0 : Int32) (3 : Int32)) = 0) → ((vp_in (((416 : Int32) + ((4 : Int32) * (v1 - v1 / (64 : Int32) * (64 : Int32)))) + v2) 672) ∧ (True)))))))))) := rfl
noncomputable def P_X10_ofBlow (σ : T2) (p0 : Int32) (p1 : Int32) : Int32 := P_X10_ofBlow_b0 σ p0 p1
def S_X10_ofBlow (σ : T2) (p0 : Int32) (p1 : Int32) : Prop := S_X10_ofBlow_b0 σ p0 p1
set_option maxHeartbeats 400000 in
set_option maxRecDepth 100000 in
theorem b_X10_ofBlow_b0 {p : Program} {e : Env} {s : State} {m : MethodId} {args : Array Value} {below : List Frame} {meth : Method} {c : Code} (l : Launch) (D : va_G) (k : Nat → ClassId) (a : Nat → Nat) (A : Nat → Prop) (C0 : q_C p s m meth c args RX10 cX10_ofBlow 3 (some .int) wsX10_ofBlow D (tyL k) A) (R : Int32) : ∀ (σ : T2) (v1 : Int32) (v2 : Int32), S_X10_ofBlow_b0 σ v1 v2 → P_X10_ofBlow_b0 σ v1 v2 = R → ∀ (H : Heap) (locs : List Loc) (ls : Array Slot), q_W D A s.heap (wX10 k a σ) s.heap [] → lv_has ls 3 [(0, .ref (a 0)), (1, .int v1), (2, .int v2)] → W p l e { frames := 1, cells := 0, slots := 0, locals := 22 } s m args below meth c s.heap [] 0 0 (MQ below (vp_Si (fun r => r = R)) args s 0 0 (fun _ => False)) (F0 m 0 ls []) := by
  intro σ v1 v2 hs hR H locs ls hW hl
  rw [P_X10_ofBlow_b0_e] at hR
  rw [S_X10_ofBlow_b0_e] at hs
  obtain ⟨hx, hb, hr, hml, hts, hown, hlocks, hK, hA⟩ := id C0
  have hf7 := hts (.fieldLink RX10 7 "BeatFollowerModel" "at" "[I") (by decide +kernel)
  have hinX10 : ∀ w ∈ u_ws RX10 TX10 18, w ∈ wsX10_ofBlow := hin_X10_ofBlow_X10
  refine lv_iload_n hx hb dX10_ofBlow_0 rfl (lv_at hl 1 rfl) ?_
  refine lv_if_lt (tgt := 30) hx hb dX10_ofBlow_1 (by decide) (fun c_1 => ?_) (fun c_1 => ?_)
  · have hs := hs.1 c_1
    rw [if_pos c_1] at hR
    refine lv_iconst (v := (-1 : Int32)) hx hb dX10_ofBlow_30 (by decide) ?_
    exact q_iretr C0 hR dX10_ofBlow_31
  · have hs := hs.2 c_1
    rw [if_neg c_1] at hR
    refine lv_iload_n hx hb dX10_ofBlow_4 rfl (lv_at hl 1 rfl) ?_
    refine lv_aload_n hx hb dX10_ofBlow_5 rfl (lv_at hl 0 rfl) ?_
    refine va_get (v := .ref (a 1)) (C := RX10) (T := TX10) (N := 18) hx hb hts hinX10 hown hK hW.1 0 rfl rfl 0 (by decide) hf7 (fun _ h9 => h9) rfl dX10_ofBlow_6 ?_
    refine lv_bipush (v := (12 : Int32)) hx hb dX10_ofBlow_9 (by decide) ?_
    refine q_iald (v := σ 1 12) C0 hW 1 rfl rfl vi_12_672 cl_12 rfl dX10_ofBlow_11 ?_
    refine lv_bipush (v := (64 : Int32)) hx hb dX10_ofBlow_12 (by decide) ?_
    refine lv_isub hx hb dX10_ofBlow_14 ?_
    refine lv_aload_n hx hb dX10_ofBlow_15 rfl (lv_at hl 0 rfl) ?_
    refine va_get (v := .ref (a 1)) (C := RX10) (T := TX10) (N := 18) hx hb hts hinX10 hown hK hW.1 0 rfl rfl 0 (by decide) hf7 (fun _ h9 => h9) rfl dX10_ofBlow_16 ?_
    refine lv_bipush (v := (12 : Int32)) hx hb dX10_ofBlow_19 (by decide) ?_
    refine q_iald (v := σ 1 12) C0 hW 1 rfl rfl vi_12_672 cl_12 rfl dX10_ofBlow_21 ?_
    refine lv_iconst (v := (1 : Int32)) hx hb dX10_ofBlow_22 (by decide) ?_
    refine lv_isub hx hb dX10_ofBlow_23 ?_
    have hs2 := hs.1
    have hs := hs.2
    refine q_Si (As := [.int v1, .int ((σ 1 12) - (64 : Int32)), .int ((σ 1 12) - (1 : Int32))]) (rest := []) (R := P_X10_in v1 ((σ 1 12) - (64 : Int32)) ((σ 1 12) - (1 : Int32))) ⟨hx, hb, hml, hown, hts⟩ (m_X10_in l v1 ((σ 1 12) - (64 : Int32)) ((σ 1 12) - (1 : Int32)) hs2) (va_cwS 3 hts gX10_ofBlow_X10_in rfl rfl rfl hd_X10_in ⟨Nat.le_of_ble_eq_true rfl, Nat.le_of_ble_eq_true rfl⟩) hl rfl rfl (Nat.le_of_ble_eq_true rfl) dX10_ofBlow_24 ⟨Nat.le_refl 0, Nat.le_refl 0⟩ ?_
    refine lv_if_ne (tgt := 32) hx hb dX10_ofBlow_27 (by decide) (fun c_3 => ?_) (fun c_3 => ?_)
    · have hs := hs.2 c_3
      rw [if_neg c_3] at hR
      refine lv_iload_n hx hb dX10_ofBlow_32 rfl (lv_at hl 2 rfl) ?_
      refine lv_iconst (v := (0 : Int32)) hx hb dX10_ofBlow_33 (by decide) ?_
      refine lv_iconst (v := (3 : Int32)) hx hb dX10_ofBlow_34 (by decide) ?_
      have hs4 := hs.1
      have hs := hs.2
      refine q_Si (As := [.int v2, .int (0 : Int32), .int (3 : Int32)]) (rest := []) (R := P_X10_in v2 (0 : Int32) (3 : Int32)) ⟨hx, hb, hml, hown, hts⟩ (m_X10_in l v2 (0 : Int32) (3 : Int32) hs4) (va_cwS 3 hts gX10_ofBlow_X10_in rfl rfl rfl hd_X10_in ⟨Nat.le_of_ble_eq_true rfl, Nat.le_of_ble_eq_true rfl⟩) hl rfl rfl (Nat.le_of_ble_eq_true rfl) dX10_ofBlow_35 ⟨Nat.le_refl 0, Nat.le_refl 0⟩ ?_
      refine lv_if_eq (tgt := 61) hx hb dX10_ofBlow_38 (by decide) (fun c_5 => ?_) (fun c_5 => ?_)
      · have hs := hs.1 c_5
        rw [if_pos c_5] at hR
        refine lv_bipush (v := (-2 : Int32)) hx hb dX10_ofBlow_61 (by decide) ?_
        exact q_iretr C0 hR dX10_ofBlow_63
      · have hs := hs.2 c_5
        rw [if_neg c_5] at hR
        refine lv_aload_n hx hb dX10_ofBlow_41 rfl (lv_at hl 0 rfl) ?_
        refine va_get (v := .ref (a 1)) (C := RX10) (T := TX10) (N := 18) hx hb hts hinX10 hown hK hW.1 0 rfl rfl 0 (by decide) hf7 (fun _ h9 => h9) rfl dX10_ofBlow_42 ?_
        refine lv_sipush (v := (416 : Int32)) hx hb dX10_ofBlow_45 (by decide) ?_
        refine lv_iconst (v := (4 : Int32)) hx hb dX10_ofBlow_48 (by decide) ?_
        refine lv_iload_n hx hb dX10_ofBlow_49 rfl (lv_at hl 1 rfl) ?_
        refine lv_bipush (v := (64 : Int32)) hx hb dX10_ofBlow_50 (by decide) ?_
        refine lv_irem hx hb dX10_ofBlow_52 (by decide) ?_
        refine lv_imul hx hb dX10_ofBlow_53 ?_
        refine lv_iadd hx hb dX10_ofBlow_54 ?_
        refine lv_iload_n hx hb dX10_ofBlow_55 rfl (lv_at hl 2 rfl) ?_
        refine lv_iadd hx hb dX10_ofBlow_56 ?_
        have hi6 := hs.1
        have hs := hs.2
        refine q_iald (v := σ 1 ((((416 : Int32) + ((4 : Int32) * (v1 - v1 / (64 : Int32) * (64 : Int32)))) + v2).toNatClampNeg)) C0 hW 1 rfl rfl hi6 rfl rfl dX10_ofBlow_57 ?_
        refine lv_goto (tgt := 63) hx hb dX10_ofBlow_58 (by decide) ?_
        exact q_iretr C0 hR dX10_ofBlow_63
    · have hs := hs.1 c_3
      rw [if_pos c_3] at hR
      refine lv_iconst (v := (-1 : Int32)) hx hb dX10_ofBlow_30 (by decide) ?_
      exact q_iretr C0 hR dX10_ofBlow_31
set_option maxHeartbeats 400000 in
set_option maxRecDepth 100000 in
theorem m_X10_ofBlow (l : Launch) (D : va_G) (k : Nat → ClassId) (a : Nat → Nat) (sz : Nat) (σ : T2) (p0 : Int32) (p1 : Int32) (hs : S_X10_ofBlow σ p0 p1) : Met l yX10_ofBlow wsX10_ofBlow { frames := 1, cells := 0, slots := 0, locals := 22 } (va_Pc [.ref (a 0), .int p0, .int p1] (q_B D (tyL k) (wX10 k a σ) sz)) (vp_Si (fun r => r = P_X10_ofBlow σ p0 p1)) 0 0 (fun _ => False) := by
  refine q_met [.ref (a 0), .int p0, .int p1] (wX10 k a σ) sz (cc := cX10_ofBlow) (maxL := 3) (ret := (some .int)) (by decide) rfl (Nat.le_of_ble_eq_true rfl) ?_
  intro p e s m args below meth c ls hsz C0 hW hl hin
  subst hsz
  exact b_X10_ofBlow_b0 l D k a _ C0 _ σ p0 p1 hs rfl s.heap [] ls hW (lv_sub hl [0, 1, 2] rfl)
theorem hin_X10_count_X10 : ∀ w ∈ u_ws RX10 TX10 18, w ∈ wsX10_count := by decide +kernel
theorem hd_X10_count : yX10_count.cls = RX10 ∧ yX10_count.cls ≠ "java/lang/invoke/MethodHandle" ∧ yX10_count.cls ≠ "java/lang/invoke/VarHandle" ∧ (parseMethodDescriptor yX10_count.desc).map (fun d => d.parameters.length) = some 1 := by decide +kernel
noncomputable def P_X10_count_b0 (σ : T2) (v1 : Int32) : Int32 := if (P_X10_in v1 (0 : Int32) (15 : Int32)) = 0 then (if (P_X10_in v1 (16 : Int32) (23 : Int32)) = 0 then (if v1 = (24 : Int32) then (σ 0 9) else (if v1 = (25 : Int32) then (σ 0 3) else ((-2 : Int32)))) else (σ 1 ((v1 - (16 : Int32)).toNatClampNeg))) else (σ 1 (((8 : Int32) + v1).toNatClampNeg))
def S_X10_count_b0 (σ : T2) (v1 : Int32) : Prop := (S_X10_in v1 (0 : Int32) (15 : Int32)) ∧ (((P_X10_in v1 (0 : Int32) (15 : Int32)) = 0 → ((S_X10_in v1 (16 : Int32) (23 : Int32)) ∧ (((P_X10_in v1 (16 : Int32) (23 : Int32)) = 0 → ((v1 = (24 : Int32) → (True)) ∧ (¬ (v1 = (24 : Int32)) → ((v1 = (25 : Int32) → (True)) ∧ (¬ (v1 = (25 : Int32)) → (True)))))) ∧ (¬ ((P_X10_in v1 (16 : Int32) (23 : Int32)) = 0) → ((vp_in (v1 - (16 : Int32)) 672) ∧ (True)))))) ∧ (¬ ((P_X10_in v1 (0 : Int32) (15 : Int32)) = 0) → ((vp_in ((8 : Int32) + v1) 672) ∧ (True))))
theorem P_X10_count_b0_e (σ : T2) (v1 : Int32) : P_X10_count_b0 σ v1 = if (P_X10_in v1 (0 : Int32) (15 : Int32)) = 0 then (if (P_X10_in v1 (16 : Int32) (23 : Int32)) = 0 then (if v1 = (24 : Int32) then (σ 0 9) else (if v1 = (25 : Int32) then (σ 0 3) else ((-2 : Int32)))) else (σ 1 ((v1 - (16 : Int32)).toNatClampNeg))) else (σ 1 (((8 : Int32) + v1).toNatClampNeg)) := rfl
theorem S_X10_count_b0_e (σ : T2) (v1 : Int32) : S_X10_count_b0 σ v1 = ((S_X10_in v1 (0 : Int32) (15 : Int32)) ∧ (((P_X10_in v1 (0 : Int32) (15 : Int32)) = 0 → ((S_X10_in v1 (16 : Int32) (23 : Int32)) ∧ (((P_X10_in v1 (16 : Int32) (23 : Int32)) = 0 → ((v1 = (24 : Int32) → (True)) ∧ (¬ (v1 = (24 : Int32)) → ((v1 = (25 : Int32) → (True)) ∧ (¬ (v1 = (25 : Int32)) → (True)))))) ∧ (¬ ((P_X10_in v1 (16 : Int32) (23 : Int32)) = 0) → ((vp_in (v1 - (16 : Int32)) 672) ∧ (True)))))) ∧ (¬ ((P_X10_in v1 (0 : Int32) (15 : Int32)) = 0) → ((vp_in ((8 : Int32) + v1) 672) ∧ (True))))) := rfl
noncomputable def P_X10_count (σ : T2) (p0 : Int32) : Int32 := P_X10_count_b0 σ p0
def S_X10_count (σ : T2) (p0 : Int32) : Prop := S_X10_count_b0 σ p0
set_option maxHeartbeats 400000 in
set_option maxRecDepth 100000 in
theorem b_X10_count_b0 {p : Program} {e : Env} {s : State} {m : MethodId} {args : Array Value} {below : List Frame} {meth : Method} {c : Code} (l : Launch) (D : va_G) (k : Nat → ClassId) (a : Nat → Nat) (A : Nat → Prop) (C0 : q_C p s m meth c args RX10 cX10_count 2 (some .int) wsX10_count D (tyL k) A) (R : Int32) : ∀ (σ : T2) (v1 : Int32), S_X10_count_b0 σ v1 → P_X10_count_b0 σ v1 = R → ∀ (H : Heap) (locs : List Loc) (ls : Array Slot), q_W D A s.heap (wX10 k a σ) s.heap [] → lv_has ls 2 [(0, .ref (a 0)), (1, .int v1)] → W p l e { frames := 1, cells := 0, slots := 0, locals := 22 } s m args below meth c s.heap [] 0 0 (MQ below (vp_Si (fun r => r = R)) args s 0 0 (fun _ => False)) (F0 m 0 ls []) := by
  intro σ v1 hs hR H locs ls hW hl
  rw [P_X10_count_b0_e] at hR
  rw [S_X10_count_b0_e] at hs
  obtain ⟨hx, hb, hr, hml, hts, hown, hlocks, hK, hA⟩ := id C0
  have hf7 := hts (.fieldLink RX10 7 "BeatFollowerModel" "at" "[I") (by decide +kernel)
  have hf39 := hts (.fieldLink RX10 39 "BeatFollowerModel" "pastMany" "I") (by decide +kernel)
  have hf128 := hts (.fieldLink RX10 128 "BeatFollowerModel" "padMany" "I") (by decide +kernel)
  have hinX10 : ∀ w ∈ u_ws RX10 TX10 18, w ∈ wsX10_count := hin_X10_count_X10
  refine lv_iload_n hx hb dX10_count_0 rfl (lv_at hl 1 rfl) ?_
  refine lv_iconst (v := (0 : Int32)) hx hb dX10_count_1 (by decide) ?_
  refine lv_bipush (v := (15 : Int32)) hx hb dX10_count_2 (by decide) ?_
  have hs1 := hs.1
  have hs := hs.2
  refine q_Si (As := [.int v1, .int (0 : Int32), .int (15 : Int32)]) (rest := []) (R := P_X10_in v1 (0 : Int32) (15 : Int32)) ⟨hx, hb, hml, hown, hts⟩ (m_X10_in l v1 (0 : Int32) (15 : Int32) hs1) (va_cwS 3 hts gX10_count_X10_in rfl rfl rfl hd_X10_in ⟨Nat.le_of_ble_eq_true rfl, Nat.le_of_ble_eq_true rfl⟩) hl rfl rfl (Nat.le_of_ble_eq_true rfl) dX10_count_4 ⟨Nat.le_refl 0, Nat.le_refl 0⟩ ?_
  refine lv_if_eq (tgt := 20) hx hb dX10_count_7 (by decide) (fun c_2 => ?_) (fun c_2 => ?_)
  · have hs := hs.1 c_2
    rw [if_pos c_2] at hR
    refine lv_iload_n hx hb dX10_count_20 rfl (lv_at hl 1 rfl) ?_
    refine lv_bipush (v := (16 : Int32)) hx hb dX10_count_21 (by decide) ?_
    refine lv_bipush (v := (23 : Int32)) hx hb dX10_count_23 (by decide) ?_
    have hs3 := hs.1
    have hs := hs.2
    refine q_Si (As := [.int v1, .int (16 : Int32), .int (23 : Int32)]) (rest := []) (R := P_X10_in v1 (16 : Int32) (23 : Int32)) ⟨hx, hb, hml, hown, hts⟩ (m_X10_in l v1 (16 : Int32) (23 : Int32) hs3) (va_cwS 3 hts gX10_count_X10_in rfl rfl rfl hd_X10_in ⟨Nat.le_of_ble_eq_true rfl, Nat.le_of_ble_eq_true rfl⟩) hl rfl rfl (Nat.le_of_ble_eq_true rfl) dX10_count_25 ⟨Nat.le_refl 0, Nat.le_refl 0⟩ ?_
    refine lv_if_eq (tgt := 43) hx hb dX10_count_28 (by decide) (fun c_4 => ?_) (fun c_4 => ?_)
    · have hs := hs.1 c_4
      rw [if_pos c_4] at hR
      refine lv_iload_n hx hb dX10_count_43 rfl (lv_at hl 1 rfl) ?_
      refine lv_bipush (v := (24 : Int32)) hx hb dX10_count_44 (by decide) ?_
      refine lv_icmp_ne (tgt := 56) hx hb dX10_count_46 (by decide) (fun c_5 => ?_) (fun c_5 => ?_)
      · have hs := hs.2 c_5
        rw [if_neg c_5] at hR
        refine lv_iload_n hx hb dX10_count_56 rfl (lv_at hl 1 rfl) ?_
        refine lv_bipush (v := (25 : Int32)) hx hb dX10_count_57 (by decide) ?_
        refine lv_icmp_ne (tgt := 69) hx hb dX10_count_59 (by decide) (fun c_6 => ?_) (fun c_6 => ?_)
        · have hs := hs.2 c_6
          rw [if_neg c_6] at hR
          refine lv_bipush (v := (-2 : Int32)) hx hb dX10_count_69 (by decide) ?_
          exact q_iretr C0 hR dX10_count_71
        · have hs := hs.1 c_6
          rw [if_pos c_6] at hR
          refine lv_aload_n hx hb dX10_count_62 rfl (lv_at hl 0 rfl) ?_
          refine va_get (v := .int (σ 0 3)) (C := RX10) (T := TX10) (N := 18) hx hb hts hinX10 hown hK hW.1 0 rfl rfl 3 (by decide) hf39 (fun _ h9 => h9) rfl dX10_count_63 ?_
          refine lv_goto (tgt := 71) hx hb dX10_count_66 (by decide) ?_
          exact q_iretr C0 hR dX10_count_71
      · have hs := hs.1 c_5
        rw [if_pos c_5] at hR
        refine lv_aload_n hx hb dX10_count_49 rfl (lv_at hl 0 rfl) ?_
        refine va_get (v := .int (σ 0 9)) (C := RX10) (T := TX10) (N := 18) hx hb hts hinX10 hown hK hW.1 0 rfl rfl 9 (by decide) hf128 (fun _ h9 => h9) rfl dX10_count_50 ?_
        refine lv_goto (tgt := 71) hx hb dX10_count_53 (by decide) ?_
        exact q_iretr C0 hR dX10_count_71
    · have hs := hs.2 c_4
      rw [if_neg c_4] at hR
      refine lv_aload_n hx hb dX10_count_31 rfl (lv_at hl 0 rfl) ?_
      refine va_get (v := .ref (a 1)) (C := RX10) (T := TX10) (N := 18) hx hb hts hinX10 hown hK hW.1 0 rfl rfl 0 (by decide) hf7 (fun _ h9 => h9) rfl dX10_count_32 ?_
      refine lv_iload_n hx hb dX10_count_35 rfl (lv_at hl 1 rfl) ?_
      refine lv_bipush (v := (16 : Int32)) hx hb dX10_count_36 (by decide) ?_
      refine lv_isub hx hb dX10_count_38 ?_
      have hi7 := hs.1
      have hs := hs.2
      refine q_iald (v := σ 1 ((v1 - (16 : Int32)).toNatClampNeg)) C0 hW 1 rfl rfl hi7 rfl rfl dX10_count_39 ?_
      refine lv_goto (tgt := 71) hx hb dX10_count_40 (by decide) ?_
      exact q_iretr C0 hR dX10_count_71
  · have hs := hs.2 c_2
    rw [if_neg c_2] at hR
    refine lv_aload_n hx hb dX10_count_10 rfl (lv_at hl 0 rfl) ?_
    refine va_get (v := .ref (a 1)) (C := RX10) (T := TX10) (N := 18) hx hb hts hinX10 hown hK hW.1 0 rfl rfl 0 (by decide) hf7 (fun _ h9 => h9) rfl dX10_count_11 ?_
    refine lv_bipush (v := (8 : Int32)) hx hb dX10_count_14 (by decide) ?_
    refine lv_iload_n hx hb dX10_count_16 rfl (lv_at hl 1 rfl) ?_
    refine lv_iadd hx hb dX10_count_17 ?_
    have hi8 := hs.1
    have hs := hs.2
    refine q_iald (v := σ 1 (((8 : Int32) + v1).toNatClampNeg)) C0 hW 1 rfl rfl hi8 rfl rfl dX10_count_18 ?_
    exact q_iretr C0 hR dX10_count_19
set_option maxHeartbeats 400000 in
set_option maxRecDepth 100000 in
theorem m_X10_count (l : Launch) (D : va_G) (k : Nat → ClassId) (a : Nat → Nat) (sz : Nat) (σ : T2) (p0 : Int32) (hs : S_X10_count σ p0) : Met l yX10_count wsX10_count { frames := 1, cells := 0, slots := 0, locals := 22 } (va_Pc [.ref (a 0), .int p0] (q_B D (tyL k) (wX10 k a σ) sz)) (vp_Si (fun r => r = P_X10_count σ p0)) 0 0 (fun _ => False) := by
  refine q_met [.ref (a 0), .int p0] (wX10 k a σ) sz (cc := cX10_count) (maxL := 2) (ret := (some .int)) (by decide) rfl (Nat.le_of_ble_eq_true rfl) ?_
  intro p e s m args below meth c ls hsz C0 hW hl hin
  subst hsz
  exact b_X10_count_b0 l D k a _ C0 _ σ p0 hs rfl s.heap [] ls hW (lv_sub hl [0, 1] rfl)
theorem hin_X10_slips_X10 : ∀ w ∈ u_ws RX10 TX10 18, w ∈ wsX10_slips := by decide +kernel
theorem hd_X10_slips : yX10_slips.cls = RX10 ∧ yX10_slips.cls ≠ "java/lang/invoke/MethodHandle" ∧ yX10_slips.cls ≠ "java/lang/invoke/VarHandle" ∧ (parseMethodDescriptor yX10_slips.desc).map (fun d => d.parameters.length) = some 0 := by decide +kernel
noncomputable def P_X10_slips_b0 (σ : T2) : Int32 := (100000 : Int32) + (σ 1 24)
def S_X10_slips_b0 (σ : T2) : Prop := True
theorem P_X10_slips_b0_e (σ : T2) : P_X10_slips_b0 σ = (100000 : Int32) + (σ 1 24) := rfl
theorem S_X10_slips_b0_e (σ : T2) : S_X10_slips_b0 σ = (True) := rfl
noncomputable def P_X10_slips (σ : T2) : Int32 := P_X10_slips_b0 σ
def S_X10_slips (σ : T2) : Prop := S_X10_slips_b0 σ
set_option maxHeartbeats 400000 in
set_option maxRecDepth 100000 in
theorem b_X10_slips_b0 {p : Program} {e : Env} {s : State} {m : MethodId} {args : Array Value} {below : List Frame} {meth : Method} {c : Code} (l : Launch) (D : va_G) (k : Nat → ClassId) (a : Nat → Nat) (A : Nat → Prop) (C0 : q_C p s m meth c args RX10 cX10_slips 1 (some .int) wsX10_slips D (tyL k) A) (R : Int32) : ∀ (σ : T2), S_X10_slips_b0 σ → P_X10_slips_b0 σ = R → ∀ (H : Heap) (locs : List Loc) (ls : Array Slot), q_W D A s.heap (wX10 k a σ) s.heap [] → lv_has ls 1 [(0, .ref (a 0))] → W p l e { frames := 0, cells := 0, slots := 0, locals := 0 } s m args below meth c s.heap [] 0 0 (MQ below (vp_Si (fun r => r = R)) args s 0 0 (fun _ => False)) (F0 m 0 ls []) := by
  intro σ hs hR H locs ls hW hl
  rw [P_X10_slips_b0_e] at hR
  rw [S_X10_slips_b0_e] at hs
  obtain ⟨hx, hb, hr, hml, hts, hown, hlocks, hK, hA⟩ := id C0
  have hf7 := hts (.fieldLink RX10 7 "BeatFollowerModel" "at" "[I") (by decide +kernel)
  have hinX10 : ∀ w ∈ u_ws RX10 TX10 18, w ∈ wsX10_slips := hin_X10_slips_X10
  refine lv_ldc (v := (100000 : Int32)) hx hb hown (hts (.constant RX10 117 (100000 : Int32)) (by decide +kernel)) dX10_slips_0 ?_
  refine lv_aload_n hx hb dX10_slips_2 rfl (lv_at hl 0 rfl) ?_
  refine va_get (v := .ref (a 1)) (C := RX10) (T := TX10) (N := 18) hx hb hts hinX10 hown hK hW.1 0 rfl rfl 0 (by decide) hf7 (fun _ h9 => h9) rfl dX10_slips_3 ?_
  refine lv_bipush (v := (24 : Int32)) hx hb dX10_slips_6 (by decide) ?_
  refine q_iald (v := σ 1 24) C0 hW 1 rfl rfl vi_24_672 cl_24 rfl dX10_slips_8 ?_
  refine lv_iadd hx hb dX10_slips_9 ?_
  exact q_iretr C0 hR dX10_slips_10
set_option maxHeartbeats 400000 in
set_option maxRecDepth 100000 in
theorem m_X10_slips (l : Launch) (D : va_G) (k : Nat → ClassId) (a : Nat → Nat) (sz : Nat) (σ : T2) (hs : S_X10_slips σ) : Met l yX10_slips wsX10_slips { frames := 0, cells := 0, slots := 0, locals := 0 } (va_Pc [.ref (a 0)] (q_B D (tyL k) (wX10 k a σ) sz)) (vp_Si (fun r => r = P_X10_slips σ)) 0 0 (fun _ => False) := by
  refine q_met [.ref (a 0)] (wX10 k a σ) sz (cc := cX10_slips) (maxL := 1) (ret := (some .int)) (by decide) rfl (Nat.le_of_ble_eq_true rfl) ?_
  intro p e s m args below meth c ls hsz C0 hW hl hin
  subst hsz
  exact b_X10_slips_b0 l D k a _ C0 _ σ  hs rfl s.heap [] ls hW (lv_sub hl [0] rfl)
theorem hin_X10_nextBlow_X10 : ∀ w ∈ u_ws RX10 TX10 18, w ∈ wsX10_nextBlow := by decide +kernel
theorem hd_X10_nextBlow : yX10_nextBlow.cls = RX10 ∧ yX10_nextBlow.cls ≠ "java/lang/invoke/MethodHandle" ∧ yX10_nextBlow.cls ≠ "java/lang/invoke/VarHandle" ∧ (parseMethodDescriptor yX10_nextBlow.desc).map (fun d => d.parameters.length) = some 1 := by decide +kernel
noncomputable def P_X10_nextBlow_b69 (σ : T2) (v1 : Int32) : Int32 := (σ 1 11) + ((v1 - (1 : Int32)) * (σ 1 10))
def S_X10_nextBlow_b69 (σ : T2) (v1 : Int32) : Prop := True
theorem P_X10_nextBlow_b69_e (σ : T2) (v1 : Int32) : P_X10_nextBlow_b69 σ v1 = (σ 1 11) + ((v1 - (1 : Int32)) * (σ 1 10)) := rfl
theorem S_X10_nextBlow_b69_e (σ : T2) (v1 : Int32) : S_X10_nextBlow_b69 σ v1 = (True) := rfl
noncomputable def P_X10_nextBlow_b49 (σ : T2) (v1 : Int32) (t0 : Int32) : Int32 := if t0 = 0 then (if (σ 1 11) < 0 then ((-6 : Int32)) else (if v1 = (1 : Int32) then (P_X10_nextBlow_b69 σ v1) else ((-6 : Int32)))) else (P_X10_nextBlow_b69 σ v1)
def S_X10_nextBlow_b49 (σ : T2) (v1 : Int32) (t0 : Int32) : Prop := (t0 = 0 → (((σ 1 11) < 0 → (True)) ∧ (¬ ((σ 1 11) < 0) → ((v1 = (1 : Int32) → (S_X10_nextBlow_b69 σ v1)) ∧ (¬ (v1 = (1 : Int32)) → (True)))))) ∧ (¬ (t0 = 0) → (S_X10_nextBlow_b69 σ v1))
theorem P_X10_nextBlow_b49_e (σ : T2) (v1 : Int32) (t0 : Int32) : P_X10_nextBlow_b49 σ v1 t0 = if t0 = 0 then (if (σ 1 11) < 0 then ((-6 : Int32)) else (if v1 = (1 : Int32) then (P_X10_nextBlow_b69 σ v1) else ((-6 : Int32)))) else (P_X10_nextBlow_b69 σ v1) := rfl
theorem S_X10_nextBlow_b49_e (σ : T2) (v1 : Int32) (t0 : Int32) : S_X10_nextBlow_b49 σ v1 t0 = ((t0 = 0 → (((σ 1 11) < 0 → (True)) ∧ (¬ ((σ 1 11) < 0) → ((v1 = (1 : Int32) → (S_X10_nextBlow_b69 σ v1)) ∧ (¬ (v1 = (1 : Int32)) → (True)))))) ∧ (¬ (t0 = 0) → (S_X10_nextBlow_b69 σ v1))) := rfl
noncomputable def P_X10_nextBlow_b48 (σ : T2) (v1 : Int32) : Int32 := P_X10_nextBlow_b49 σ v1 (0 : Int32)
def S_X10_nextBlow_b48 (σ : T2) (v1 : Int32) : Prop := S_X10_nextBlow_b49 σ v1 (0 : Int32)
theorem P_X10_nextBlow_b48_e (σ : T2) (v1 : Int32) : P_X10_nextBlow_b48 σ v1 = P_X10_nextBlow_b49 σ v1 (0 : Int32) := rfl
theorem S_X10_nextBlow_b48_e (σ : T2) (v1 : Int32) : S_X10_nextBlow_b48 σ v1 = (S_X10_nextBlow_b49 σ v1 (0 : Int32)) := rfl
noncomputable def P_X10_nextBlow_b0 (σ : T2) (v1 : Int32) : Int32 := if (P_X10_in v1 (1 : Int32) (20 : Int32)) = 0 then ((-2 : Int32)) else (if (σ 1 11) < 0 then (P_X10_nextBlow_b48 σ v1) else (if (σ 1 7) ≤ (((σ 1 21) + v1) - (1 : Int32)) then (P_X10_nextBlow_b48 σ v1) else (P_X10_nextBlow_b49 σ v1 (1 : Int32))))
def S_X10_nextBlow_b0 (σ : T2) (v1 : Int32) : Prop := (S_X10_in v1 (1 : Int32) (20 : Int32)) ∧ (((P_X10_in v1 (1 : Int32) (20 : Int32)) = 0 → (True)) ∧ (¬ ((P_X10_in v1 (1 : Int32) (20 : Int32)) = 0) → (((σ 1 11) < 0 → (S_X10_nextBlow_b48 σ v1)) ∧ (¬ ((σ 1 11) < 0) → (((σ 1 7) ≤ (((σ 1 21) + v1) - (1 : Int32)) → (S_X10_nextBlow_b48 σ v1)) ∧ (¬ ((σ 1 7) ≤ (((σ 1 21) + v1) - (1 : Int32))) → (S_X10_nextBlow_b49 σ v1 (1 : Int32))))))))
theorem P_X10_nextBlow_b0_e (σ : T2) (v1 : Int32) : P_X10_nextBlow_b0 σ v1 = if (P_X10_in v1 (1 : Int32) (20 : Int32)) = 0 then ((-2 : Int32)) else (if (σ 1 11) < 0 then (P_X10_nextBlow_b48 σ v1) else (if (σ 1 7) ≤ (((σ 1 21) + v1) - (1 : Int32)) then (P_X10_nextBlow_b48 σ v1) else (P_X10_nextBlow_b49 σ v1 (1 : Int32)))) := rfl
theorem S_X10_nextBlow_b0_e (σ : T2) (v1 : Int32) : S_X10_nextBlow_b0 σ v1 = ((S_X10_in v1 (1 : Int32) (20 : Int32)) ∧ (((P_X10_in v1 (1 : Int32) (20 : Int32)) = 0 → (True)) ∧ (¬ ((P_X10_in v1 (1 : Int32) (20 : Int32)) = 0) → (((σ 1 11) < 0 → (S_X10_nextBlow_b48 σ v1)) ∧ (¬ ((σ 1 11) < 0) → (((σ 1 7) ≤ (((σ 1 21) + v1) - (1 : Int32)) → (S_X10_nextBlow_b48 σ v1)) ∧ (¬ ((σ 1 7) ≤ (((σ 1 21) + v1) - (1 : Int32))) → (S_X10_nextBlow_b49 σ v1 (1 : Int32))))))))) := rfl
noncomputable def P_X10_nextBlow (σ : T2) (p0 : Int32) : Int32 := P_X10_nextBlow_b0 σ p0
def S_X10_nextBlow (σ : T2) (p0 : Int32) : Prop := S_X10_nextBlow_b0 σ p0
set_option maxHeartbeats 400000 in
set_option maxRecDepth 100000 in
theorem b_X10_nextBlow_b69 {p : Program} {e : Env} {s : State} {m : MethodId} {args : Array Value} {below : List Frame} {meth : Method} {c : Code} (l : Launch) (D : va_G) (k : Nat → ClassId) (a : Nat → Nat) (A : Nat → Prop) (C0 : q_C p s m meth c args RX10 cX10_nextBlow 3 (some .int) wsX10_nextBlow D (tyL k) A) (R : Int32) : ∀ (σ : T2) (v1 : Int32), S_X10_nextBlow_b69 σ v1 → P_X10_nextBlow_b69 σ v1 = R → ∀ (H : Heap) (locs : List Loc) (ls : Array Slot), q_W D A s.heap (wX10 k a σ) s.heap [] → lv_has ls 3 [(0, .ref (a 0)), (1, .int v1)] → W p l e { frames := 1, cells := 0, slots := 0, locals := 22 } s m args below meth c s.heap [] 0 0 (MQ below (vp_Si (fun r => r = R)) args s 0 0 (fun _ => False)) (F0 m 69 ls []) := by
  intro σ v1 hs hR H locs ls hW hl
  rw [P_X10_nextBlow_b69_e] at hR
  rw [S_X10_nextBlow_b69_e] at hs
  obtain ⟨hx, hb, hr, hml, hts, hown, hlocks, hK, hA⟩ := id C0
  have hf7 := hts (.fieldLink RX10 7 "BeatFollowerModel" "at" "[I") (by decide +kernel)
  have hinX10 : ∀ w ∈ u_ws RX10 TX10 18, w ∈ wsX10_nextBlow := hin_X10_nextBlow_X10
  refine lv_aload_n hx hb dX10_nextBlow_69 rfl (lv_at hl 0 rfl) ?_
  refine va_get (v := .ref (a 1)) (C := RX10) (T := TX10) (N := 18) hx hb hts hinX10 hown hK hW.1 0 rfl rfl 0 (by decide) hf7 (fun _ h9 => h9) rfl dX10_nextBlow_70 ?_
  refine lv_bipush (v := (11 : Int32)) hx hb dX10_nextBlow_73 (by decide) ?_
  refine q_iald (v := σ 1 11) C0 hW 1 rfl rfl vi_11_672 cl_11 rfl dX10_nextBlow_75 ?_
  refine lv_iload_n hx hb dX10_nextBlow_76 rfl (lv_at hl 1 rfl) ?_
  refine lv_iconst (v := (1 : Int32)) hx hb dX10_nextBlow_77 (by decide) ?_
  refine lv_isub hx hb dX10_nextBlow_78 ?_
  refine lv_aload_n hx hb dX10_nextBlow_79 rfl (lv_at hl 0 rfl) ?_
  refine va_get (v := .ref (a 1)) (C := RX10) (T := TX10) (N := 18) hx hb hts hinX10 hown hK hW.1 0 rfl rfl 0 (by decide) hf7 (fun _ h9 => h9) rfl dX10_nextBlow_80 ?_
  refine lv_bipush (v := (10 : Int32)) hx hb dX10_nextBlow_83 (by decide) ?_
  refine q_iald (v := σ 1 10) C0 hW 1 rfl rfl vi_10_672 cl_10 rfl dX10_nextBlow_85 ?_
  refine lv_imul hx hb dX10_nextBlow_86 ?_
  refine lv_iadd hx hb dX10_nextBlow_87 ?_
  refine lv_goto (tgt := 93) hx hb dX10_nextBlow_88 (by decide) ?_
  exact q_iretr C0 hR dX10_nextBlow_93
set_option maxHeartbeats 400000 in
set_option maxRecDepth 100000 in
theorem b_X10_nextBlow_b49 {p : Program} {e : Env} {s : State} {m : MethodId} {args : Array Value} {below : List Frame} {meth : Method} {c : Code} (l : Launch) (D : va_G) (k : Nat → ClassId) (a : Nat → Nat) (A : Nat → Prop) (C0 : q_C p s m meth c args RX10 cX10_nextBlow 3 (some .int) wsX10_nextBlow D (tyL k) A) (R : Int32) : ∀ (σ : T2) (v1 : Int32) (t0 : Int32), S_X10_nextBlow_b49 σ v1 t0 → P_X10_nextBlow_b49 σ v1 t0 = R → ∀ (H : Heap) (locs : List Loc) (ls : Array Slot), q_W D A s.heap (wX10 k a σ) s.heap [] → lv_has ls 3 [(0, .ref (a 0)), (1, .int v1)] → W p l e { frames := 1, cells := 0, slots := 0, locals := 22 } s m args below meth c s.heap [] 0 0 (MQ below (vp_Si (fun r => r = R)) args s 0 0 (fun _ => False)) (F0 m 49 ls [.int t0]) := by
  intro σ v1 t0 hs hR H locs ls hW hl
  rw [P_X10_nextBlow_b49_e] at hR
  rw [S_X10_nextBlow_b49_e] at hs
  obtain ⟨hx, hb, hr, hml, hts, hown, hlocks, hK, hA⟩ := id C0
  have hf7 := hts (.fieldLink RX10 7 "BeatFollowerModel" "at" "[I") (by decide +kernel)
  have hinX10 : ∀ w ∈ u_ws RX10 TX10 18, w ∈ wsX10_nextBlow := hin_X10_nextBlow_X10
  refine lv_istore_n (lv' := [(2, .int t0), (0, .ref (a 0)), (1, .int v1)]) hx hb dX10_nextBlow_49 rfl hl (by decide) rfl (fun ls hl => ?_)
  refine lv_iload_n hx hb dX10_nextBlow_50 rfl (lv_at hl 0 rfl) ?_
  refine lv_if_ne (tgt := 69) hx hb dX10_nextBlow_51 (by decide) (fun c_4 => ?_) (fun c_4 => ?_)
  · have hs := hs.2 c_4
    rw [if_neg c_4] at hR
    exact b_X10_nextBlow_b69 l D k a A C0 R σ v1 hs hR H locs ls hW (lv_sub hl [1, 2] rfl)
  · have hs := hs.1 c_4
    rw [if_pos c_4] at hR
    refine lv_aload_n hx hb dX10_nextBlow_54 rfl (lv_at hl 1 rfl) ?_
    refine va_get (v := .ref (a 1)) (C := RX10) (T := TX10) (N := 18) hx hb hts hinX10 hown hK hW.1 0 rfl rfl 0 (by decide) hf7 (fun _ h9 => h9) rfl dX10_nextBlow_55 ?_
    refine lv_bipush (v := (11 : Int32)) hx hb dX10_nextBlow_58 (by decide) ?_
    refine q_iald (v := σ 1 11) C0 hW 1 rfl rfl vi_11_672 cl_11 rfl dX10_nextBlow_60 ?_
    refine lv_if_lt (tgt := 91) hx hb dX10_nextBlow_61 (by decide) (fun c_5 => ?_) (fun c_5 => ?_)
    · have hs := hs.1 c_5
      rw [if_pos c_5] at hR
      refine lv_bipush (v := (-6 : Int32)) hx hb dX10_nextBlow_91 (by decide) ?_
      exact q_iretr C0 hR dX10_nextBlow_93
    · have hs := hs.2 c_5
      rw [if_neg c_5] at hR
      refine lv_iload_n hx hb dX10_nextBlow_64 rfl (lv_at hl 2 rfl) ?_
      refine lv_iconst (v := (1 : Int32)) hx hb dX10_nextBlow_65 (by decide) ?_
      refine lv_icmp_ne (tgt := 91) hx hb dX10_nextBlow_66 (by decide) (fun c_6 => ?_) (fun c_6 => ?_)
      · have hs := hs.2 c_6
        rw [if_neg c_6] at hR
        refine lv_bipush (v := (-6 : Int32)) hx hb dX10_nextBlow_91 (by decide) ?_
        exact q_iretr C0 hR dX10_nextBlow_93
      · have hs := hs.1 c_6
        rw [if_pos c_6] at hR
        exact b_X10_nextBlow_b69 l D k a A C0 R σ v1 hs hR H locs ls hW (lv_sub hl [1, 2] rfl)
set_option maxHeartbeats 400000 in
set_option maxRecDepth 100000 in
theorem b_X10_nextBlow_b48 {p : Program} {e : Env} {s : State} {m : MethodId} {args : Array Value} {below : List Frame} {meth : Method} {c : Code} (l : Launch) (D : va_G) (k : Nat → ClassId) (a : Nat → Nat) (A : Nat → Prop) (C0 : q_C p s m meth c args RX10 cX10_nextBlow 3 (some .int) wsX10_nextBlow D (tyL k) A) (R : Int32) : ∀ (σ : T2) (v1 : Int32), S_X10_nextBlow_b48 σ v1 → P_X10_nextBlow_b48 σ v1 = R → ∀ (H : Heap) (locs : List Loc) (ls : Array Slot), q_W D A s.heap (wX10 k a σ) s.heap [] → lv_has ls 3 [(0, .ref (a 0)), (1, .int v1)] → W p l e { frames := 1, cells := 0, slots := 0, locals := 22 } s m args below meth c s.heap [] 0 0 (MQ below (vp_Si (fun r => r = R)) args s 0 0 (fun _ => False)) (F0 m 48 ls []) := by
  intro σ v1 hs hR H locs ls hW hl
  rw [P_X10_nextBlow_b48_e] at hR
  rw [S_X10_nextBlow_b48_e] at hs
  obtain ⟨hx, hb, hr, hml, hts, hown, hlocks, hK, hA⟩ := id C0
  refine lv_iconst (v := (0 : Int32)) hx hb dX10_nextBlow_48 (by decide) ?_
  exact b_X10_nextBlow_b49 l D k a A C0 R σ v1 (0 : Int32) hs hR H locs ls hW (lv_sub hl [0, 1] rfl)
set_option maxHeartbeats 400000 in
set_option maxRecDepth 100000 in
theorem b_X10_nextBlow_b0 {p : Program} {e : Env} {s : State} {m : MethodId} {args : Array Value} {below : List Frame} {meth : Method} {c : Code} (l : Launch) (D : va_G) (k : Nat → ClassId) (a : Nat → Nat) (A : Nat → Prop) (C0 : q_C p s m meth c args RX10 cX10_nextBlow 3 (some .int) wsX10_nextBlow D (tyL k) A) (R : Int32) : ∀ (σ : T2) (v1 : Int32), S_X10_nextBlow_b0 σ v1 → P_X10_nextBlow_b0 σ v1 = R → ∀ (H : Heap) (locs : List Loc) (ls : Array Slot), q_W D A s.heap (wX10 k a σ) s.heap [] → lv_has ls 3 [(0, .ref (a 0)), (1, .int v1)] → W p l e { frames := 1, cells := 0, slots := 0, locals := 22 } s m args below meth c s.heap [] 0 0 (MQ below (vp_Si (fun r => r = R)) args s 0 0 (fun _ => False)) (F0 m 0 ls []) := by
  intro σ v1 hs hR H locs ls hW hl
  rw [P_X10_nextBlow_b0_e] at hR
  rw [S_X10_nextBlow_b0_e] at hs
  obtain ⟨hx, hb, hr, hml, hts, hown, hlocks, hK, hA⟩ := id C0
  have hf7 := hts (.fieldLink RX10 7 "BeatFollowerModel" "at" "[I") (by decide +kernel)
  have hinX10 : ∀ w ∈ u_ws RX10 TX10 18, w ∈ wsX10_nextBlow := hin_X10_nextBlow_X10
  refine lv_iload_n hx hb dX10_nextBlow_0 rfl (lv_at hl 1 rfl) ?_
  refine lv_iconst (v := (1 : Int32)) hx hb dX10_nextBlow_1 (by decide) ?_
  refine lv_bipush (v := (20 : Int32)) hx hb dX10_nextBlow_2 (by decide) ?_
  have hs1 := hs.1
  have hs := hs.2
  refine q_Si (As := [.int v1, .int (1 : Int32), .int (20 : Int32)]) (rest := []) (R := P_X10_in v1 (1 : Int32) (20 : Int32)) ⟨hx, hb, hml, hown, hts⟩ (m_X10_in l v1 (1 : Int32) (20 : Int32) hs1) (va_cwS 3 hts gX10_nextBlow_X10_in rfl rfl rfl hd_X10_in ⟨Nat.le_of_ble_eq_true rfl, Nat.le_of_ble_eq_true rfl⟩) hl rfl rfl (Nat.le_of_ble_eq_true rfl) dX10_nextBlow_4 ⟨Nat.le_refl 0, Nat.le_refl 0⟩ ?_
  refine lv_if_ne (tgt := 13) hx hb dX10_nextBlow_7 (by decide) (fun c_2 => ?_) (fun c_2 => ?_)
  · have hs := hs.2 c_2
    rw [if_neg c_2] at hR
    refine lv_aload_n hx hb dX10_nextBlow_13 rfl (lv_at hl 0 rfl) ?_
    refine va_get (v := .ref (a 1)) (C := RX10) (T := TX10) (N := 18) hx hb hts hinX10 hown hK hW.1 0 rfl rfl 0 (by decide) hf7 (fun _ h9 => h9) rfl dX10_nextBlow_14 ?_
    refine lv_bipush (v := (11 : Int32)) hx hb dX10_nextBlow_17 (by decide) ?_
    refine q_iald (v := σ 1 11) C0 hW 1 rfl rfl vi_11_672 cl_11 rfl dX10_nextBlow_19 ?_
    refine lv_if_lt (tgt := 48) hx hb dX10_nextBlow_20 (by decide) (fun c_3 => ?_) (fun c_3 => ?_)
    · have hs := hs.1 c_3
      rw [if_pos c_3] at hR
      exact b_X10_nextBlow_b48 l D k a A C0 R σ v1 hs hR H locs ls hW (lv_sub hl [0, 1] rfl)
    · have hs := hs.2 c_3
      rw [if_neg c_3] at hR
      refine lv_aload_n hx hb dX10_nextBlow_23 rfl (lv_at hl 0 rfl) ?_
      refine va_get (v := .ref (a 1)) (C := RX10) (T := TX10) (N := 18) hx hb hts hinX10 hown hK hW.1 0 rfl rfl 0 (by decide) hf7 (fun _ h9 => h9) rfl dX10_nextBlow_24 ?_
      refine lv_bipush (v := (21 : Int32)) hx hb dX10_nextBlow_27 (by decide) ?_
      refine q_iald (v := σ 1 21) C0 hW 1 rfl rfl vi_21_672 cl_21 rfl dX10_nextBlow_29 ?_
      refine lv_iload_n hx hb dX10_nextBlow_30 rfl (lv_at hl 1 rfl) ?_
      refine lv_iadd hx hb dX10_nextBlow_31 ?_
      refine lv_iconst (v := (1 : Int32)) hx hb dX10_nextBlow_32 (by decide) ?_
      refine lv_isub hx hb dX10_nextBlow_33 ?_
      refine lv_aload_n hx hb dX10_nextBlow_34 rfl (lv_at hl 0 rfl) ?_
      refine va_get (v := .ref (a 1)) (C := RX10) (T := TX10) (N := 18) hx hb hts hinX10 hown hK hW.1 0 rfl rfl 0 (by decide) hf7 (fun _ h9 => h9) rfl dX10_nextBlow_35 ?_
      refine lv_bipush (v := (7 : Int32)) hx hb dX10_nextBlow_38 (by decide) ?_
      refine q_iald (v := σ 1 7) C0 hW 1 rfl rfl vi_7_672 cl_7 rfl dX10_nextBlow_40 ?_
      refine lv_icmp_ge (tgt := 48) hx hb dX10_nextBlow_41 (by decide) (fun c_7 => ?_) (fun c_7 => ?_)
      · have hs := hs.1 c_7
        rw [if_pos c_7] at hR
        exact b_X10_nextBlow_b48 l D k a A C0 R σ v1 hs hR H locs ls hW (lv_sub hl [0, 1] rfl)
      · have hs := hs.2 c_7
        rw [if_neg c_7] at hR
        refine lv_iconst (v := (1 : Int32)) hx hb dX10_nextBlow_44 (by decide) ?_
        refine lv_goto (tgt := 49) hx hb dX10_nextBlow_45 (by decide) ?_
        exact b_X10_nextBlow_b49 l D k a A C0 R σ v1 (1 : Int32) hs hR H locs ls hW (lv_sub hl [0, 1] rfl)
  · have hs := hs.1 c_2
    rw [if_pos c_2] at hR
    refine lv_bipush (v := (-2 : Int32)) hx hb dX10_nextBlow_10 (by decide) ?_
    exact q_iretr C0 hR dX10_nextBlow_12
set_option maxHeartbeats 400000 in
set_option maxRecDepth 100000 in
theorem m_X10_nextBlow (l : Launch) (D : va_G) (k : Nat → ClassId) (a : Nat → Nat) (sz : Nat) (σ : T2) (p0 : Int32) (hs : S_X10_nextBlow σ p0) : Met l yX10_nextBlow wsX10_nextBlow { frames := 1, cells := 0, slots := 0, locals := 22 } (va_Pc [.ref (a 0), .int p0] (q_B D (tyL k) (wX10 k a σ) sz)) (vp_Si (fun r => r = P_X10_nextBlow σ p0)) 0 0 (fun _ => False) := by
  refine q_met [.ref (a 0), .int p0] (wX10 k a σ) sz (cc := cX10_nextBlow) (maxL := 3) (ret := (some .int)) (by decide) rfl (Nat.le_of_ble_eq_true rfl) ?_
  intro p e s m args below meth c ls hsz C0 hW hl hin
  subst hsz
  exact b_X10_nextBlow_b0 l D k a _ C0 _ σ p0 hs rfl s.heap [] ls hW (lv_sub hl [0, 1] rfl)
theorem hin_X10_ifHeard_X10 : ∀ w ∈ u_ws RX10 TX10 18, w ∈ wsX10_ifHeard := by decide +kernel
theorem hd_X10_ifHeard : yX10_ifHeard.cls = RX10 ∧ yX10_ifHeard.cls ≠ "java/lang/invoke/MethodHandle" ∧ yX10_ifHeard.cls ≠ "java/lang/invoke/VarHandle" ∧ (parseMethodDescriptor yX10_ifHeard.desc).map (fun d => d.parameters.length) = some 1 := by decide +kernel
noncomputable def P_X10_ifHeard_b71 (σ : T2) (t0 : Int32) : Int32 × T2 := (t0, P_X10_layBack σ)
def S_X10_ifHeard_b71 (σ : T2) (t0 : Int32) : Prop := (S_X10_layBack σ ) ∧ (True)
theorem P_X10_ifHeard_b71_e (σ : T2) (t0 : Int32) : P_X10_ifHeard_b71 σ t0 = (t0, P_X10_layBack σ) := rfl
theorem S_X10_ifHeard_b71_e (σ : T2) (t0 : Int32) : S_X10_ifHeard_b71 σ t0 = ((S_X10_layBack σ ) ∧ (True)) := rfl
noncomputable def P_X10_ifHeard_b35c (σ : T2) (v2 : Int32) : Int32 × T2 := if 0 ≤ (σ 1 11) then (if (-(P_X10_halfWindow σ)) ≤ (v2 - (σ 1 11)) then (P_X10_ifHeard_b71 σ (2 : Int32)) else (P_X10_ifHeard_b71 σ (1 : Int32))) else (P_X10_ifHeard_b71 σ (3 : Int32))
def S_X10_ifHeard_b35c (σ : T2) (v2 : Int32) : Prop := (0 ≤ (σ 1 11) → ((S_X10_halfWindow σ ) ∧ (((-(P_X10_halfWindow σ)) ≤ (v2 - (σ 1 11)) → (S_X10_ifHeard_b71 σ (2 : Int32))) ∧ (¬ ((-(P_X10_halfWindow σ)) ≤ (v2 - (σ 1 11))) → (S_X10_ifHeard_b71 σ (1 : Int32)))))) ∧ (¬ (0 ≤ (σ 1 11)) → (S_X10_ifHeard_b71 σ (3 : Int32)))
theorem P_X10_ifHeard_b35c_e (σ : T2) (v2 : Int32) : P_X10_ifHeard_b35c σ v2 = if 0 ≤ (σ 1 11) then (if (-(P_X10_halfWindow σ)) ≤ (v2 - (σ 1 11)) then (P_X10_ifHeard_b71 σ (2 : Int32)) else (P_X10_ifHeard_b71 σ (1 : Int32))) else (P_X10_ifHeard_b71 σ (3 : Int32)) := rfl
theorem S_X10_ifHeard_b35c_e (σ : T2) (v2 : Int32) : S_X10_ifHeard_b35c σ v2 = ((0 ≤ (σ 1 11) → ((S_X10_halfWindow σ ) ∧ (((-(P_X10_halfWindow σ)) ≤ (v2 - (σ 1 11)) → (S_X10_ifHeard_b71 σ (2 : Int32))) ∧ (¬ ((-(P_X10_halfWindow σ)) ≤ (v2 - (σ 1 11))) → (S_X10_ifHeard_b71 σ (1 : Int32)))))) ∧ (¬ (0 ≤ (σ 1 11)) → (S_X10_ifHeard_b71 σ (3 : Int32)))) := rfl
noncomputable def P_X10_ifHeard_b18c (σ : T2) (v1 : Int32) : Int32 × T2 := P_X10_ifHeard_b35c (P_X10_holdUpTo σ ((4 : Int32) * ((σ 1 8) + v1))) ((4 : Int32) * ((σ 1 8) + v1))
def S_X10_ifHeard_b18c (σ : T2) (v1 : Int32) : Prop := (S_X10_holdUpTo σ ((4 : Int32) * ((σ 1 8) + v1))) ∧ (S_X10_ifHeard_b35c (P_X10_holdUpTo σ ((4 : Int32) * ((σ 1 8) + v1))) ((4 : Int32) * ((σ 1 8) + v1)))
theorem P_X10_ifHeard_b18c_e (σ : T2) (v1 : Int32) : P_X10_ifHeard_b18c σ v1 = P_X10_ifHeard_b35c (P_X10_holdUpTo σ ((4 : Int32) * ((σ 1 8) + v1))) ((4 : Int32) * ((σ 1 8) + v1)) := rfl
theorem S_X10_ifHeard_b18c_e (σ : T2) (v1 : Int32) : S_X10_ifHeard_b18c σ v1 = ((S_X10_holdUpTo σ ((4 : Int32) * ((σ 1 8) + v1))) ∧ (S_X10_ifHeard_b35c (P_X10_holdUpTo σ ((4 : Int32) * ((σ 1 8) + v1))) ((4 : Int32) * ((σ 1 8) + v1)))) := rfl
noncomputable def P_X10_ifHeard_b0 (σ : T2) (v1 : Int32) : Int32 × T2 := if (P_X10_in v1 (1 : Int32) (9999 : Int32)) = 0 then (((-2 : Int32), σ)) else (P_X10_ifHeard_b18c (P_X10_layAside σ) v1)
def S_X10_ifHeard_b0 (σ : T2) (v1 : Int32) : Prop := (S_X10_in v1 (1 : Int32) (9999 : Int32)) ∧ (((P_X10_in v1 (1 : Int32) (9999 : Int32)) = 0 → (True)) ∧ (¬ ((P_X10_in v1 (1 : Int32) (9999 : Int32)) = 0) → ((S_X10_layAside σ ) ∧ (S_X10_ifHeard_b18c (P_X10_layAside σ) v1))))
theorem P_X10_ifHeard_b0_e (σ : T2) (v1 : Int32) : P_X10_ifHeard_b0 σ v1 = if (P_X10_in v1 (1 : Int32) (9999 : Int32)) = 0 then (((-2 : Int32), σ)) else (P_X10_ifHeard_b18c (P_X10_layAside σ) v1) := rfl
theorem S_X10_ifHeard_b0_e (σ : T2) (v1 : Int32) : S_X10_ifHeard_b0 σ v1 = ((S_X10_in v1 (1 : Int32) (9999 : Int32)) ∧ (((P_X10_in v1 (1 : Int32) (9999 : Int32)) = 0 → (True)) ∧ (¬ ((P_X10_in v1 (1 : Int32) (9999 : Int32)) = 0) → ((S_X10_layAside σ ) ∧ (S_X10_ifHeard_b18c (P_X10_layAside σ) v1))))) := rfl
noncomputable def P_X10_ifHeard (σ : T2) (p0 : Int32) : Int32 × T2 := P_X10_ifHeard_b0 σ p0
def S_X10_ifHeard (σ : T2) (p0 : Int32) : Prop := S_X10_ifHeard_b0 σ p0
set_option maxHeartbeats 400000 in
set_option maxRecDepth 100000 in
theorem b_X10_ifHeard_b71 {p : Program} {e : Env} {s : State} {m : MethodId} {args : Array Value} {below : List Frame} {meth : Method} {c : Code} (l : Launch) (D : va_G) (k : Nat → ClassId) (a : Nat → Nat) (A : Nat → Prop) (C0 : q_C p s m meth c args RX10 cX10_ifHeard 4 (some .int) wsX10_ifHeard D (tyL k) A) (R : Int32 × T2) : ∀ (σ : T2) (t0 : Int32), S_X10_ifHeard_b71 σ t0 → P_X10_ifHeard_b71 σ t0 = R → ∀ (H : Heap) (locs : List Loc) (ls : Array Slot), q_W D A s.heap (wX10 k a σ) H locs → lv_has ls 4 [(0, .ref (a 0))] → W p l e { frames := 4, cells := 0, slots := 0, locals := 83 } s m args below meth c H locs 0 0 (MQ below (va_Qi (fun r u => (r, u) = R) (fun u => q_E D (tyL k) A (wX10 k a u)) A) args s 0 0 A) (F0 m 71 ls [.int t0]) := by
  intro σ t0 hs hR H locs ls hW hl
  rw [P_X10_ifHeard_b71_e] at hR
  rw [S_X10_ifHeard_b71_e] at hs
  obtain ⟨hx, hb, hr, hml, hts, hown, hlocks, hK, hA⟩ := id C0
  refine lv_istore_n (lv' := [(3, .int t0), (0, .ref (a 0))]) hx hb dX10_ifHeard_71 rfl hl (by decide) rfl (fun ls hl => ?_)
  refine lv_aload_n hx hb dX10_ifHeard_72 rfl (lv_at hl 1 rfl) ?_
  have hs8 := hs.1
  have hs := hs.2
  refine q_Vv (As := []) (rest := []) (wf := wX10 k a) (R := P_X10_layBack σ) (wd' := wX10 k a (P_X10_layBack σ)) [0, 1, 2, 3, 4, 5, 6, 7, 8] [0, 1, 2, 3] 0 10 C0 hW (m_X10_layBack l D k a H.size σ  hs8) (cwV 0 hts gX10_ifHeard_X10_layBack rfl rfl rfl hd_X10_layBack ⟨Nat.le_of_ble_eq_true rfl, Nat.le_of_ble_eq_true rfl⟩) (by decide) (wX10_pl k a _) rfl (wX10_rec k a _) rfl (wX10_fst k a _ _) (wX10_put k a _ _) hl rfl rfl (Nat.le_of_ble_eq_true rfl) dX10_ifHeard_73 ⟨Nat.le_refl 0, Nat.le_refl 0⟩ (fun H locs hW => ?_)
  refine lv_iload_n hx hb dX10_ifHeard_76 rfl (lv_at hl 0 rfl) ?_
  exact q_iret C0 hW hR dX10_ifHeard_77
set_option maxHeartbeats 400000 in
set_option maxRecDepth 100000 in
theorem b_X10_ifHeard_b35c {p : Program} {e : Env} {s : State} {m : MethodId} {args : Array Value} {below : List Frame} {meth : Method} {c : Code} (l : Launch) (D : va_G) (k : Nat → ClassId) (a : Nat → Nat) (A : Nat → Prop) (C0 : q_C p s m meth c args RX10 cX10_ifHeard 4 (some .int) wsX10_ifHeard D (tyL k) A) (R : Int32 × T2) : ∀ (σ : T2) (v2 : Int32), S_X10_ifHeard_b35c σ v2 → P_X10_ifHeard_b35c σ v2 = R → ∀ (H : Heap) (locs : List Loc) (ls : Array Slot), q_W D A s.heap (wX10 k a σ) H locs → lv_has ls 4 [(0, .ref (a 0)), (2, .int v2)] → W p l e { frames := 4, cells := 0, slots := 0, locals := 83 } s m args below meth c H locs 0 0 (MQ below (va_Qi (fun r u => (r, u) = R) (fun u => q_E D (tyL k) A (wX10 k a u)) A) args s 0 0 A) (F0 m 35 ls []) := by
  intro σ v2 hs hR H locs ls hW hl
  rw [P_X10_ifHeard_b35c_e] at hR
  rw [S_X10_ifHeard_b35c_e] at hs
  obtain ⟨hx, hb, hr, hml, hts, hown, hlocks, hK, hA⟩ := id C0
  have hf7 := hts (.fieldLink RX10 7 "BeatFollowerModel" "at" "[I") (by decide +kernel)
  have hinX10 : ∀ w ∈ u_ws RX10 TX10 18, w ∈ wsX10_ifHeard := hin_X10_ifHeard_X10
  refine lv_aload_n hx hb dX10_ifHeard_35 rfl (lv_at hl 0 rfl) ?_
  refine va_get (v := .ref (a 1)) (C := RX10) (T := TX10) (N := 18) hx hb hts hinX10 hown hK hW.1 0 rfl rfl 0 (by decide) hf7 (fun _ h9 => h9) rfl dX10_ifHeard_36 ?_
  refine lv_bipush (v := (11 : Int32)) hx hb dX10_ifHeard_39 (by decide) ?_
  refine q_iald (v := σ 1 11) C0 hW 1 rfl rfl vi_11_672 cl_11 rfl dX10_ifHeard_41 ?_
  refine lv_if_ge (tgt := 49) hx hb dX10_ifHeard_42 (by decide) (fun c_5 => ?_) (fun c_5 => ?_)
  · have hs := hs.1 c_5
    rw [if_pos c_5] at hR
    refine lv_iload_n hx hb dX10_ifHeard_49 rfl (lv_at hl 1 rfl) ?_
    refine lv_aload_n hx hb dX10_ifHeard_50 rfl (lv_at hl 0 rfl) ?_
    refine va_get (v := .ref (a 1)) (C := RX10) (T := TX10) (N := 18) hx hb hts hinX10 hown hK hW.1 0 rfl rfl 0 (by decide) hf7 (fun _ h9 => h9) rfl dX10_ifHeard_51 ?_
    refine lv_bipush (v := (11 : Int32)) hx hb dX10_ifHeard_54 (by decide) ?_
    refine q_iald (v := σ 1 11) C0 hW 1 rfl rfl vi_11_672 cl_11 rfl dX10_ifHeard_56 ?_
    refine lv_isub hx hb dX10_ifHeard_57 ?_
    refine lv_aload_n hx hb dX10_ifHeard_58 rfl (lv_at hl 0 rfl) ?_
    have hs6 := hs.1
    have hs := hs.2
    refine q_Vi (As := []) (rest := [.int (v2 - (σ 1 11))]) (R := P_X10_halfWindow σ) [0, 1, 2, 3, 4, 5, 6, 7, 8] [0, 1, 2, 3] 0 10 C0 hW (m_X10_halfWindow l D k a _ σ  hs6) (cwV 0 hts gX10_ifHeard_X10_halfWindow rfl rfl rfl hd_X10_halfWindow ⟨Nat.le_of_ble_eq_true rfl, Nat.le_of_ble_eq_true rfl⟩) (by decide) (wX10_pl k a _) rfl (wX10_rec k a _) rfl hl rfl rfl (Nat.le_of_ble_eq_true rfl) dX10_ifHeard_59 ⟨Nat.le_refl 0, Nat.le_refl 0⟩ ?_
    refine lv_ineg hx hb dX10_ifHeard_62 ?_
    refine lv_icmp_ge (tgt := 70) hx hb dX10_ifHeard_63 (by decide) (fun c_7 => ?_) (fun c_7 => ?_)
    · have hs := hs.1 c_7
      rw [if_pos c_7] at hR
      refine lv_iconst (v := (2 : Int32)) hx hb dX10_ifHeard_70 (by decide) ?_
      exact b_X10_ifHeard_b71 l D k a A C0 R σ (2 : Int32) hs hR H locs ls hW (lv_sub hl [0] rfl)
    · have hs := hs.2 c_7
      rw [if_neg c_7] at hR
      refine lv_iconst (v := (1 : Int32)) hx hb dX10_ifHeard_66 (by decide) ?_
      refine lv_goto (tgt := 71) hx hb dX10_ifHeard_67 (by decide) ?_
      exact b_X10_ifHeard_b71 l D k a A C0 R σ (1 : Int32) hs hR H locs ls hW (lv_sub hl [0] rfl)
  · have hs := hs.2 c_5
    rw [if_neg c_5] at hR
    refine lv_iconst (v := (3 : Int32)) hx hb dX10_ifHeard_45 (by decide) ?_
    refine lv_goto (tgt := 71) hx hb dX10_ifHeard_46 (by decide) ?_
    exact b_X10_ifHeard_b71 l D k a A C0 R σ (3 : Int32) hs hR H locs ls hW (lv_sub hl [0] rfl)
set_option maxHeartbeats 400000 in
set_option maxRecDepth 100000 in
theorem b_X10_ifHeard_b18c {p : Program} {e : Env} {s : State} {m : MethodId} {args : Array Value} {below : List Frame} {meth : Method} {c : Code} (l : Launch) (D : va_G) (k : Nat → ClassId) (a : Nat → Nat) (A : Nat → Prop) (C0 : q_C p s m meth c args RX10 cX10_ifHeard 4 (some .int) wsX10_ifHeard D (tyL k) A) (R : Int32 × T2) : ∀ (σ : T2) (v1 : Int32), S_X10_ifHeard_b18c σ v1 → P_X10_ifHeard_b18c σ v1 = R → ∀ (H : Heap) (locs : List Loc) (ls : Array Slot), q_W D A s.heap (wX10 k a σ) H locs → lv_has ls 4 [(0, .ref (a 0)), (1, .int v1)] → W p l e { frames := 4, cells := 0, slots := 0, locals := 83 } s m args below meth c H locs 0 0 (MQ below (va_Qi (fun r u => (r, u) = R) (fun u => q_E D (tyL k) A (wX10 k a u)) A) args s 0 0 A) (F0 m 18 ls []) := by
  intro σ v1 hs hR H locs ls hW hl
  rw [P_X10_ifHeard_b18c_e] at hR
  rw [S_X10_ifHeard_b18c_e] at hs
  obtain ⟨hx, hb, hr, hml, hts, hown, hlocks, hK, hA⟩ := id C0
  have hf7 := hts (.fieldLink RX10 7 "BeatFollowerModel" "at" "[I") (by decide +kernel)
  have hinX10 : ∀ w ∈ u_ws RX10 TX10 18, w ∈ wsX10_ifHeard := hin_X10_ifHeard_X10
  refine lv_iconst (v := (4 : Int32)) hx hb dX10_ifHeard_18 (by decide) ?_
  refine lv_aload_n hx hb dX10_ifHeard_19 rfl (lv_at hl 0 rfl) ?_
  refine va_get (v := .ref (a 1)) (C := RX10) (T := TX10) (N := 18) hx hb hts hinX10 hown hK hW.1 0 rfl rfl 0 (by decide) hf7 (fun _ h9 => h9) rfl dX10_ifHeard_20 ?_
  refine lv_bipush (v := (8 : Int32)) hx hb dX10_ifHeard_23 (by decide) ?_
  refine q_iald (v := σ 1 8) C0 hW 1 rfl rfl vi_8_672 cl_8 rfl dX10_ifHeard_25 ?_
  refine lv_iload_n hx hb dX10_ifHeard_26 rfl (lv_at hl 1 rfl) ?_
  refine lv_iadd hx hb dX10_ifHeard_27 ?_
  refine lv_imul hx hb dX10_ifHeard_28 ?_
  refine lv_istore_n (lv' := [(2, .int ((4 : Int32) * ((σ 1 8) + v1))), (0, .ref (a 0)), (1, .int v1)]) hx hb dX10_ifHeard_29 rfl hl (by decide) rfl (fun ls hl => ?_)
  refine lv_aload_n hx hb dX10_ifHeard_30 rfl (lv_at hl 1 rfl) ?_
  refine lv_iload_n hx hb dX10_ifHeard_31 rfl (lv_at hl 0 rfl) ?_
  have hs4 := hs.1
  have hs := hs.2
  refine q_Vv (As := [.int ((4 : Int32) * ((σ 1 8) + v1))]) (rest := []) (wf := wX10 k a) (R := P_X10_holdUpTo σ ((4 : Int32) * ((σ 1 8) + v1))) (wd' := wX10 k a (P_X10_holdUpTo σ ((4 : Int32) * ((σ 1 8) + v1)))) [0, 1, 2, 3, 4, 5, 6, 7, 8] [0, 1, 2, 3] 0 10 C0 hW (m_X10_holdUpTo l D k a H.size σ ((4 : Int32) * ((σ 1 8) + v1)) hs4) (cwV 1 hts gX10_ifHeard_X10_holdUpTo rfl rfl rfl hd_X10_holdUpTo ⟨Nat.le_of_ble_eq_true rfl, Nat.le_of_ble_eq_true rfl⟩) (by decide) (wX10_pl k a _) rfl (wX10_rec k a _) rfl (wX10_fst k a _ _) (wX10_put k a _ _) hl rfl rfl (Nat.le_of_ble_eq_true rfl) dX10_ifHeard_32 ⟨Nat.le_refl 0, Nat.le_refl 0⟩ (fun H locs hW => ?_)
  exact b_X10_ifHeard_b35c l D k a A C0 R (P_X10_holdUpTo σ ((4 : Int32) * ((σ 1 8) + v1))) ((4 : Int32) * ((σ 1 8) + v1)) hs hR H locs ls hW (lv_sub hl [1, 0] rfl)
set_option maxHeartbeats 400000 in
set_option maxRecDepth 100000 in
theorem b_X10_ifHeard_b0 {p : Program} {e : Env} {s : State} {m : MethodId} {args : Array Value} {below : List Frame} {meth : Method} {c : Code} (l : Launch) (D : va_G) (k : Nat → ClassId) (a : Nat → Nat) (A : Nat → Prop) (C0 : q_C p s m meth c args RX10 cX10_ifHeard 4 (some .int) wsX10_ifHeard D (tyL k) A) (R : Int32 × T2) : ∀ (σ : T2) (v1 : Int32), S_X10_ifHeard_b0 σ v1 → P_X10_ifHeard_b0 σ v1 = R → ∀ (H : Heap) (locs : List Loc) (ls : Array Slot), q_W D A s.heap (wX10 k a σ) H locs → lv_has ls 4 [(0, .ref (a 0)), (1, .int v1)] → W p l e { frames := 4, cells := 0, slots := 0, locals := 83 } s m args below meth c H locs 0 0 (MQ below (va_Qi (fun r u => (r, u) = R) (fun u => q_E D (tyL k) A (wX10 k a u)) A) args s 0 0 A) (F0 m 0 ls []) := by
  intro σ v1 hs hR H locs ls hW hl
  rw [P_X10_ifHeard_b0_e] at hR
  rw [S_X10_ifHeard_b0_e] at hs
  obtain ⟨hx, hb, hr, hml, hts, hown, hlocks, hK, hA⟩ := id C0
  refine lv_iload_n hx hb dX10_ifHeard_0 rfl (lv_at hl 1 rfl) ?_
  refine lv_iconst (v := (1 : Int32)) hx hb dX10_ifHeard_1 (by decide) ?_
  refine lv_sipush (v := (9999 : Int32)) hx hb dX10_ifHeard_2 (by decide) ?_
  have hs1 := hs.1
  have hs := hs.2
  refine q_Si (As := [.int v1, .int (1 : Int32), .int (9999 : Int32)]) (rest := []) (R := P_X10_in v1 (1 : Int32) (9999 : Int32)) ⟨hx, hb, hml, hown, hts⟩ (m_X10_in l v1 (1 : Int32) (9999 : Int32) hs1) (va_cwS 3 hts gX10_ifHeard_X10_in rfl rfl rfl hd_X10_in ⟨Nat.le_of_ble_eq_true rfl, Nat.le_of_ble_eq_true rfl⟩) hl rfl rfl (Nat.le_of_ble_eq_true rfl) dX10_ifHeard_5 ⟨Nat.le_refl 0, Nat.le_refl 0⟩ ?_
  refine lv_if_ne (tgt := 14) hx hb dX10_ifHeard_8 (by decide) (fun c_2 => ?_) (fun c_2 => ?_)
  · have hs := hs.2 c_2
    rw [if_neg c_2] at hR
    refine lv_aload_n hx hb dX10_ifHeard_14 rfl (lv_at hl 0 rfl) ?_
    have hs3 := hs.1
    have hs := hs.2
    refine q_Vv (As := []) (rest := []) (wf := wX10 k a) (R := P_X10_layAside σ) (wd' := wX10 k a (P_X10_layAside σ)) [0, 1, 2, 3, 4, 5, 6, 7, 8] [0, 1, 2, 3] 0 10 C0 hW (m_X10_layAside l D k a H.size σ  hs3) (cwV 0 hts gX10_ifHeard_X10_layAside rfl rfl rfl hd_X10_layAside ⟨Nat.le_of_ble_eq_true rfl, Nat.le_of_ble_eq_true rfl⟩) (by decide) (wX10_pl k a _) rfl (wX10_rec k a _) rfl (wX10_fst k a _ _) (wX10_put k a _ _) hl rfl rfl (Nat.le_of_ble_eq_true rfl) dX10_ifHeard_15 ⟨Nat.le_refl 0, Nat.le_refl 0⟩ (fun H locs hW => ?_)
    exact b_X10_ifHeard_b18c l D k a A C0 R (P_X10_layAside σ) v1 hs hR H locs ls hW (lv_sub hl [0, 1] rfl)
  · have hs := hs.1 c_2
    rw [if_pos c_2] at hR
    refine lv_bipush (v := (-2 : Int32)) hx hb dX10_ifHeard_11 (by decide) ?_
    exact q_iret C0 hW hR dX10_ifHeard_13
set_option maxHeartbeats 400000 in
set_option maxRecDepth 100000 in
theorem m_X10_ifHeard (l : Launch) (D : va_G) (k : Nat → ClassId) (a : Nat → Nat) (sz : Nat) (σ : T2) (p0 : Int32) (hs : S_X10_ifHeard σ p0) : Met l yX10_ifHeard wsX10_ifHeard { frames := 4, cells := 0, slots := 0, locals := 83 } (va_Pc [.ref (a 0), .int p0] (q_B D (tyL k) (wX10 k a σ) sz)) (va_Qi (fun r u => (r, u) = P_X10_ifHeard σ p0) (fun u => q_E D (tyL k) (va_A (wX10 k a σ) sz) (wX10 k a u)) (va_A (wX10 k a σ) sz)) 0 0 (va_A (wX10 k a σ) sz) := by
  refine q_met [.ref (a 0), .int p0] (wX10 k a σ) sz (cc := cX10_ifHeard) (maxL := 4) (ret := (some .int)) (by decide) rfl (Nat.le_of_ble_eq_true rfl) ?_
  intro p e s m args below meth c ls hsz C0 hW hl hin
  subst hsz
  exact b_X10_ifHeard_b0 l D k a _ C0 _ σ p0 hs rfl s.heap [] ls hW (lv_sub hl [0, 1] rfl)
