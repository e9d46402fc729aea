theorem hin_X10_playAll_X10 : ∀ w ∈ u_ws RX10 TX10 18, w ∈ wsX10_playAll := by decide +kernel
theorem hd_X10_playAll : yX10_playAll.cls = RX10 ∧ yX10_playAll.cls ≠ "java/lang/invoke/MethodHandle" ∧ yX10_playAll.cls ≠ "java/lang/invoke/VarHandle" ∧ (parseMethodDescriptor yX10_playAll.desc).map (fun d => d.parameters.length) = some 2 := by decide +kernel
noncomputable def P_X10_playAll_b76c (pk18 : T2 → T2) (σ : T2) : T2 := pk18 σ
def S_X10_playAll_b76c (sk18 : T2 → Prop) (σ : T2) : Prop := sk18 σ
theorem P_X10_playAll_b76c_e (pk18 : T2 → T2) (σ : T2) : P_X10_playAll_b76c pk18 σ = pk18 σ := rfl
theorem S_X10_playAll_b76c_e (sk18 : T2 → Prop) (σ : T2) : S_X10_playAll_b76c sk18 σ = (sk18 σ) := rfl
noncomputable def P_X10_playAll_b72c (pk18 : T2 → T2) (σ : T2) : T2 := P_X10_playAll_b76c pk18 (P_X10_hear σ)
def S_X10_playAll_b72c (sk18 : T2 → Prop) (σ : T2) : Prop := (S_X10_hear σ ) ∧ (S_X10_playAll_b76c sk18 (P_X10_hear σ))
theorem P_X10_playAll_b72c_e (pk18 : T2 → T2) (σ : T2) : P_X10_playAll_b72c pk18 σ = P_X10_playAll_b76c pk18 (P_X10_hear σ) := rfl
theorem S_X10_playAll_b72c_e (sk18 : T2 → Prop) (σ : T2) : S_X10_playAll_b72c sk18 σ = ((S_X10_hear σ ) ∧ (S_X10_playAll_b76c sk18 (P_X10_hear σ))) := rfl
noncomputable def P_X10_playAll_b69 (pk18 : T2 → T2) (σ : T2) (t0 : Int32) : T2 := P_X10_playAll_b72c pk18 (P_X10_holdUpTo σ t0)
def S_X10_playAll_b69 (sk18 : T2 → Prop) (σ : T2) (t0 : Int32) : Prop := (S_X10_holdUpTo σ t0) ∧ (S_X10_playAll_b72c sk18 (P_X10_holdUpTo σ t0))
theorem P_X10_playAll_b69_e (pk18 : T2 → T2) (σ : T2) (t0 : Int32) : P_X10_playAll_b69 pk18 σ t0 = P_X10_playAll_b72c pk18 (P_X10_holdUpTo σ t0) := rfl
theorem S_X10_playAll_b69_e (sk18 : T2 → Prop) (σ : T2) (t0 : Int32) : S_X10_playAll_b69 sk18 σ t0 = ((S_X10_holdUpTo σ t0) ∧ (S_X10_playAll_b72c sk18 (P_X10_holdUpTo σ t0))) := rfl
noncomputable def P_X10_playAll_b18 (n : Nat) : T2 → T2 := Nat.rec (motive := fun _ => T2 → T2) (fun _ => (fun _ _ => 0)) (fun _ pk18 => fun σ => if (σ 1 22) ≤ (σ 1 14) then (σ) else (if (σ 1 14) = (σ 0 7) then (P_X10_playAll_b69 pk18 σ (-6 : Int32)) else (P_X10_playAll_b69 pk18 σ ((4 : Int32) * (P_X10_ofB σ (σ 1 14) (0 : Int32)))))) n
def S_X10_playAll_b18 (n : Nat) : T2 → Prop := Nat.rec (motive := fun _ => T2 → Prop) (fun _ => False) (fun _ sk18 => fun σ => ((σ 1 22) ≤ (σ 1 14) → (True)) ∧ (¬ ((σ 1 22) ≤ (σ 1 14)) → (((σ 1 14) = (σ 0 7) → (S_X10_playAll_b69 sk18 σ (-6 : Int32))) ∧ (¬ ((σ 1 14) = (σ 0 7)) → ((S_X10_ofB σ (σ 1 14) (0 : Int32)) ∧ (S_X10_playAll_b69 sk18 σ ((4 : Int32) * (P_X10_ofB σ (σ 1 14) (0 : Int32))))))))) n
theorem P_X10_playAll_b18_e (n : Nat) (σ : T2) : P_X10_playAll_b18 (n + 1) σ = if (σ 1 22) ≤ (σ 1 14) then (σ) else (if (σ 1 14) = (σ 0 7) then (P_X10_playAll_b69 (P_X10_playAll_b18 n) σ (-6 : Int32)) else (P_X10_playAll_b69 (P_X10_playAll_b18 n) σ ((4 : Int32) * (P_X10_ofB σ (σ 1 14) (0 : Int32))))) := rfl
theorem S_X10_playAll_b18_e (n : Nat) (σ : T2) : S_X10_playAll_b18 (n + 1) σ = (((σ 1 22) ≤ (σ 1 14) → (True)) ∧ (¬ ((σ 1 22) ≤ (σ 1 14)) → (((σ 1 14) = (σ 0 7) → (S_X10_playAll_b69 (S_X10_playAll_b18 n) σ (-6 : Int32))) ∧ (¬ ((σ 1 14) = (σ 0 7)) → ((S_X10_ofB σ (σ 1 14) (0 : Int32)) ∧ (S_X10_playAll_b69 (S_X10_playAll_b18 n) σ ((4 : Int32) * (P_X10_ofB σ (σ 1 14) (0 : Int32))))))))) := rfl
noncomputable def P_X10_playAll_b4c (σ : T2) (v1 : Int32) (v2 : Int32) : T2 := P_X10_playAll_b18 FU (u2 σ 1 (upd (upd (σ 1) 2 v1) 3 v2))
def S_X10_playAll_b4c (σ : T2) (v1 : Int32) (v2 : Int32) : Prop := S_X10_playAll_b18 FU (u2 σ 1 (upd (upd (σ 1) 2 v1) 3 v2))
theorem P_X10_playAll_b4c_e (σ : T2) (v1 : Int32) (v2 : Int32) : P_X10_playAll_b4c σ v1 v2 = P_X10_playAll_b18 FU (u2 σ 1 (upd (upd (σ 1) 2 v1) 3 v2)) := rfl
theorem S_X10_playAll_b4c_e (σ : T2) (v1 : Int32) (v2 : Int32) : S_X10_playAll_b4c σ v1 v2 = (S_X10_playAll_b18 FU (u2 σ 1 (upd (upd (σ 1) 2 v1) 3 v2))) := rfl
noncomputable def P_X10_playAll_b0 (σ : T2) (v1 : Int32) (v2 : Int32) : T2 := P_X10_playAll_b4c (P_X10_beginAnew σ) v1 v2
def S_X10_playAll_b0 (σ : T2) (v1 : Int32) (v2 : Int32) : Prop := (S_X10_beginAnew σ ) ∧ (S_X10_playAll_b4c (P_X10_beginAnew σ) v1 v2)
theorem P_X10_playAll_b0_e (σ : T2) (v1 : Int32) (v2 : Int32) : P_X10_playAll_b0 σ v1 v2 = P_X10_playAll_b4c (P_X10_beginAnew σ) v1 v2 := rfl
theorem S_X10_playAll_b0_e (σ : T2) (v1 : Int32) (v2 : Int32) : S_X10_playAll_b0 σ v1 v2 = ((S_X10_beginAnew σ ) ∧ (S_X10_playAll_b4c (P_X10_beginAnew σ) v1 v2)) := rfl
noncomputable def P_X10_playAll (σ : T2) (p0 : Int32) (p1 : Int32) : T2 := P_X10_playAll_b0 σ p0 p1
def S_X10_playAll (σ : T2) (p0 : Int32) (p1 : Int32) : Prop := S_X10_playAll_b0 σ p0 p1
set_option maxHeartbeats 400000 in
set_option maxRecDepth 100000 in
theorem b_X10_playAll_b76c {p : Program} {e : Env} {s : State} {m : MethodId} {args : Array Value} {below : List Frame} {meth : Method} {c : Code} (l : Launch) (D : va_G) (k : Nat → ClassId) (a : Nat → Nat) (A : Nat → Prop) (C0 : q_C p s m meth c args RX10 cX10_playAll 3 none wsX10_playAll D (tyL k) A) (R : T2) (pk18 : T2 → T2) (sk18 : T2 → Prop) (hk18 : ∀ (σ : T2), sk18 σ → pk18 σ = R → ∀ (H : Heap) (locs : List Loc) (ls : Array Slot), q_W D A s.heap (wX10 k a σ) H locs → lv_has ls 3 [(0, .ref (a 0))] → W p l e { frames := 4, cells := 0, slots := 0, locals := 97 } s m args below meth c H locs 0 0 (MQ below (va_Qv (fun u => u = R) (fun u => q_E D (tyL k) A (wX10 k a u)) A) args s 0 0 A) (F0 m 18 ls [])) : ∀ (σ : T2), S_X10_playAll_b76c sk18 σ → P_X10_playAll_b76c pk18 σ = R → ∀ (H : Heap) (locs : List Loc) (ls : Array Slot), q_W D A s.heap (wX10 k a σ) H locs → lv_has ls 3 [(0, .ref (a 0))] → W p l e { frames := 4, cells := 0, slots := 0, locals := 97 } s m args below meth c H locs 0 0 (MQ below (va_Qv (fun u => u = R) (fun u => q_E D (tyL k) A (wX10 k a u)) A) args s 0 0 A) (F0 m 76 ls []) := by
  intro σ hs hR H locs ls hW hl
  rw [P_X10_playAll_b76c_e] at hR
  rw [S_X10_playAll_b76c_e] at hs
  obtain ⟨hx, hb, hr, hml, hts, hown, hlocks, hK, hA⟩ := id C0
  refine lv_goto (tgt := 18) hx hb dX10_playAll_76 (by decide) ?_
  exact hk18 σ hs hR H locs ls hW (lv_sub hl [0] rfl)
set_option maxHeartbeats 400000 in
set_option maxRecDepth 100000 in
theorem b_X10_playAll_b72c {p : Program} {e : Env} {s : State} {m : MethodId} {args : Array Value} {below : List Frame} {meth : Method} {c : Code} (l : Launch) (D : va_G) (k : Nat → ClassId) (a : Nat → Nat) (A : Nat → Prop) (C0 : q_C p s m meth c args RX10 cX10_playAll 3 none wsX10_playAll D (tyL k) A) (R : T2) (pk18 : T2 → T2) (sk18 : T2 → Prop) (hk18 : ∀ (σ : T2), sk18 σ → pk18 σ = R → ∀ (H : Heap) (locs : List Loc) (ls : Array Slot), q_W D A s.heap (wX10 k a σ) H locs → lv_has ls 3 [(0, .ref (a 0))] → W p l e { frames := 4, cells := 0, slots := 0, locals := 97 } s m args below meth c H locs 0 0 (MQ below (va_Qv (fun u => u = R) (fun u => q_E D (tyL k) A (wX10 k a u)) A) args s 0 0 A) (F0 m 18 ls [])) : ∀ (σ : T2), S_X10_playAll_b72c sk18 σ → P_X10_playAll_b72c pk18 σ = R → ∀ (H : Heap) (locs : List Loc) (ls : Array Slot), q_W D A s.heap (wX10 k a σ) H locs → lv_has ls 3 [(0, .ref (a 0))] → W p l e { frames := 4, cells := 0, slots := 0, locals := 97 } s m args below meth c H locs 0 0 (MQ below (va_Qv (fun u => u = R) (fun u => q_E D (tyL k) A (wX10 k a u)) A) args s 0 0 A) (F0 m 72 ls []) := by
  intro σ hs hR H locs ls hW hl
  rw [P_X10_playAll_b72c_e] at hR
  rw [S_X10_playAll_b72c_e] at hs
  obtain ⟨hx, hb, hr, hml, hts, hown, hlocks, hK, hA⟩ := id C0
  refine lv_aload_n hx hb dX10_playAll_72 rfl (lv_at hl 0 rfl) ?_
  have hs6 := hs.1
  have hs := hs.2
  refine q_Vv (As := []) (rest := []) (wf := wX10 k a) (R := P_X10_hear σ) (wd' := wX10 k a (P_X10_hear σ)) [0, 1, 2, 3, 4, 5, 6, 7, 8] [0, 1, 2, 3] 0 10 C0 hW (m_X10_hear l D k a H.size σ  hs6) (cwV 0 hts gX10_playAll_X10_hear rfl rfl rfl hd_X10_hear ⟨Nat.le_of_ble_eq_true rfl, Nat.le_of_ble_eq_true rfl⟩) (by decide) (wX10_pl k a _) rfl (wX10_rec k a _) rfl (wX10_fst k a _ _) (wX10_put k a _ _) hl rfl rfl (Nat.le_of_ble_eq_true rfl) dX10_playAll_73 ⟨Nat.le_refl 0, Nat.le_refl 0⟩ (fun H locs hW => ?_)
  exact b_X10_playAll_b76c l D k a A C0 R pk18 sk18 hk18 (P_X10_hear σ) hs hR H locs ls hW (lv_sub hl [0] rfl)
set_option maxHeartbeats 400000 in
set_option maxRecDepth 100000 in
theorem b_X10_playAll_b69 {p : Program} {e : Env} {s : State} {m : MethodId} {args : Array Value} {below : List Frame} {meth : Method} {c : Code} (l : Launch) (D : va_G) (k : Nat → ClassId) (a : Nat → Nat) (A : Nat → Prop) (C0 : q_C p s m meth c args RX10 cX10_playAll 3 none wsX10_playAll D (tyL k) A) (R : T2) (pk18 : T2 → T2) (sk18 : T2 → Prop) (hk18 : ∀ (σ : T2), sk18 σ → pk18 σ = R → ∀ (H : Heap) (locs : List Loc) (ls : Array Slot), q_W D A s.heap (wX10 k a σ) H locs → lv_has ls 3 [(0, .ref (a 0))] → W p l e { frames := 4, cells := 0, slots := 0, locals := 97 } s m args below meth c H locs 0 0 (MQ below (va_Qv (fun u => u = R) (fun u => q_E D (tyL k) A (wX10 k a u)) A) args s 0 0 A) (F0 m 18 ls [])) : ∀ (σ : T2) (t0 : Int32), S_X10_playAll_b69 sk18 σ t0 → P_X10_playAll_b69 pk18 σ t0 = R → ∀ (H : Heap) (locs : List Loc) (ls : Array Slot), q_W D A s.heap (wX10 k a σ) H locs → lv_has ls 3 [(0, .ref (a 0))] → W p l e { frames := 4, cells := 0, slots := 0, locals := 97 } s m args below meth c H locs 0 0 (MQ below (va_Qv (fun u => u = R) (fun u => q_E D (tyL k) A (wX10 k a u)) A) args s 0 0 A) (F0 m 69 ls [.int t0, .ref (a 0)]) := by
  intro σ t0 hs hR H locs ls hW hl
  rw [P_X10_playAll_b69_e] at hR
  rw [S_X10_playAll_b69_e] at hs
  obtain ⟨hx, hb, hr, hml, hts, hown, hlocks, hK, hA⟩ := id C0
  have hs5 := hs.1
  have hs := hs.2
  refine q_Vv (As := [.int t0]) (rest := []) (wf := wX10 k a) (R := P_X10_holdUpTo σ t0) (wd' := wX10 k a (P_X10_holdUpTo σ t0)) [0, 1, 2, 3, 4, 5, 6, 7, 8] [0, 1, 2, 3] 0 10 C0 hW (m_X10_holdUpTo l D k a H.size σ t0 hs5) (cwV 1 hts gX10_playAll_X10_holdUpTo rfl rfl rfl hd_X10_holdUpTo ⟨Nat.le_of_ble_eq_true rfl, Nat.le_of_ble_eq_true rfl⟩) (by decide) (wX10_pl k a _) rfl (wX10_rec k a _) rfl (wX10_fst k a _ _) (wX10_put k a _ _) hl rfl rfl (Nat.le_of_ble_eq_true rfl) dX10_playAll_69 ⟨Nat.le_refl 0, Nat.le_refl 0⟩ (fun H locs hW => ?_)
  exact b_X10_playAll_b72c l D k a A C0 R pk18 sk18 hk18 (P_X10_holdUpTo σ t0) hs hR H locs ls hW (lv_sub hl [0] rfl)
set_option maxHeartbeats 400000 in
set_option maxRecDepth 100000 in
theorem b_X10_playAll_b18 {p : Program} {e : Env} {s : State} {m : MethodId} {args : Array Value} {below : List Frame} {meth : Method} {c : Code} (l : Launch) (D : va_G) (k : Nat → ClassId) (a : Nat → Nat) (A : Nat → Prop) (C0 : q_C p s m meth c args RX10 cX10_playAll 3 none wsX10_playAll D (tyL k) A) (R : T2) : ∀ n : Nat, ∀ (σ : T2), S_X10_playAll_b18 n σ → P_X10_playAll_b18 n σ = R → ∀ (H : Heap) (locs : List Loc) (ls : Array Slot), q_W D A s.heap (wX10 k a σ) H locs → lv_has ls 3 [(0, .ref (a 0))] → W p l e { frames := 4, cells := 0, slots := 0, locals := 97 } s m args below meth c H locs 0 0 (MQ below (va_Qv (fun u => u = R) (fun u => q_E D (tyL k) A (wX10 k a u)) A) args s 0 0 A) (F0 m 18 ls []) := by
  intro n
  induction n with
  | zero => intro σ hs; exact False.elim hs
  | succ n ih =>
    intro σ hs hR H locs ls hW hl
    rw [P_X10_playAll_b18_e] at hR
    rw [S_X10_playAll_b18_e] at hs
    obtain ⟨hx, hb, hr, hml, hts, hown, hlocks, hK, hA⟩ := id C0
    have hf7 := hts (.fieldLink RX10 7 "BeatFollowerModel" "at" "[I") (by decide +kernel)
    have hf26 := hts (.fieldLink RX10 26 "BeatFollowerModel" "leftOut" "I") (by decide +kernel)
    have hinX10 : ∀ w ∈ u_ws RX10 TX10 18, w ∈ wsX10_playAll := hin_X10_playAll_X10
    refine lv_aload_n hx hb dX10_playAll_18 rfl (lv_at hl 0 rfl) ?_
    refine va_get (v := .ref (a 1)) (C := RX10) (T := TX10) (N := 18) hx hb hts hinX10 hown hK hW.1 0 rfl rfl 0 (by decide) hf7 (fun _ h9 => h9) rfl dX10_playAll_19 ?_
    refine lv_bipush (v := (14 : Int32)) hx hb dX10_playAll_22 (by decide) ?_
    refine q_iald (v := σ 1 14) C0 hW 1 rfl rfl vi_14_672 cl_14 rfl dX10_playAll_24 ?_
    refine lv_aload_n hx hb dX10_playAll_25 rfl (lv_at hl 0 rfl) ?_
    refine va_get (v := .ref (a 1)) (C := RX10) (T := TX10) (N := 18) hx hb hts hinX10 hown hK hW.1 0 rfl rfl 0 (by decide) hf7 (fun _ h9 => h9) rfl dX10_playAll_26 ?_
    refine lv_bipush (v := (22 : Int32)) hx hb dX10_playAll_29 (by decide) ?_
    refine q_iald (v := σ 1 22) C0 hW 1 rfl rfl vi_22_672 cl_22 rfl dX10_playAll_31 ?_
    refine lv_icmp_ge (tgt := 79) hx hb dX10_playAll_32 (by decide) (fun c_2 => ?_) (fun c_2 => ?_)
    · have hs := hs.1 c_2
      rw [if_pos c_2] at hR
      exact q_vret C0 hW hR dX10_playAll_79
    · have hs := hs.2 c_2
      rw [if_neg c_2] at hR
      refine lv_aload_n hx hb dX10_playAll_35 rfl (lv_at hl 0 rfl) ?_
      refine lv_aload_n hx hb dX10_playAll_36 rfl (lv_at hl 0 rfl) ?_
      refine va_get (v := .ref (a 1)) (C := RX10) (T := TX10) (N := 18) hx hb hts hinX10 hown hK hW.1 0 rfl rfl 0 (by decide) hf7 (fun _ h9 => h9) rfl dX10_playAll_37 ?_
      refine lv_bipush (v := (14 : Int32)) hx hb dX10_playAll_40 (by decide) ?_
      refine q_iald (v := σ 1 14) C0 hW 1 rfl rfl vi_14_672 cl_14 rfl dX10_playAll_42 ?_
      refine lv_aload_n hx hb dX10_playAll_43 rfl (lv_at hl 0 rfl) ?_
      refine va_get (v := .int (σ 0 7)) (C := RX10) (T := TX10) (N := 18) hx hb hts hinX10 hown hK hW.1 0 rfl rfl 7 (by decide) hf26 (fun _ h9 => h9) rfl dX10_playAll_44 ?_
      refine lv_icmp_ne (tgt := 55) hx hb dX10_playAll_47 (by decide) (fun c_3 => ?_) (fun c_3 => ?_)
      · have hs := hs.2 c_3
        rw [if_neg c_3] at hR
        refine lv_iconst (v := (4 : Int32)) hx hb dX10_playAll_55 (by decide) ?_
        refine lv_aload_n hx hb dX10_playAll_56 rfl (lv_at hl 0 rfl) ?_
        refine lv_aload_n hx hb dX10_playAll_57 rfl (lv_at hl 0 rfl) ?_
        refine va_get (v := .ref (a 1)) (C := RX10) (T := TX10) (N := 18) hx hb hts hinX10 hown hK hW.1 0 rfl rfl 0 (by decide) hf7 (fun _ h9 => h9) rfl dX10_playAll_58 ?_
        refine lv_bipush (v := (14 : Int32)) hx hb dX10_playAll_61 (by decide) ?_
        refine q_iald (v := σ 1 14) C0 hW 1 rfl rfl vi_14_672 cl_14 rfl dX10_playAll_63 ?_
        refine lv_iconst (v := (0 : Int32)) hx hb dX10_playAll_64 (by decide) ?_
        have hs4 := hs.1
        have hs := hs.2
        refine q_Vi (As := [.int (σ 1 14), .int (0 : Int32)]) (rest := [.int (4 : Int32), .ref (a 0)]) (R := P_X10_ofB σ (σ 1 14) (0 : Int32)) [0, 1, 2, 3, 4, 5, 6, 7, 8] [0, 1, 2, 3] 0 10 C0 hW (m_X10_ofB l D k a _ σ (σ 1 14) (0 : Int32) hs4) (cwV 2 hts gX10_playAll_X10_ofB rfl rfl rfl hd_X10_ofB ⟨Nat.le_of_ble_eq_true rfl, Nat.le_of_ble_eq_true rfl⟩) (by decide) (wX10_pl k a _) rfl (wX10_rec k a _) rfl hl rfl rfl (Nat.le_of_ble_eq_true rfl) dX10_playAll_65 ⟨Nat.le_refl 0, Nat.le_refl 0⟩ ?_
        refine lv_imul hx hb dX10_playAll_68 ?_
        exact b_X10_playAll_b69 l D k a A C0 R _ _ ih σ ((4 : Int32) * (P_X10_ofB σ (σ 1 14) (0 : Int32))) hs hR H locs ls hW (lv_sub hl [0] rfl)
      · have hs := hs.1 c_3
        rw [if_pos c_3] at hR
        refine lv_bipush (v := (-6 : Int32)) hx hb dX10_playAll_50 (by decide) ?_
        refine lv_goto (tgt := 69) hx hb dX10_playAll_52 (by decide) ?_
        exact b_X10_playAll_b69 l D k a A C0 R _ _ ih σ (-6 : Int32) hs hR H locs ls hW (lv_sub hl [0] rfl)
set_option maxHeartbeats 400000 in
set_option maxRecDepth 100000 in
theorem b_X10_playAll_b4c {p : Program} {e : Env} {s : State} {m : MethodId} {args : Array Value} {below : List Frame} {meth : Method} {c : Code} (l : Launch) (D : va_G) (k : Nat → ClassId) (a : Nat → Nat) (A : Nat → Prop) (C0 : q_C p s m meth c args RX10 cX10_playAll 3 none wsX10_playAll D (tyL k) A) (R : T2) : ∀ (σ : T2) (v1 : Int32) (v2 : Int32), S_X10_playAll_b4c σ v1 v2 → P_X10_playAll_b4c σ v1 v2 = R → ∀ (H : Heap) (locs : List Loc) (ls : Array Slot), q_W D A s.heap (wX10 k a σ) H locs → lv_has ls 3 [(0, .ref (a 0)), (1, .int v1), (2, .int v2)] → W p l e { frames := 4, cells := 0, slots := 0, locals := 97 } s m args below meth c H locs 0 0 (MQ below (va_Qv (fun u => u = R) (fun u => q_E D (tyL k) A (wX10 k a u)) A) args s 0 0 A) (F0 m 4 ls []) := by
  intro σ v1 v2 hs hR H locs ls hW hl
  rw [P_X10_playAll_b4c_e] at hR
  rw [S_X10_playAll_b4c_e] at hs
  obtain ⟨hx, hb, hr, hml, hts, hown, hlocks, hK, hA⟩ := id C0
  have hf7 := hts (.fieldLink RX10 7 "BeatFollowerModel" "at" "[I") (by decide +kernel)
  have hinX10 : ∀ w ∈ u_ws RX10 TX10 18, w ∈ wsX10_playAll := hin_X10_playAll_X10
  refine lv_aload_n hx hb dX10_playAll_4 rfl (lv_at hl 0 rfl) ?_
  refine va_get (v := .ref (a 1)) (C := RX10) (T := TX10) (N := 18) hx hb hts hinX10 hown hK hW.1 0 rfl rfl 0 (by decide) hf7 (fun _ h9 => h9) rfl dX10_playAll_5 ?_
  refine lv_iconst (v := (2 : Int32)) hx hb dX10_playAll_8 (by decide) ?_
  refine lv_iload_n hx hb dX10_playAll_9 rfl (lv_at hl 1 rfl) ?_
  refine q_iast (f := σ 1) (wd' := wX10 k a (u2 σ 1 (upd (σ 1) 2 v1))) C0 hW 1 rfl rfl vi_2_672 cl_2 dX10_playAll_10 (wX10_s1 k a _ _) (fun H locs hW => ?_)
  refine lv_aload_n hx hb dX10_playAll_11 rfl (lv_at hl 0 rfl) ?_
  refine va_get (v := .ref (a 1)) (C := RX10) (T := TX10) (N := 18) hx hb hts hinX10 hown hK hW.1 0 rfl rfl 0 (by decide) hf7 (fun _ h9 => h9) rfl dX10_playAll_12 ?_
  refine lv_iconst (v := (3 : Int32)) hx hb dX10_playAll_15 (by decide) ?_
  refine lv_iload_n hx hb dX10_playAll_16 rfl (lv_at hl 2 rfl) ?_
  refine q_iast (f := upd (σ 1) 2 v1) (wd' := wX10 k a (u2 σ 1 (upd (upd (σ 1) 2 v1) 3 v2))) C0 hW 1 rfl rfl vi_3_672 cl_3 dX10_playAll_17 ((wX10_s1 k a _ _).trans (congrArg (wX10 k a) (u2_same _ _ _ _))) (fun H locs hW => ?_)
  exact b_X10_playAll_b18 l D k a A C0 R FU (u2 σ 1 (upd (upd (σ 1) 2 v1) 3 v2)) hs hR H locs ls hW (lv_sub hl [0] rfl)
set_option maxHeartbeats 400000 in
set_option maxRecDepth 100000 in
theorem b_X10_playAll_b0 {p : Program} {e : Env} {s : State} {m : MethodId} {args : Array Value} {below : List Frame} {meth : Method} {c : Code} (l : Launch) (D : va_G) (k : Nat → ClassId) (a : Nat → Nat) (A : Nat → Prop) (C0 : q_C p s m meth c args RX10 cX10_playAll 3 none wsX10_playAll D (tyL k) A) (R : T2) : ∀ (σ : T2) (v1 : Int32) (v2 : Int32), S_X10_playAll_b0 σ v1 v2 → P_X10_playAll_b0 σ v1 v2 = R → ∀ (H : Heap) (locs : List Loc) (ls : Array Slot), q_W D A s.heap (wX10 k a σ) H locs → lv_has ls 3 [(0, .ref (a 0)), (1, .int v1), (2, .int v2)] → W p l e { frames := 4, cells := 0, slots := 0, locals := 97 } s m args below meth c H locs 0 0 (MQ below (va_Qv (fun u => u = R) (fun u => q_E D (tyL k) A (wX10 k a u)) A) args s 0 0 A) (F0 m 0 ls []) := by
  intro σ v1 v2 hs hR H locs ls hW hl
  rw [P_X10_playAll_b0_e] at hR
  rw [S_X10_playAll_b0_e] at hs
  obtain ⟨hx, hb, hr, hml, hts, hown, hlocks, hK, hA⟩ := id C0
  refine lv_aload_n hx hb dX10_playAll_0 rfl (lv_at hl 0 rfl) ?_
  have hs1 := hs.1
  have hs := hs.2
  refine q_Vv (As := []) (rest := []) (wf := wX10 k a) (R := P_X10_beginAnew σ) (wd' := wX10 k a (P_X10_beginAnew σ)) [0, 1, 2, 3, 4, 5, 6, 7, 8] [0, 1, 2, 3] 0 10 C0 hW (m_X10_beginAnew l D k a H.size σ  hs1) (cwV 0 hts gX10_playAll_X10_beginAnew rfl rfl rfl hd_X10_beginAnew ⟨Nat.le_of_ble_eq_true rfl, Nat.le_of_ble_eq_true rfl⟩) (by decide) (wX10_pl k a _) rfl (wX10_rec k a _) rfl (wX10_fst k a _ _) (wX10_put k a _ _) hl rfl rfl (Nat.le_of_ble_eq_true rfl) dX10_playAll_1 ⟨Nat.le_refl 0, Nat.le_refl 0⟩ (fun H locs hW => ?_)
  exact b_X10_playAll_b4c l D k a A C0 R (P_X10_beginAnew σ) v1 v2 hs hR H locs ls hW (lv_sub hl [0, 1, 2] rfl)
set_option maxHeartbeats 400000 in
set_option maxRecDepth 100000 in
theorem m_X10_playAll (l : Launch) (D : va_G) (k : Nat → ClassId) (a : Nat → Nat) (sz : Nat) (σ : T2) (p0 : Int32) (p1 : Int32) (hs : S_X10_playAll σ p0 p1) : Met l yX10_playAll wsX10_playAll { frames := 4, cells := 0, slots := 0, locals := 97 } (va_Pc [.ref (a 0), .int p0, .int p1] (q_B D (tyL k) (wX10 k a σ) sz)) (va_Qv (fun u => u = P_X10_playAll σ p0 p1) (fun u => q_E D (tyL k) (va_A (wX10 k a σ) sz) (wX10 k a u)) (va_A (wX10 k a σ) sz)) 0 0 (va_A (wX10 k a σ) sz) := by
  refine q_met [.ref (a 0), .int p0, .int p1] (wX10 k a σ) sz (cc := cX10_playAll) (maxL := 3) (ret := none) (by decide) rfl (Nat.le_of_ble_eq_true rfl) ?_
  intro p e s m args below meth c ls hsz C0 hW hl hin
  subst hsz
  exact b_X10_playAll_b0 l D k a _ C0 _ σ p0 p1 hs rfl s.heap [] ls hW (lv_sub hl [0, 1, 2] rfl)
theorem hin_X10_ended_X10 : ∀ w ∈ u_ws RX10 TX10 18, w ∈ wsX10_ended := by decide +kernel
theorem hd_X10_ended : yX10_ended.cls = RX10 ∧ yX10_ended.cls ≠ "java/lang/invoke/MethodHandle" ∧ yX10_ended.cls ≠ "java/lang/invoke/VarHandle" ∧ (parseMethodDescriptor yX10_ended.desc).map (fun d => d.parameters.length) = some 1 := by decide +kernel
noncomputable def P_X10_ended_b0 (σ : T2) (v1 : Int32) : Int32 := if v1 = (0 : Int32) then (σ 1 26) else (if v1 = (1 : Int32) then (σ 1 15) else (if v1 = (2 : Int32) then (σ 1 13) else (if v1 = (3 : Int32) then (σ 1 18) else (σ 1 27))))
def S_X10_ended_b0 (σ : T2) (v1 : Int32) : Prop := (v1 = (0 : Int32) → (True)) ∧ (¬ (v1 = (0 : Int32)) → ((v1 = (1 : Int32) → (True)) ∧ (¬ (v1 = (1 : Int32)) → ((v1 = (2 : Int32) → (True)) ∧ (¬ (v1 = (2 : Int32)) → ((v1 = (3 : Int32) → (True)) ∧ (¬ (v1 = (3 : Int32)) → (True))))))))
theorem P_X10_ended_b0_e (σ : T2) (v1 : Int32) : P_X10_ended_b0 σ v1 = if v1 = (0 : Int32) then (σ 1 26) else (if v1 = (1 : Int32) then (σ 1 15) else (if v1 = (2 : Int32) then (σ 1 13) else (if v1 = (3 : Int32) then (σ 1 18) else (σ 1 27)))) := rfl
theorem S_X10_ended_b0_e (σ : T2) (v1 : Int32) : S_X10_ended_b0 σ v1 = ((v1 = (0 : Int32) → (True)) ∧ (¬ (v1 = (0 : Int32)) → ((v1 = (1 : Int32) → (True)) ∧ (¬ (v1 = (1 : Int32)) → ((v1 = (2 : Int32) → (True)) ∧ (¬ (v1 = (2 : Int32)) → ((v1 = (3 : Int32) → (True)) ∧ (¬ (v1 = (3 : Int32)) → (True))))))))) := rfl
noncomputable def P_X10_ended (σ : T2) (p0 : Int32) : Int32 := P_X10_ended_b0 σ p0
def S_X10_ended (σ : T2) (p0 : Int32) : Prop := S_X10_ended_b0 σ p0
set_option maxHeartbeats 400000 in
set_option maxRecDepth 100000 in
theorem b_X10_ended_b0 {p : Program} {e : Env} {s : State} {m : MethodId} {args : Array Value} {below : List Frame} {meth : Method} {c : Code} (l : Launch) (D : va_G) (k : Nat → ClassId) (a : Nat → Nat) (A : Nat → Prop) (C0 : q_C p s m meth c args RX10 cX10_ended 2 (some .int) wsX10_ended D (tyL k) A) (R : Int32) : ∀ (σ : T2) (v1 : Int32), S_X10_ended_b0 σ v1 → P_X10_ended_b0 σ v1 = R → ∀ (H : Heap) (locs : List Loc) (ls : Array Slot), q_W D A s.heap (wX10 k a σ) s.heap [] → lv_has ls 2 [(0, .ref (a 0)), (1, .int v1)] → W p l e { frames := 0, cells := 0, slots := 0, locals := 0 } s m args below meth c s.heap [] 0 0 (MQ below (vp_Si (fun r => r = R)) args s 0 0 (fun _ => False)) (F0 m 0 ls []) := by
  intro σ v1 hs hR H locs ls hW hl
  rw [P_X10_ended_b0_e] at hR
  rw [S_X10_ended_b0_e] at hs
  obtain ⟨hx, hb, hr, hml, hts, hown, hlocks, hK, hA⟩ := id C0
  have hf7 := hts (.fieldLink RX10 7 "BeatFollowerModel" "at" "[I") (by decide +kernel)
  have hinX10 : ∀ w ∈ u_ws RX10 TX10 18, w ∈ wsX10_ended := hin_X10_ended_X10
  refine lv_iload_n hx hb dX10_ended_0 rfl (lv_at hl 1 rfl) ?_
  by_cases c_1 : v1 = (0 : Int32)
  · have hs := hs.1 c_1
    rw [if_pos c_1] at hR
    refine lv_tableIn (off := 31) (tgt := 32) hx hb dX10_ended_1 (by rw [c_1]; decide) (by rw [c_1]; decide) (by rw [c_1]; decide) (by decide) ?_
    refine lv_aload_n hx hb dX10_ended_32 rfl (lv_at hl 0 rfl) ?_
    refine va_get (v := .ref (a 1)) (C := RX10) (T := TX10) (N := 18) hx hb hts hinX10 hown hK hW.1 0 rfl rfl 0 (by decide) hf7 (fun _ h9 => h9) rfl dX10_ended_33 ?_
    refine lv_bipush (v := (26 : Int32)) hx hb dX10_ended_36 (by decide) ?_
    refine q_iald (v := σ 1 26) C0 hW 1 rfl rfl vi_26_672 cl_26 rfl dX10_ended_38 ?_
    exact q_iretr C0 hR dX10_ended_39
  · have hs := hs.2 c_1
    rw [if_neg c_1] at hR
    by_cases c_2 : v1 = (1 : Int32)
    · have hs := hs.1 c_2
      rw [if_pos c_2] at hR
      refine lv_tableIn (off := 39) (tgt := 40) hx hb dX10_ended_1 (by rw [c_2]; decide) (by rw [c_2]; decide) (by rw [c_2]; decide) (by decide) ?_
      refine lv_aload_n hx hb dX10_ended_40 rfl (lv_at hl 0 rfl) ?_
      refine va_get (v := .ref (a 1)) (C := RX10) (T := TX10) (N := 18) hx hb hts hinX10 hown hK hW.1 0 rfl rfl 0 (by decide) hf7 (fun _ h9 => h9) rfl dX10_ended_41 ?_
      refine lv_bipush (v := (15 : Int32)) hx hb dX10_ended_44 (by decide) ?_
      refine q_iald (v := σ 1 15) C0 hW 1 rfl rfl vi_15_672 cl_15 rfl dX10_ended_46 ?_
      exact q_iretr C0 hR dX10_ended_47
    · have hs := hs.2 c_2
      rw [if_neg c_2] at hR
      by_cases c_3 : v1 = (2 : Int32)
      · have hs := hs.1 c_3
        rw [if_pos c_3] at hR
        refine lv_tableIn (off := 47) (tgt := 48) hx hb dX10_ended_1 (by rw [c_3]; decide) (by rw [c_3]; decide) (by rw [c_3]; decide) (by decide) ?_
        refine lv_aload_n hx hb dX10_ended_48 rfl (lv_at hl 0 rfl) ?_
        refine va_get (v := .ref (a 1)) (C := RX10) (T := TX10) (N := 18) hx hb hts hinX10 hown hK hW.1 0 rfl rfl 0 (by decide) hf7 (fun _ h9 => h9) rfl dX10_ended_49 ?_
        refine lv_bipush (v := (13 : Int32)) hx hb dX10_ended_52 (by decide) ?_
        refine q_iald (v := σ 1 13) C0 hW 1 rfl rfl vi_13_672 cl_13 rfl dX10_ended_54 ?_
        exact q_iretr C0 hR dX10_ended_55
      · have hs := hs.2 c_3
        rw [if_neg c_3] at hR
        by_cases c_4 : v1 = (3 : Int32)
        · have hs := hs.1 c_4
          rw [if_pos c_4] at hR
          refine lv_tableIn (off := 55) (tgt := 56) hx hb dX10_ended_1 (by rw [c_4]; decide) (by rw [c_4]; decide) (by rw [c_4]; decide) (by decide) ?_
          refine lv_aload_n hx hb dX10_ended_56 rfl (lv_at hl 0 rfl) ?_
          refine va_get (v := .ref (a 1)) (C := RX10) (T := TX10) (N := 18) hx hb hts hinX10 hown hK hW.1 0 rfl rfl 0 (by decide) hf7 (fun _ h9 => h9) rfl dX10_ended_57 ?_
          refine lv_bipush (v := (18 : Int32)) hx hb dX10_ended_60 (by decide) ?_
          refine q_iald (v := σ 1 18) C0 hW 1 rfl rfl vi_18_672 cl_18 rfl dX10_ended_62 ?_
          exact q_iretr C0 hR dX10_ended_63
        · have hs := hs.2 c_4
          rw [if_neg c_4] at hR
          refine lv_tableOut (tgt := 64) hx hb dX10_ended_1 (q_out 3 (by decide) (by intro j hj; rcases (show j = 0 ∨ j = 1 ∨ j = 2 ∨ j = 3 by omega) with rfl | rfl | rfl | rfl <;> first | exact c_1 | exact c_2 | exact c_3 | exact c_4)) (by decide) ?_
          refine lv_aload_n hx hb dX10_ended_64 rfl (lv_at hl 0 rfl) ?_
          refine va_get (v := .ref (a 1)) (C := RX10) (T := TX10) (N := 18) hx hb hts hinX10 hown hK hW.1 0 rfl rfl 0 (by decide) hf7 (fun _ h9 => h9) rfl dX10_ended_65 ?_
          refine lv_bipush (v := (27 : Int32)) hx hb dX10_ended_68 (by decide) ?_
          refine q_iald (v := σ 1 27) C0 hW 1 rfl rfl vi_27_672 cl_27 rfl dX10_ended_70 ?_
          exact q_iretr C0 hR dX10_ended_71
set_option maxHeartbeats 400000 in
set_option maxRecDepth 100000 in
theorem m_X10_ended (l : Launch) (D : va_G) (k : Nat → ClassId) (a : Nat → Nat) (sz : Nat) (σ : T2) (p0 : Int32) (hs : S_X10_ended σ p0) : Met l yX10_ended wsX10_ended { frames := 0, cells := 0, slots := 0, locals := 0 } (va_Pc [.ref (a 0), .int p0] (q_B D (tyL k) (wX10 k a σ) sz)) (vp_Si (fun r => r = P_X10_ended σ p0)) 0 0 (fun _ => False) := by
  refine q_met [.ref (a 0), .int p0] (wX10 k a σ) sz (cc := cX10_ended) (maxL := 2) (ret := (some .int)) (by decide) rfl (Nat.le_of_ble_eq_true rfl) ?_
  intro p e s m args below meth c ls hsz C0 hW hl hin
  subst hsz
  exact b_X10_ended_b0 l D k a _ C0 _ σ p0 hs rfl s.heap [] ls hW (lv_sub hl [0, 1] rfl)
theorem hd_X10_endWith : yX10_endWith.cls = RX10 ∧ yX10_endWith.cls ≠ "java/lang/invoke/MethodHandle" ∧ yX10_endWith.cls ≠ "java/lang/invoke/VarHandle" ∧ (parseMethodDescriptor yX10_endWith.desc).map (fun d => d.parameters.length) = some 3 := by decide +kernel
noncomputable def P_X10_endWith_b42c (σ : T2) (v3 : Int32) : Int32 × T2 := (P_X10_ended σ v3, P_X10_layBack σ)
def S_X10_endWith_b42c (σ : T2) (v3 : Int32) : Prop := (S_X10_ended σ v3) ∧ ((S_X10_layBack σ ) ∧ (True))
theorem P_X10_endWith_b42c_e (σ : T2) (v3 : Int32) : P_X10_endWith_b42c σ v3 = (P_X10_ended σ v3, P_X10_layBack σ) := rfl
theorem S_X10_endWith_b42c_e (σ : T2) (v3 : Int32) : S_X10_endWith_b42c σ v3 = ((S_X10_ended σ v3) ∧ ((S_X10_layBack σ ) ∧ (True))) := rfl
noncomputable def P_X10_endWith_b36c (σ : T2) (v1 : Int32) (v2 : Int32) (v3 : Int32) : Int32 × T2 := P_X10_endWith_b42c (P_X10_playAll σ v1 v2) v3
def S_X10_endWith_b36c (σ : T2) (v1 : Int32) (v2 : Int32) (v3 : Int32) : Prop := (S_X10_playAll σ v1 v2) ∧ (S_X10_endWith_b42c (P_X10_playAll σ v1 v2) v3)
theorem P_X10_endWith_b36c_e (σ : T2) (v1 : Int32) (v2 : Int32) (v3 : Int32) : P_X10_endWith_b36c σ v1 v2 v3 = P_X10_endWith_b42c (P_X10_playAll σ v1 v2) v3 := rfl
theorem S_X10_endWith_b36c_e (σ : T2) (v1 : Int32) (v2 : Int32) (v3 : Int32) : S_X10_endWith_b36c σ v1 v2 v3 = ((S_X10_playAll σ v1 v2) ∧ (S_X10_endWith_b42c (P_X10_playAll σ v1 v2) v3)) := rfl
noncomputable def P_X10_endWith_b0 (σ : T2) (v1 : Int32) (v2 : Int32) (v3 : Int32) : Int32 × T2 := if (P_X10_in v1 (0 : Int32) (16 : Int32)) = 0 then (((-2 : Int32), σ)) else (if (P_X10_in v2 (0 : Int32) (16 : Int32)) = 0 then (((-2 : Int32), σ)) else (if (P_X10_in v3 (0 : Int32) (4 : Int32)) = 0 then (((-2 : Int32), σ)) else (P_X10_endWith_b36c (P_X10_layAside σ) v1 v2 v3)))
def S_X10_endWith_b0 (σ : T2) (v1 : Int32) (v2 : Int32) (v3 : Int32) : Prop := (S_X10_in v1 (0 : Int32) (16 : Int32)) ∧ (((P_X10_in v1 (0 : Int32) (16 : Int32)) = 0 → (True)) ∧ (¬ ((P_X10_in v1 (0 : Int32) (16 : Int32)) = 0) → ((S_X10_in v2 (0 : Int32) (16 : Int32)) ∧ (((P_X10_in v2 (0 : Int32) (16 : Int32)) = 0 → (True)) ∧ (¬ ((P_X10_in v2 (0 : Int32) (16 : Int32)) = 0) → ((S_X10_in v3 (0 : Int32) (4 : Int32)) ∧ (((P_X10_in v3 (0 : Int32) (4 : Int32)) = 0 → (True)) ∧ (¬ ((P_X10_in v3 (0 : Int32) (4 : Int32)) = 0) → ((S_X10_layAside σ ) ∧ (S_X10_endWith_b36c (P_X10_layAside σ) v1 v2 v3))))))))))
theorem P_X10_endWith_b0_e (σ : T2) (v1 : Int32) (v2 : Int32) (v3 : Int32) : P_X10_endWith_b0 σ v1 v2 v3 = if (P_X10_in v1 (0 : Int32) (16 : Int32)) = 0 then (((-2 : Int32), σ)) else (if (P_X10_in v2 (0 : Int32) (16 : Int32)) = 0 then (((-2 : Int32), σ)) else (if (P_X10_in v3 (0 : Int32) (4 : Int32)) = 0 then (((-2 : Int32), σ)) else (P_X10_endWith_b36c (P_X10_layAside σ) v1 v2 v3))) := rfl
theorem S_X10_endWith_b0_e (σ : T2) (v1 : Int32) (v2 : Int32) (v3 : Int32) : S_X10_endWith_b0 σ v1 v2 v3 = ((S_X10_in v1 (0 : Int32) (16 : Int32)) ∧ (((P_X10_in v1 (0 : Int32) (16 : Int32)) = 0 → (True)) ∧ (¬ ((P_X10_in v1 (0 : Int32) (16 : Int32)) = 0) → ((S_X10_in v2 (0 : Int32) (16 : Int32)) ∧ (((P_X10_in v2 (0 : Int32) (16 : Int32)) = 0 → (True)) ∧ (¬ ((P_X10_in v2 (0 : Int32) (16 : Int32)) = 0) → ((S_X10_in v3 (0 : Int32) (4 : Int32)) ∧ (((P_X10_in v3 (0 : Int32) (4 : Int32)) = 0 → (True)) ∧ (¬ ((P_X10_in v3 (0 : Int32) (4 : Int32)) = 0) → ((S_X10_layAside σ ) ∧ (S_X10_endWith_b36c (P_X10_layAside σ) v1 v2 v3))))))))))) := rfl
noncomputable def P_X10_endWith (σ : T2) (p0 : Int32) (p1 : Int32) (p2 : Int32) : Int32 × T2 := P_X10_endWith_b0 σ p0 p1 p2
def S_X10_endWith (σ : T2) (p0 : Int32) (p1 : Int32) (p2 : Int32) : Prop := S_X10_endWith_b0 σ p0 p1 p2
set_option maxHeartbeats 400000 in
set_option maxRecDepth 100000 in
theorem b_X10_endWith_b42c {p : Program} {e : Env} {s : State} {m : MethodId} {args : Array Value} {below : List Frame} {meth : Method} {c : Code} (l : Launch) (D : va_G) (k : Nat → ClassId) (a : Nat → Nat) (A : Nat → Prop) (C0 : q_C p s m meth c args RX10 cX10_endWith 5 (some .int) wsX10_endWith D (tyL k) A) (R : Int32 × T2) : ∀ (σ : T2) (v3 : Int32), S_X10_endWith_b42c σ v3 → P_X10_endWith_b42c σ v3 = R → ∀ (H : Heap) (locs : List Loc) (ls : Array Slot), q_W D A s.heap (wX10 k a σ) H locs → lv_has ls 5 [(0, .ref (a 0)), (3, .int v3)] → W p l e { frames := 5, cells := 0, slots := 0, locals := 119 } s m args below meth c H locs 0 0 (MQ below (va_Qi (fun r u => (r, u) = R) (fun u => q_E D (tyL k) A (wX10 k a u)) A) args s 0 0 A) (F0 m 42 ls []) := by
  intro σ v3 hs hR H locs ls hW hl
  rw [P_X10_endWith_b42c_e] at hR
  rw [S_X10_endWith_b42c_e] at hs
  obtain ⟨hx, hb, hr, hml, hts, hown, hlocks, hK, hA⟩ := id C0
  refine lv_aload_n hx hb dX10_endWith_42 rfl (lv_at hl 0 rfl) ?_
  refine lv_iload_n hx hb dX10_endWith_43 rfl (lv_at hl 1 rfl) ?_
  have hs9 := hs.1
  have hs := hs.2
  refine q_Vi (As := [.int v3]) (rest := []) (R := P_X10_ended σ v3) [0, 1, 2, 3, 4, 5, 6, 7, 8] [0, 1, 2, 3] 0 10 C0 hW (m_X10_ended l D k a _ σ v3 hs9) (cwV 1 hts gX10_endWith_X10_ended rfl rfl rfl hd_X10_ended ⟨Nat.le_of_ble_eq_true rfl, Nat.le_of_ble_eq_true rfl⟩) (by decide) (wX10_pl k a _) rfl (wX10_rec k a _) rfl hl rfl rfl (Nat.le_of_ble_eq_true rfl) dX10_endWith_44 ⟨Nat.le_refl 0, Nat.le_refl 0⟩ ?_
  refine lv_istore (lv' := [(4, .int (P_X10_ended σ v3)), (0, .ref (a 0)), (3, .int v3)]) hx hb dX10_endWith_47 hl (by decide) rfl (fun ls hl => ?_)
  refine lv_aload_n hx hb dX10_endWith_49 rfl (lv_at hl 1 rfl) ?_
  have hs10 := hs.1
  have hs := hs.2
  refine q_Vv (As := []) (rest := []) (wf := wX10 k a) (R := P_X10_layBack σ) (wd' := wX10 k a (P_X10_layBack σ)) [0, 1, 2, 3, 4, 5, 6, 7, 8] [0, 1, 2, 3] 0 10 C0 hW (m_X10_layBack l D k a H.size σ  hs10) (cwV 0 hts gX10_endWith_X10_layBack rfl rfl rfl hd_X10_layBack ⟨Nat.le_of_ble_eq_true rfl, Nat.le_of_ble_eq_true rfl⟩) (by decide) (wX10_pl k a _) rfl (wX10_rec k a _) rfl (wX10_fst k a _ _) (wX10_put k a _ _) hl rfl rfl (Nat.le_of_ble_eq_true rfl) dX10_endWith_50 ⟨Nat.le_refl 0, Nat.le_refl 0⟩ (fun H locs hW => ?_)
  refine lv_iload hx hb dX10_endWith_53 (lv_at hl 0 rfl) ?_
  exact q_iret C0 hW hR dX10_endWith_55
set_option maxHeartbeats 400000 in
set_option maxRecDepth 100000 in
theorem b_X10_endWith_b36c {p : Program} {e : Env} {s : State} {m : MethodId} {args : Array Value} {below : List Frame} {meth : Method} {c : Code} (l : Launch) (D : va_G) (k : Nat → ClassId) (a : Nat → Nat) (A : Nat → Prop) (C0 : q_C p s m meth c args RX10 cX10_endWith 5 (some .int) wsX10_endWith D (tyL k) A) (R : Int32 × T2) : ∀ (σ : T2) (v1 : Int32) (v2 : Int32) (v3 : Int32), S_X10_endWith_b36c σ v1 v2 v3 → P_X10_endWith_b36c σ v1 v2 v3 = R → ∀ (H : Heap) (locs : List Loc) (ls : Array Slot), q_W D A s.heap (wX10 k a σ) H locs → lv_has ls 5 [(0, .ref (a 0)), (1, .int v1), (2, .int v2), (3, .int v3)] → W p l e { frames := 5, cells := 0, slots := 0, locals := 119 } s m args below meth c H locs 0 0 (MQ below (va_Qi (fun r u => (r, u) = R) (fun u => q_E D (tyL k) A (wX10 k a u)) A) args s 0 0 A) (F0 m 36 ls []) := by
  intro σ v1 v2 v3 hs hR H locs ls hW hl
  rw [P_X10_endWith_b36c_e] at hR
  rw [S_X10_endWith_b36c_e] at hs
  obtain ⟨hx, hb, hr, hml, hts, hown, hlocks, hK, hA⟩ := id C0
  refine lv_aload_n hx hb dX10_endWith_36 rfl (lv_at hl 0 rfl) ?_
  refine lv_iload_n hx hb dX10_endWith_37 rfl (lv_at hl 1 rfl) ?_
  refine lv_iload_n hx hb dX10_endWith_38 rfl (lv_at hl 2 rfl) ?_
  have hs8 := hs.1
  have hs := hs.2
  refine q_Vv (As := [.int v1, .int v2]) (rest := []) (wf := wX10 k a) (R := P_X10_playAll σ v1 v2) (wd' := wX10 k a (P_X10_playAll σ v1 v2)) [0, 1, 2, 3, 4, 5, 6, 7, 8] [0, 1, 2, 3] 0 10 C0 hW (m_X10_playAll l D k a H.size σ v1 v2 hs8) (cwV 2 hts gX10_endWith_X10_playAll rfl rfl rfl hd_X10_playAll ⟨Nat.le_of_ble_eq_true rfl, Nat.le_of_ble_eq_true rfl⟩) (by decide) (wX10_pl k a _) rfl (wX10_rec k a _) rfl (wX10_fst k a _ _) (wX10_put k a _ _) hl rfl rfl (Nat.le_of_ble_eq_true rfl) dX10_endWith_39 ⟨Nat.le_refl 0, Nat.le_refl 0⟩ (fun H locs hW => ?_)
  exact b_X10_endWith_b42c l D k a A C0 R (P_X10_playAll σ v1 v2) v3 hs hR H locs ls hW (lv_sub hl [0, 3] rfl)
set_option maxHeartbeats 400000 in
set_option maxRecDepth 100000 in
theorem b_X10_endWith_b0 {p : Program} {e : Env} {s : State} {m : MethodId} {args : Array Value} {below : List Frame} {meth : Method} {c : Code} (l : Launch) (D : va_G) (k : Nat → ClassId) (a : Nat → Nat) (A : Nat → Prop) (C0 : q_C p s m meth c args RX10 cX10_endWith 5 (some .int) wsX10_endWith D (tyL k) A) (R : Int32 × T2) : ∀ (σ : T2) (v1 : Int32) (v2 : Int32) (v3 : Int32), S_X10_endWith_b0 σ v1 v2 v3 → P_X10_endWith_b0 σ v1 v2 v3 = R → ∀ (H : Heap) (locs : List Loc) (ls : Array Slot), q_W D A s.heap (wX10 k a σ) H locs → lv_has ls 5 [(0, .ref (a 0)), (1, .int v1), (2, .int v2), (3, .int v3)] → W p l e { frames := 5, cells := 0, slots := 0, locals := 119 } s m args below meth c H locs 0 0 (MQ below (va_Qi (fun r u => (r, u) = R) (fun u => q_E D (tyL k) A (wX10 k a u)) A) args s 0 0 A) (F0 m 0 ls []) := by
  intro σ v1 v2 v3 hs hR H locs ls hW hl
  rw [P_X10_endWith_b0_e] at hR
  rw [S_X10_endWith_b0_e] at hs
  obtain ⟨hx, hb, hr, hml, hts, hown, hlocks, hK, hA⟩ := id C0
  refine lv_iload_n hx hb dX10_endWith_0 rfl (lv_at hl 1 rfl) ?_
  refine lv_iconst (v := (0 : Int32)) hx hb dX10_endWith_1 (by decide) ?_
  refine lv_bipush (v := (16 : Int32)) hx hb dX10_endWith_2 (by decide) ?_
  have hs1 := hs.1
  have hs := hs.2
  refine q_Si (As := [.int v1, .int (0 : Int32), .int (16 : Int32)]) (rest := []) (R := P_X10_in v1 (0 : Int32) (16 : Int32)) ⟨hx, hb, hml, hown, hts⟩ (m_X10_in l v1 (0 : Int32) (16 : Int32) hs1) (va_cwS 3 hts gX10_endWith_X10_in rfl rfl rfl hd_X10_in ⟨Nat.le_of_ble_eq_true rfl, Nat.le_of_ble_eq_true rfl⟩) hl rfl rfl (Nat.le_of_ble_eq_true rfl) dX10_endWith_4 ⟨Nat.le_refl 0, Nat.le_refl 0⟩ ?_
  refine lv_if_eq (tgt := 29) hx hb dX10_endWith_7 (by decide) (fun c_2 => ?_) (fun c_2 => ?_)
  · have hs := hs.1 c_2
    rw [if_pos c_2] at hR
    refine lv_bipush (v := (-2 : Int32)) hx hb dX10_endWith_29 (by decide) ?_
    exact q_iret C0 hW hR dX10_endWith_31
  · have hs := hs.2 c_2
    rw [if_neg c_2] at hR
    refine lv_iload_n hx hb dX10_endWith_10 rfl (lv_at hl 2 rfl) ?_
    refine lv_iconst (v := (0 : Int32)) hx hb dX10_endWith_11 (by decide) ?_
    refine lv_bipush (v := (16 : Int32)) hx hb dX10_endWith_12 (by decide) ?_
    have hs3 := hs.1
    have hs := hs.2
    refine q_Si (As := [.int v2, .int (0 : Int32), .int (16 : Int32)]) (rest := []) (R := P_X10_in v2 (0 : Int32) (16 : Int32)) ⟨hx, hb, hml, hown, hts⟩ (m_X10_in l v2 (0 : Int32) (16 : Int32) hs3) (va_cwS 3 hts gX10_endWith_X10_in rfl rfl rfl hd_X10_in ⟨Nat.le_of_ble_eq_true rfl, Nat.le_of_ble_eq_true rfl⟩) hl rfl rfl (Nat.le_of_ble_eq_true rfl) dX10_endWith_14 ⟨Nat.le_refl 0, Nat.le_refl 0⟩ ?_
    refine lv_if_eq (tgt := 29) hx hb dX10_endWith_17 (by decide) (fun c_4 => ?_) (fun c_4 => ?_)
    · have hs := hs.1 c_4
      rw [if_pos c_4] at hR
      refine lv_bipush (v := (-2 : Int32)) hx hb dX10_endWith_29 (by decide) ?_
      exact q_iret C0 hW hR dX10_endWith_31
    · have hs := hs.2 c_4
      rw [if_neg c_4] at hR
      refine lv_iload_n hx hb dX10_endWith_20 rfl (lv_at hl 3 rfl) ?_
      refine lv_iconst (v := (0 : Int32)) hx hb dX10_endWith_21 (by decide) ?_
      refine lv_iconst (v := (4 : Int32)) hx hb dX10_endWith_22 (by decide) ?_
      have hs5 := hs.1
      have hs := hs.2
      refine q_Si (As := [.int v3, .int (0 : Int32), .int (4 : Int32)]) (rest := []) (R := P_X10_in v3 (0 : Int32) (4 : Int32)) ⟨hx, hb, hml, hown, hts⟩ (m_X10_in l v3 (0 : Int32) (4 : Int32) hs5) (va_cwS 3 hts gX10_endWith_X10_in rfl rfl rfl hd_X10_in ⟨Nat.le_of_ble_eq_true rfl, Nat.le_of_ble_eq_true rfl⟩) hl rfl rfl (Nat.le_of_ble_eq_true rfl) dX10_endWith_23 ⟨Nat.le_refl 0, Nat.le_refl 0⟩ ?_
      refine lv_if_ne (tgt := 32) hx hb dX10_endWith_26 (by decide) (fun c_6 => ?_) (fun c_6 => ?_)
      · have hs := hs.2 c_6
        rw [if_neg c_6] at hR
        refine lv_aload_n hx hb dX10_endWith_32 rfl (lv_at hl 0 rfl) ?_
        have hs7 := hs.1
        have hs := hs.2
        refine q_Vv (As := []) (rest := []) (wf := wX10 k a) (R := P_X10_layAside σ) (wd' := wX10 k a (P_X10_layAside σ)) [0, 1, 2, 3, 4, 5, 6, 7, 8] [0, 1, 2, 3] 0 10 C0 hW (m_X10_layAside l D k a H.size σ  hs7) (cwV 0 hts gX10_endWith_X10_layAside rfl rfl rfl hd_X10_layAside ⟨Nat.le_of_ble_eq_true rfl, Nat.le_of_ble_eq_true rfl⟩) (by decide) (wX10_pl k a _) rfl (wX10_rec k a _) rfl (wX10_fst k a _ _) (wX10_put k a _ _) hl rfl rfl (Nat.le_of_ble_eq_true rfl) dX10_endWith_33 ⟨Nat.le_refl 0, Nat.le_refl 0⟩ (fun H locs hW => ?_)
        exact b_X10_endWith_b36c l D k a A C0 R (P_X10_layAside σ) v1 v2 v3 hs hR H locs ls hW (lv_sub hl [0, 1, 2, 3] rfl)
      · have hs := hs.1 c_6
        rw [if_pos c_6] at hR
        refine lv_bipush (v := (-2 : Int32)) hx hb dX10_endWith_29 (by decide) ?_
        exact q_iret C0 hW hR dX10_endWith_31
set_option maxHeartbeats 400000 in
set_option maxRecDepth 100000 in
theorem m_X10_endWith (l : Launch) (D : va_G) (k : Nat → ClassId) (a : Nat → Nat) (sz : Nat) (σ : T2) (p0 : Int32) (p1 : Int32) (p2 : Int32) (hs : S_X10_endWith σ p0 p1 p2) : Met l yX10_endWith wsX10_endWith { frames := 5, cells := 0, slots := 0, locals := 119 } (va_Pc [.ref (a 0), .int p0, .int p1, .int p2] (q_B D (tyL k) (wX10 k a σ) sz)) (va_Qi (fun r u => (r, u) = P_X10_endWith σ p0 p1 p2) (fun u => q_E D (tyL k) (va_A (wX10 k a σ) sz) (wX10 k a u)) (va_A (wX10 k a σ) sz)) 0 0 (va_A (wX10 k a σ) sz) := by
  refine q_met [.ref (a 0), .int p0, .int p1, .int p2] (wX10 k a σ) sz (cc := cX10_endWith) (maxL := 5) (ret := (some .int)) (by decide) rfl (Nat.le_of_ble_eq_true rfl) ?_
  intro p e s m args below meth c ls hsz C0 hW hl hin
  subst hsz
  exact b_X10_endWith_b0 l D k a _ C0 _ σ p0 p1 p2 hs rfl s.heap [] ls hW (lv_sub hl [0, 1, 2, 3] rfl)
theorem hin_X10_bestNudge_X10 : ∀ w ∈ u_ws RX10 TX10 18, w ∈ wsX10_bestNudge := by decide +kernel
theorem hd_X10_bestNudge : yX10_bestNudge.cls = RX10 ∧ yX10_bestNudge.cls ≠ "java/lang/invoke/MethodHandle" ∧ yX10_bestNudge.cls ≠ "java/lang/invoke/VarHandle" ∧ (parseMethodDescriptor yX10_bestNudge.desc).map (fun d => d.parameters.length) = some 1 := by decide +kernel
noncomputable def P_X10_bestNudge_b135 (pk23 : T2 → Int32 → Int32 → Int32 → Int32 → Int32 → Int32 × T2) (σ : T2) (v1 : Int32) (v2 : Int32) (v3 : Int32) (v4 : Int32) (v5 : Int32) : Int32 × T2 := pk23 σ v1 v2 v3 v4 (v5 + (1 : Int32))
def S_X10_bestNudge_b135 (sk23 : T2 → Int32 → Int32 → Int32 → Int32 → Int32 → Prop) (σ : T2) (v1 : Int32) (v2 : Int32) (v3 : Int32) (v4 : Int32) (v5 : Int32) : Prop := sk23 σ v1 v2 v3 v4 (v5 + (1 : Int32))
theorem P_X10_bestNudge_b135_e (pk23 : T2 → Int32 → Int32 → Int32 → Int32 → Int32 → Int32 × T2) (σ : T2) (v1 : Int32) (v2 : Int32) (v3 : Int32) (v4 : Int32) (v5 : Int32) : P_X10_bestNudge_b135 pk23 σ v1 v2 v3 v4 v5 = pk23 σ v1 v2 v3 v4 (v5 + (1 : Int32)) := rfl
theorem S_X10_bestNudge_b135_e (sk23 : T2 → Int32 → Int32 → Int32 → Int32 → Int32 → Prop) (σ : T2) (v1 : Int32) (v2 : Int32) (v3 : Int32) (v4 : Int32) (v5 : Int32) : S_X10_bestNudge_b135 sk23 σ v1 v2 v3 v4 v5 = (sk23 σ v1 v2 v3 v4 (v5 + (1 : Int32))) := rfl
noncomputable def P_X10_bestNudge_b125 (pk23 : T2 → Int32 → Int32 → Int32 → Int32 → Int32 → Int32 × T2) (σ : T2) (v1 : Int32) (v5 : Int32) (v6 : Int32) (v7 : Int32) : Int32 × T2 := P_X10_bestNudge_b135 pk23 σ v1 v5 v6 v7 v5
def S_X10_bestNudge_b125 (sk23 : T2 → Int32 → Int32 → Int32 → Int32 → Int32 → Prop) (σ : T2) (v1 : Int32) (v5 : Int32) (v6 : Int32) (v7 : Int32) : Prop := S_X10_bestNudge_b135 sk23 σ v1 v5 v6 v7 v5
theorem P_X10_bestNudge_b125_e (pk23 : T2 → Int32 → Int32 → Int32 → Int32 → Int32 → Int32 × T2) (σ : T2) (v1 : Int32) (v5 : Int32) (v6 : Int32) (v7 : Int32) : P_X10_bestNudge_b125 pk23 σ v1 v5 v6 v7 = P_X10_bestNudge_b135 pk23 σ v1 v5 v6 v7 v5 := rfl
theorem S_X10_bestNudge_b125_e (sk23 : T2 → Int32 → Int32 → Int32 → Int32 → Int32 → Prop) (σ : T2) (v1 : Int32) (v5 : Int32) (v6 : Int32) (v7 : Int32) : S_X10_bestNudge_b125 sk23 σ v1 v5 v6 v7 = (S_X10_bestNudge_b135 sk23 σ v1 v5 v6 v7 v5) := rfl
noncomputable def P_X10_bestNudge_b102c (pk23 : T2 → Int32 → Int32 → Int32 → Int32 → Int32 → Int32 × T2) (σ : T2) (v1 : Int32) (v2 : Int32) (v3 : Int32) (v4 : Int32) (v5 : Int32) (v6 : Int32) (v7 : Int32) : Int32 × T2 := if v2 < 0 then (P_X10_bestNudge_b125 pk23 σ v1 v5 v6 v7) else (if v6 < v3 then (P_X10_bestNudge_b125 pk23 σ v1 v5 v6 v7) else (if v6 = v3 then (if v4 ≤ v7 then (P_X10_bestNudge_b135 pk23 σ v1 v2 v3 v4 v5) else (P_X10_bestNudge_b125 pk23 σ v1 v5 v6 v7)) else (P_X10_bestNudge_b135 pk23 σ v1 v2 v3 v4 v5)))
def S_X10_bestNudge_b102c (sk23 : T2 → Int32 → Int32 → Int32 → Int32 → Int32 → Prop) (σ : T2) (v1 : Int32) (v2 : Int32) (v3 : Int32) (v4 : Int32) (v5 : Int32) (v6 : Int32) (v7 : Int32) : Prop := (v2 < 0 → (S_X10_bestNudge_b125 sk23 σ v1 v5 v6 v7)) ∧ (¬ (v2 < 0) → ((v6 < v3 → (S_X10_bestNudge_b125 sk23 σ v1 v5 v6 v7)) ∧ (¬ (v6 < v3) → ((v6 = v3 → ((v4 ≤ v7 → (S_X10_bestNudge_b135 sk23 σ v1 v2 v3 v4 v5)) ∧ (¬ (v4 ≤ v7) → (S_X10_bestNudge_b125 sk23 σ v1 v5 v6 v7)))) ∧ (¬ (v6 = v3) → (S_X10_bestNudge_b135 sk23 σ v1 v2 v3 v4 v5))))))
theorem P_X10_bestNudge_b102c_e (pk23 : T2 → Int32 → Int32 → Int32 → Int32 → Int32 → Int32 × T2) (σ : T2) (v1 : Int32) (v2 : Int32) (v3 : Int32) (v4 : Int32) (v5 : Int32) (v6 : Int32) (v7 : Int32) : P_X10_bestNudge_b102c pk23 σ v1 v2 v3 v4 v5 v6 v7 = if v2 < 0 then (P_X10_bestNudge_b125 pk23 σ v1 v5 v6 v7) else (if v6 < v3 then (P_X10_bestNudge_b125 pk23 σ v1 v5 v6 v7) else (if v6 = v3 then (if v4 ≤ v7 then (P_X10_bestNudge_b135 pk23 σ v1 v2 v3 v4 v5) else (P_X10_bestNudge_b125 pk23 σ v1 v5 v6 v7)) else (P_X10_bestNudge_b135 pk23 σ v1 v2 v3 v4 v5))) := rfl
theorem S_X10_bestNudge_b102c_e (sk23 : T2 → Int32 → Int32 → Int32 → Int32 → Int32 → Prop) (σ : T2) (v1 : Int32) (v2 : Int32) (v3 : Int32) (v4 : Int32) (v5 : Int32) (v6 : Int32) (v7 : Int32) : S_X10_bestNudge_b102c sk23 σ v1 v2 v3 v4 v5 v6 v7 = ((v2 < 0 → (S_X10_bestNudge_b125 sk23 σ v1 v5 v6 v7)) ∧ (¬ (v2 < 0) → ((v6 < v3 → (S_X10_bestNudge_b125 sk23 σ v1 v5 v6 v7)) ∧ (¬ (v6 < v3) → ((v6 = v3 → ((v4 ≤ v7 → (S_X10_bestNudge_b135 sk23 σ v1 v2 v3 v4 v5)) ∧ (¬ (v4 ≤ v7) → (S_X10_bestNudge_b125 sk23 σ v1 v5 v6 v7)))) ∧ (¬ (v6 = v3) → (S_X10_bestNudge_b135 sk23 σ v1 v2 v3 v4 v5))))))) := rfl
noncomputable def P_X10_bestNudge_b80c (pk23 : T2 → Int32 → Int32 → Int32 → Int32 → Int32 → Int32 × T2) (σ : T2) (v1 : Int32) (v2 : Int32) (v3 : Int32) (v4 : Int32) (v5 : Int32) : Int32 × T2 := P_X10_bestNudge_b102c pk23 (P_X10_layBack σ) v1 v2 v3 v4 v5 (σ 1 18) (σ 1 26)
def S_X10_bestNudge_b80c (sk23 : T2 → Int32 → Int32 → Int32 → Int32 → Int32 → Prop) (σ : T2) (v1 : Int32) (v2 : Int32) (v3 : Int32) (v4 : Int32) (v5 : Int32) : Prop := (S_X10_layBack σ ) ∧ (S_X10_bestNudge_b102c sk23 (P_X10_layBack σ) v1 v2 v3 v4 v5 (σ 1 18) (σ 1 26))
theorem P_X10_bestNudge_b80c_e (pk23 : T2 → Int32 → Int32 → Int32 → Int32 → Int32 → Int32 × T2) (σ : T2) (v1 : Int32) (v2 : Int32) (v3 : Int32) (v4 : Int32) (v5 : Int32) : P_X10_bestNudge_b80c pk23 σ v1 v2 v3 v4 v5 = P_X10_bestNudge_b102c pk23 (P_X10_layBack σ) v1 v2 v3 v4 v5 (σ 1 18) (σ 1 26) := rfl
theorem S_X10_bestNudge_b80c_e (sk23 : T2 → Int32 → Int32 → Int32 → Int32 → Int32 → Prop) (σ : T2) (v1 : Int32) (v2 : Int32) (v3 : Int32) (v4 : Int32) (v5 : Int32) : S_X10_bestNudge_b80c sk23 σ v1 v2 v3 v4 v5 = ((S_X10_layBack σ ) ∧ (S_X10_bestNudge_b102c sk23 (P_X10_layBack σ) v1 v2 v3 v4 v5 (σ 1 18) (σ 1 26))) := rfl
noncomputable def P_X10_bestNudge_b77 (pk23 : T2 → Int32 → Int32 → Int32 → Int32 → Int32 → Int32 × T2) (σ : T2) (v1 : Int32) (v2 : Int32) (v3 : Int32) (v4 : Int32) (v5 : Int32) (t0 : Int32) (t1 : Int32) : Int32 × T2 := P_X10_bestNudge_b80c pk23 (P_X10_playAll σ t1 t0) v1 v2 v3 v4 v5
def S_X10_bestNudge_b77 (sk23 : T2 → Int32 → Int32 → Int32 → Int32 → Int32 → Prop) (σ : T2) (v1 : Int32) (v2 : Int32) (v3 : Int32) (v4 : Int32) (v5 : Int32) (t0 : Int32) (t1 : Int32) : Prop := (S_X10_playAll σ t1 t0) ∧ (S_X10_bestNudge_b80c sk23 (P_X10_playAll σ t1 t0) v1 v2 v3 v4 v5)
theorem P_X10_bestNudge_b77_e (pk23 : T2 → Int32 → Int32 → Int32 → Int32 → Int32 → Int32 × T2) (σ : T2) (v1 : Int32) (v2 : Int32) (v3 : Int32) (v4 : Int32) (v5 : Int32) (t0 : Int32) (t1 : Int32) : P_X10_bestNudge_b77 pk23 σ v1 v2 v3 v4 v5 t0 t1 = P_X10_bestNudge_b80c pk23 (P_X10_playAll σ t1 t0) v1 v2 v3 v4 v5 := rfl
theorem S_X10_bestNudge_b77_e (sk23 : T2 → Int32 → Int32 → Int32 → Int32 → Int32 → Prop) (σ : T2) (v1 : Int32) (v2 : Int32) (v3 : Int32) (v4 : Int32) (v5 : Int32) (t0 : Int32) (t1 : Int32) : S_X10_bestNudge_b77 sk23 σ v1 v2 v3 v4 v5 t0 t1 = ((S_X10_playAll σ t1 t0) ∧ (S_X10_bestNudge_b80c sk23 (P_X10_playAll σ t1 t0) v1 v2 v3 v4 v5)) := rfl
noncomputable def P_X10_bestNudge_b61 (pk23 : T2 → Int32 → Int32 → Int32 → Int32 → Int32 → Int32 × T2) (σ : T2) (v1 : Int32) (v2 : Int32) (v3 : Int32) (v4 : Int32) (v5 : Int32) (t0 : Int32) : Int32 × T2 := if v1 = (3 : Int32) then (P_X10_bestNudge_b77 pk23 σ v1 v2 v3 v4 v5 v5 t0) else (P_X10_bestNudge_b77 pk23 σ v1 v2 v3 v4 v5 (σ 1 3) t0)
def S_X10_bestNudge_b61 (sk23 : T2 → Int32 → Int32 → Int32 → Int32 → Int32 → Prop) (σ : T2) (v1 : Int32) (v2 : Int32) (v3 : Int32) (v4 : Int32) (v5 : Int32) (t0 : Int32) : Prop := (v1 = (3 : Int32) → (S_X10_bestNudge_b77 sk23 σ v1 v2 v3 v4 v5 v5 t0)) ∧ (¬ (v1 = (3 : Int32)) → (S_X10_bestNudge_b77 sk23 σ v1 v2 v3 v4 v5 (σ 1 3) t0))
theorem P_X10_bestNudge_b61_e (pk23 : T2 → Int32 → Int32 → Int32 → Int32 → Int32 → Int32 × T2) (σ : T2) (v1 : Int32) (v2 : Int32) (v3 : Int32) (v4 : Int32) (v5 : Int32) (t0 : Int32) : P_X10_bestNudge_b61 pk23 σ v1 v2 v3 v4 v5 t0 = if v1 = (3 : Int32) then (P_X10_bestNudge_b77 pk23 σ v1 v2 v3 v4 v5 v5 t0) else (P_X10_bestNudge_b77 pk23 σ v1 v2 v3 v4 v5 (σ 1 3) t0) := rfl
theorem S_X10_bestNudge_b61_e (sk23 : T2 → Int32 → Int32 → Int32 → Int32 → Int32 → Prop) (σ : T2) (v1 : Int32) (v2 : Int32) (v3 : Int32) (v4 : Int32) (v5 : Int32) (t0 : Int32) : S_X10_bestNudge_b61 sk23 σ v1 v2 v3 v4 v5 t0 = ((v1 = (3 : Int32) → (S_X10_bestNudge_b77 sk23 σ v1 v2 v3 v4 v5 v5 t0)) ∧ (¬ (v1 = (3 : Int32)) → (S_X10_bestNudge_b77 sk23 σ v1 v2 v3 v4 v5 (σ 1 3) t0))) := rfl
noncomputable def P_X10_bestNudge_b44c (pk23 : T2 → Int32 → Int32 → Int32 → Int32 → Int32 → Int32 × T2) (σ : T2) (v1 : Int32) (v2 : Int32) (v3 : Int32) (v4 : Int32) (v5 : Int32) : Int32 × T2 := if v1 = (2 : Int32) then (P_X10_bestNudge_b61 pk23 σ v1 v2 v3 v4 v5 v5) else (P_X10_bestNudge_b61 pk23 σ v1 v2 v3 v4 v5 (σ 1 2))
def S_X10_bestNudge_b44c (sk23 : T2 → Int32 → Int32 → Int32 → Int32 → Int32 → Prop) (σ : T2) (v1 : Int32) (v2 : Int32) (v3 : Int32) (v4 : Int32) (v5 : Int32) : Prop := (v1 = (2 : Int32) → (S_X10_bestNudge_b61 sk23 σ v1 v2 v3 v4 v5 v5)) ∧ (¬ (v1 = (2 : Int32)) → (S_X10_bestNudge_b61 sk23 σ v1 v2 v3 v4 v5 (σ 1 2)))
theorem P_X10_bestNudge_b44c_e (pk23 : T2 → Int32 → Int32 → Int32 → Int32 → Int32 → Int32 × T2) (σ : T2) (v1 : Int32) (v2 : Int32) (v3 : Int32) (v4 : Int32) (v5 : Int32) : P_X10_bestNudge_b44c pk23 σ v1 v2 v3 v4 v5 = if v1 = (2 : Int32) then (P_X10_bestNudge_b61 pk23 σ v1 v2 v3 v4 v5 v5) else (P_X10_bestNudge_b61 pk23 σ v1 v2 v3 v4 v5 (σ 1 2)) := rfl
theorem S_X10_bestNudge_b44c_e (sk23 : T2 → Int32 → Int32 → Int32 → Int32 → Int32 → Prop) (σ : T2) (v1 : Int32) (v2 : Int32) (v3 : Int32) (v4 : Int32) (v5 : Int32) : S_X10_bestNudge_b44c sk23 σ v1 v2 v3 v4 v5 = ((v1 = (2 : Int32) → (S_X10_bestNudge_b61 sk23 σ v1 v2 v3 v4 v5 v5)) ∧ (¬ (v1 = (2 : Int32)) → (S_X10_bestNudge_b61 sk23 σ v1 v2 v3 v4 v5 (σ 1 2)))) := rfl
noncomputable def P_X10_bestNudge_b23 (n : Nat) : T2 → Int32 → Int32 → Int32 → Int32 → Int32 → Int32 × T2 := Nat.rec (motive := fun _ => T2 → Int32 → Int32 → Int32 → Int32 → Int32 → Int32 × T2) (fun _ _ _ _ _ _ => (0, fun _ _ => 0)) (fun _ pk23 => fun σ v1 v2 v3 v4 v5 => if (16 : Int32) < v5 then ((v2, σ)) else (if (σ 1 22) ≤ 0 then ((v2, σ)) else (P_X10_bestNudge_b44c pk23 (P_X10_layAside σ) v1 v2 v3 v4 v5))) n
def S_X10_bestNudge_b23 (n : Nat) : T2 → Int32 → Int32 → Int32 → Int32 → Int32 → Prop := Nat.rec (motive := fun _ => T2 → Int32 → Int32 → Int32 → Int32 → Int32 → Prop) (fun _ _ _ _ _ _ => False) (fun _ sk23 => fun σ v1 v2 v3 v4 v5 => ((16 : Int32) < v5 → (True)) ∧ (¬ ((16 : Int32) < v5) → (((σ 1 22) ≤ 0 → (True)) ∧ (¬ ((σ 1 22) ≤ 0) → ((S_X10_layAside σ ) ∧ (S_X10_bestNudge_b44c sk23 (P_X10_layAside σ) v1 v2 v3 v4 v5)))))) n
theorem P_X10_bestNudge_b23_e (n : Nat) (σ : T2) (v1 : Int32) (v2 : Int32) (v3 : Int32) (v4 : Int32) (v5 : Int32) : P_X10_bestNudge_b23 (n + 1) σ v1 v2 v3 v4 v5 = if (16 : Int32) < v5 then ((v2, σ)) else (if (σ 1 22) ≤ 0 then ((v2, σ)) else (P_X10_bestNudge_b44c (P_X10_bestNudge_b23 n) (P_X10_layAside σ) v1 v2 v3 v4 v5)) := rfl
theorem S_X10_bestNudge_b23_e (n : Nat) (σ : T2) (v1 : Int32) (v2 : Int32) (v3 : Int32) (v4 : Int32) (v5 : Int32) : S_X10_bestNudge_b23 (n + 1) σ v1 v2 v3 v4 v5 = (((16 : Int32) < v5 → (True)) ∧ (¬ ((16 : Int32) < v5) → (((σ 1 22) ≤ 0 → (True)) ∧ (¬ ((σ 1 22) ≤ 0) → ((S_X10_layAside σ ) ∧ (S_X10_bestNudge_b44c (S_X10_bestNudge_b23 n) (P_X10_layAside σ) v1 v2 v3 v4 v5)))))) := rfl
noncomputable def P_X10_bestNudge_b0 (σ : T2) (v1 : Int32) : Int32 × T2 := if (P_X10_in v1 (2 : Int32) (3 : Int32)) = 0 then (((-2 : Int32), σ)) else (P_X10_bestNudge_b23 FU σ v1 (-6 : Int32) (0 : Int32) (0 : Int32) (0 : Int32))
def S_X10_bestNudge_b0 (σ : T2) (v1 : Int32) : Prop := (S_X10_in v1 (2 : Int32) (3 : Int32)) ∧ (((P_X10_in v1 (2 : Int32) (3 : Int32)) = 0 → (True)) ∧ (¬ ((P_X10_in v1 (2 : Int32) (3 : Int32)) = 0) → (S_X10_bestNudge_b23 FU σ v1 (-6 : Int32) (0 : Int32) (0 : Int32) (0 : Int32))))
theorem P_X10_bestNudge_b0_e (σ : T2) (v1 : Int32) : P_X10_bestNudge_b0 σ v1 = if (P_X10_in v1 (2 : Int32) (3 : Int32)) = 0 then (((-2 : Int32), σ)) else (P_X10_bestNudge_b23 FU σ v1 (-6 : Int32) (0 : Int32) (0 : Int32) (0 : Int32)) := rfl
theorem S_X10_bestNudge_b0_e (σ : T2) (v1 : Int32) : S_X10_bestNudge_b0 σ v1 = ((S_X10_in v1 (2 : Int32) (3 : Int32)) ∧ (((P_X10_in v1 (2 : Int32) (3 : Int32)) = 0 → (True)) ∧ (¬ ((P_X10_in v1 (2 : Int32) (3 : Int32)) = 0) → (S_X10_bestNudge_b23 FU σ v1 (-6 : Int32) (0 : Int32) (0 : Int32) (0 : Int32))))) := rfl
noncomputable def P_X10_bestNudge (σ : T2) (p0 : Int32) : Int32 × T2 := P_X10_bestNudge_b0 σ p0
def S_X10_bestNudge (σ : T2) (p0 : Int32) : Prop := S_X10_bestNudge_b0 σ p0
set_option maxHeartbeats 400000 in
set_option maxRecDepth 100000 in
theorem b_X10_bestNudge_b135 {p : Program} {e : Env} {s : State} {m : MethodId} {args : Array Value} {below : List Frame} {meth : Method} {c : Code} (l : Launch) (D : va_G) (k : Nat → ClassId) (a : Nat → Nat) (A : Nat → Prop) (C0 : q_C p s m meth c args RX10 cX10_bestNudge 8 (some .int) wsX10_bestNudge D (tyL k) A) (R : Int32 × T2) (pk23 : T2 → Int32 → Int32 → Int32 → Int32 → Int32 → Int32 × T2) (sk23 : T2 → Int32 → Int32 → Int32 → Int32 → Int32 → Prop) (hk23 : ∀ (σ : T2) (v1 : Int32) (v2 : Int32) (v3 : Int32) (v4 : Int32) (v5 : Int32), sk23 σ v1 v2 v3 v4 v5 → pk23 σ v1 v2 v3 v4 v5 = R → ∀ (H : Heap) (locs : List Loc) (ls : Array Slot), q_W D A s.heap (wX10 k a σ) H locs → lv_has ls 8 [(0, .ref (a 0)), (1, .int v1), (2, .int v2), (3, .int v3), (4, .int v4), (5, .int v5)] → W p l e { frames := 5, cells := 0, slots := 0, locals := 119 } s m args below meth c H locs 0 0 (MQ below (va_Qi (fun r u => (r, u) = R) (fun u => q_E D (tyL k) A (wX10 k a u)) A) args s 0 0 A) (F0 m 23 ls [])) : ∀ (σ : T2) (v1 : Int32) (v2 : Int32) (v3 : Int32) (v4 : Int32) (v5 : Int32), S_X10_bestNudge_b135 sk23 σ v1 v2 v3 v4 v5 → P_X10_bestNudge_b135 pk23 σ v1 v2 v3 v4 v5 = R → ∀ (H : Heap) (locs : List Loc) (ls : Array Slot), q_W D A s.heap (wX10 k a σ) H locs → lv_has ls 8 [(0, .ref (a 0)), (1, .int v1), (2, .int v2), (3, .int v3), (4, .int v4), (5, .int v5)] → W p l e { frames := 5, cells := 0, slots := 0, locals := 119 } s m args below meth c H locs 0 0 (MQ below (va_Qi (fun r u => (r, u) = R) (fun u => q_E D (tyL k) A (wX10 k a u)) A) args s 0 0 A) (F0 m 135 ls []) := by
  intro σ v1 v2 v3 v4 v5 hs hR H locs ls hW hl
  rw [P_X10_bestNudge_b135_e] at hR
  rw [S_X10_bestNudge_b135_e] at hs
  obtain ⟨hx, hb, hr, hml, hts, hown, hlocks, hK, hA⟩ := id C0
  refine lv_iinc (v := v5 + (1 : Int32)) (lv' := [(5, .int (v5 + (1 : Int32))), (0, .ref (a 0)), (1, .int v1), (2, .int v2), (3, .int v3), (4, .int v4)]) hx hb dX10_bestNudge_135 hl (k := 5) rfl rfl (by decide) rfl (fun ls hl => ?_)
  refine lv_goto (tgt := 23) hx hb dX10_bestNudge_138 (by decide) ?_
  exact hk23 σ v1 v2 v3 v4 (v5 + (1 : Int32)) hs hR H locs ls hW (lv_sub hl [1, 2, 3, 4, 5, 0] rfl)
set_option maxHeartbeats 400000 in
set_option maxRecDepth 100000 in
theorem b_X10_bestNudge_b125 {p : Program} {e : Env} {s : State} {m : MethodId} {args : Array Value} {below : List Frame} {meth : Method} {c : Code} (l : Launch) (D : va_G) (k : Nat → ClassId) (a : Nat → Nat) (A : Nat → Prop) (C0 : q_C p s m meth c args RX10 cX10_bestNudge 8 (some .int) wsX10_bestNudge D (tyL k) A) (R : Int32 × T2) (pk23 : T2 → Int32 → Int32 → Int32 → Int32 → Int32 → Int32 × T2) (sk23 : T2 → Int32 → Int32 → Int32 → Int32 → Int32 → Prop) (hk23 : ∀ (σ : T2) (v1 : Int32) (v2 : Int32) (v3 : Int32) (v4 : Int32) (v5 : Int32), sk23 σ v1 v2 v3 v4 v5 → pk23 σ v1 v2 v3 v4 v5 = R → ∀ (H : Heap) (locs : List Loc) (ls : Array Slot), q_W D A s.heap (wX10 k a σ) H locs → lv_has ls 8 [(0, .ref (a 0)), (1, .int v1), (2, .int v2), (3, .int v3), (4, .int v4), (5, .int v5)] → W p l e { frames := 5, cells := 0, slots := 0, locals := 119 } s m args below meth c H locs 0 0 (MQ below (va_Qi (fun r u => (r, u) = R) (fun u => q_E D (tyL k) A (wX10 k a u)) A) args s 0 0 A) (F0 m 23 ls [])) : ∀ (σ : T2) (v1 : Int32) (v5 : Int32) (v6 : Int32) (v7 : Int32), S_X10_bestNudge_b125 sk23 σ v1 v5 v6 v7 → P_X10_bestNudge_b125 pk23 σ v1 v5 v6 v7 = R → ∀ (H : Heap) (locs : List Loc) (ls : Array Slot), q_W D A s.heap (wX10 k a σ) H locs → lv_has ls 8 [(0, .ref (a 0)), (1, .int v1), (5, .int v5), (6, .int v6), (7, .int v7)] → W p l e { frames := 5, cells := 0, slots := 0, locals := 119 } s m args below meth c H locs 0 0 (MQ below (va_Qi (fun r u => (r, u) = R) (fun u => q_E D (tyL k) A (wX10 k a u)) A) args s 0 0 A) (F0 m 125 ls []) := by
  intro σ v1 v5 v6 v7 hs hR H locs ls hW hl
  rw [P_X10_bestNudge_b125_e] at hR
  rw [S_X10_bestNudge_b125_e] at hs
  obtain ⟨hx, hb, hr, hml, hts, hown, hlocks, hK, hA⟩ := id C0
  refine lv_iload hx hb dX10_bestNudge_125 (lv_at hl 2 rfl) ?_
  refine lv_istore_n (lv' := [(2, .int v5), (0, .ref (a 0)), (1, .int v1), (5, .int v5), (6, .int v6), (7, .int v7)]) hx hb dX10_bestNudge_127 rfl hl (by decide) rfl (fun ls hl => ?_)
  refine lv_iload hx hb dX10_bestNudge_128 (lv_at hl 4 rfl) ?_
  refine lv_istore_n (lv' := [(3, .int v6), (2, .int v5), (0, .ref (a 0)), (1, .int v1), (5, .int v5), (6, .int v6), (7, .int v7)]) hx hb dX10_bestNudge_130 rfl hl (by decide) rfl (fun ls hl => ?_)
  refine lv_iload hx hb dX10_bestNudge_131 (lv_at hl 6 rfl) ?_
  refine lv_istore (lv' := [(4, .int v7), (3, .int v6), (2, .int v5), (0, .ref (a 0)), (1, .int v1), (5, .int v5), (6, .int v6), (7, .int v7)]) hx hb dX10_bestNudge_133 hl (by decide) rfl (fun ls hl => ?_)
  exact b_X10_bestNudge_b135 l D k a A C0 R pk23 sk23 hk23 σ v1 v5 v6 v7 v5 hs hR H locs ls hW (lv_sub hl [3, 4, 2, 1, 0, 5] rfl)
set_option maxHeartbeats 400000 in
set_option maxRecDepth 100000 in
theorem b_X10_bestNudge_b102c {p : Program} {e : Env} {s : State} {m : MethodId} {args : Array Value} {below : List Frame} {meth : Method} {c : Code} (l : Launch) (D : va_G) (k : Nat → ClassId) (a : Nat → Nat) (A : Nat → Prop) (C0 : q_C p s m meth c args RX10 cX10_bestNudge 8 (some .int) wsX10_bestNudge D (tyL k) A) (R : Int32 × T2) (pk23 : T2 → Int32 → Int32 → Int32 → Int32 → Int32 → Int32 × T2) (sk23 : T2 → Int32 → Int32 → Int32 → Int32 → Int32 → Prop) (hk23 : ∀ (σ : T2) (v1 : Int32) (v2 : Int32) (v3 : Int32) (v4 : Int32) (v5 : Int32), sk23 σ v1 v2 v3 v4 v5 → pk23 σ v1 v2 v3 v4 v5 = R → ∀ (H : Heap) (locs : List Loc) (ls : Array Slot), q_W D A s.heap (wX10 k a σ) H locs → lv_has ls 8 [(0, .ref (a 0)), (1, .int v1), (2, .int v2), (3, .int v3), (4, .int v4), (5, .int v5)] → W p l e { frames := 5, cells := 0, slots := 0, locals := 119 } s m args below meth c H locs 0 0 (MQ below (va_Qi (fun r u => (r, u) = R) (fun u => q_E D (tyL k) A (wX10 k a u)) A) args s 0 0 A) (F0 m 23 ls [])) : ∀ (σ : T2) (v1 : Int32) (v2 : Int32) (v3 : Int32) (v4 : Int32) (v5 : Int32) (v6 : Int32) (v7 : Int32), S_X10_bestNudge_b102c sk23 σ v1 v2 v3 v4 v5 v6 v7 → P_X10_bestNudge_b102c pk23 σ v1 v2 v3 v4 v5 v6 v7 = R → ∀ (H : Heap) (locs : List Loc) (ls : Array Slot), q_W D A s.heap (wX10 k a σ) H locs → lv_has ls 8 [(0, .ref (a 0)), (1, .int v1), (2, .int v2), (3, .int v3), (4, .int v4), (5, .int v5), (6, .int v6), (7, .int v7)] → W p l e { frames := 5, cells := 0, slots := 0, locals := 119 } s m args below meth c H locs 0 0 (MQ below (va_Qi (fun r u => (r, u) = R) (fun u => q_E D (tyL k) A (wX10 k a u)) A) args s 0 0 A) (F0 m 102 ls []) := by
  intro σ v1 v2 v3 v4 v5 v6 v7 hs hR H locs ls hW hl
  rw [P_X10_bestNudge_b102c_e] at hR
  rw [S_X10_bestNudge_b102c_e] at hs
  obtain ⟨hx, hb, hr, hml, hts, hown, hlocks, hK, hA⟩ := id C0
  refine lv_iload_n hx hb dX10_bestNudge_102 rfl (lv_at hl 2 rfl) ?_
  refine lv_if_lt (tgt := 125) hx hb dX10_bestNudge_103 (by decide) (fun c_10 => ?_) (fun c_10 => ?_)
  · have hs := hs.1 c_10
    rw [if_pos c_10] at hR
    exact b_X10_bestNudge_b125 l D k a A C0 R pk23 sk23 hk23 σ v1 v5 v6 v7 hs hR H locs ls hW (lv_sub hl [0, 1, 5, 6, 7] rfl)
  · have hs := hs.2 c_10
    rw [if_neg c_10] at hR
    refine lv_iload hx hb dX10_bestNudge_106 (lv_at hl 6 rfl) ?_
    refine lv_iload_n hx hb dX10_bestNudge_108 rfl (lv_at hl 3 rfl) ?_
    refine lv_icmp_lt (tgt := 125) hx hb dX10_bestNudge_109 (by decide) (fun c_11 => ?_) (fun c_11 => ?_)
    · have hs := hs.1 c_11
      rw [if_pos c_11] at hR
      exact b_X10_bestNudge_b125 l D k a A C0 R pk23 sk23 hk23 σ v1 v5 v6 v7 hs hR H locs ls hW (lv_sub hl [0, 1, 5, 6, 7] rfl)
    · have hs := hs.2 c_11
      rw [if_neg c_11] at hR
      refine lv_iload hx hb dX10_bestNudge_112 (lv_at hl 6 rfl) ?_
      refine lv_iload_n hx hb dX10_bestNudge_114 rfl (lv_at hl 3 rfl) ?_
      refine lv_icmp_ne (tgt := 135) hx hb dX10_bestNudge_115 (by decide) (fun c_12 => ?_) (fun c_12 => ?_)
      · have hs := hs.2 c_12
        rw [if_neg c_12] at hR
        exact b_X10_bestNudge_b135 l D k a A C0 R pk23 sk23 hk23 σ v1 v2 v3 v4 v5 hs hR H locs ls hW (lv_sub hl [0, 1, 2, 3, 4, 5] rfl)
      · have hs := hs.1 c_12
        rw [if_pos c_12] at hR
        refine lv_iload hx hb dX10_bestNudge_118 (lv_at hl 7 rfl) ?_
        refine lv_iload hx hb dX10_bestNudge_120 (lv_at hl 4 rfl) ?_
        refine lv_icmp_ge (tgt := 135) hx hb dX10_bestNudge_122 (by decide) (fun c_13 => ?_) (fun c_13 => ?_)
        · have hs := hs.1 c_13
          rw [if_pos c_13] at hR
          exact b_X10_bestNudge_b135 l D k a A C0 R pk23 sk23 hk23 σ v1 v2 v3 v4 v5 hs hR H locs ls hW (lv_sub hl [0, 1, 2, 3, 4, 5] rfl)
        · have hs := hs.2 c_13
          rw [if_neg c_13] at hR
          exact b_X10_bestNudge_b125 l D k a A C0 R pk23 sk23 hk23 σ v1 v5 v6 v7 hs hR H locs ls hW (lv_sub hl [0, 1, 5, 6, 7] rfl)
set_option maxHeartbeats 400000 in
set_option maxRecDepth 100000 in
theorem b_X10_bestNudge_b80c {p : Program} {e : Env} {s : State} {m : MethodId} {args : Array Value} {below : List Frame} {meth : Method} {c : Code} (l : Launch) (D : va_G) (k : Nat → ClassId) (a : Nat → Nat) (A : Nat → Prop) (C0 : q_C p s m meth c args RX10 cX10_bestNudge 8 (some .int) wsX10_bestNudge D (tyL k) A) (R : Int32 × T2) (pk23 : T2 → Int32 → Int32 → Int32 → Int32 → Int32 → Int32 × T2) (sk23 : T2 → Int32 → Int32 → Int32 → Int32 → Int32 → Prop) (hk23 : ∀ (σ : T2) (v1 : Int32) (v2 : Int32) (v3 : Int32) (v4 : Int32) (v5 : Int32), sk23 σ v1 v2 v3 v4 v5 → pk23 σ v1 v2 v3 v4 v5 = R → ∀ (H : Heap) (locs : List Loc) (ls : Array Slot), q_W D A s.heap (wX10 k a σ) H locs → lv_has ls 8 [(0, .ref (a 0)), (1, .int v1), (2, .int v2), (3, .int v3), (4, .int v4), (5, .int v5)] → W p l e { frames := 5, cells := 0, slots := 0, locals := 119 } s m args below meth c H locs 0 0 (MQ below (va_Qi (fun r u => (r, u) = R) (fun u => q_E D (tyL k) A (wX10 k a u)) A) args s 0 0 A) (F0 m 23 ls [])) : ∀ (σ : T2) (v1 : Int32) (v2 : Int32) (v3 : Int32) (v4 : Int32) (v5 : Int32), S_X10_bestNudge_b80c sk23 σ v1 v2 v3 v4 v5 → P_X10_bestNudge_b80c pk23 σ v1 v2 v3 v4 v5 = R → ∀ (H : Heap) (locs : List Loc) (ls : Array Slot), q_W D A s.heap (wX10 k a σ) H locs → lv_has ls 8 [(0, .ref (a 0)), (1, .int v1), (2, .int v2), (3, .int v3), (4, .int v4), (5, .int v5)] → W p l e { frames := 5, cells := 0, slots := 0, locals := 119 } s m args below meth c H locs 0 0 (MQ below (va_Qi (fun r u => (r, u) = R) (fun u => q_E D (tyL k) A (wX10 k a u)) A) args s 0 0 A) (F0 m 80 ls []) := by
  intro σ v1 v2 v3 v4 v5 hs hR H locs ls hW hl
  rw [P_X10_bestNudge_b80c_e] at hR
  rw [S_X10_bestNudge_b80c_e] at hs
  obtain ⟨hx, hb, hr, hml, hts, hown, hlocks, hK, hA⟩ := id C0
  have hf7 := hts (.fieldLink RX10 7 "BeatFollowerModel" "at" "[I") (by decide +kernel)
  have hinX10 : ∀ w ∈ u_ws RX10 TX10 18, w ∈ wsX10_bestNudge := hin_X10_bestNudge_X10
  refine lv_aload_n hx hb dX10_bestNudge_80 rfl (lv_at hl 0 rfl) ?_
  refine va_get (v := .ref (a 1)) (C := RX10) (T := TX10) (N := 18) hx hb hts hinX10 hown hK hW.1 0 rfl rfl 0 (by decide) hf7 (fun _ h9 => h9) rfl dX10_bestNudge_81 ?_
  refine lv_bipush (v := (18 : Int32)) hx hb dX10_bestNudge_84 (by decide) ?_
  refine q_iald (v := σ 1 18) C0 hW 1 rfl rfl vi_18_672 cl_18 rfl dX10_bestNudge_86 ?_
  refine lv_istore (lv' := [(6, .int (σ 1 18)), (0, .ref (a 0)), (1, .int v1), (2, .int v2), (3, .int v3), (4, .int v4), (5, .int v5)]) hx hb dX10_bestNudge_87 hl (by decide) rfl (fun ls hl => ?_)
  refine lv_aload_n hx hb dX10_bestNudge_89 rfl (lv_at hl 1 rfl) ?_
  refine va_get (v := .ref (a 1)) (C := RX10) (T := TX10) (N := 18) hx hb hts hinX10 hown hK hW.1 0 rfl rfl 0 (by decide) hf7 (fun _ h9 => h9) rfl dX10_bestNudge_90 ?_
  refine lv_bipush (v := (26 : Int32)) hx hb dX10_bestNudge_93 (by decide) ?_
  refine q_iald (v := σ 1 26) C0 hW 1 rfl rfl vi_26_672 cl_26 rfl dX10_bestNudge_95 ?_
  refine lv_istore (lv' := [(7, .int (σ 1 26)), (6, .int (σ 1 18)), (0, .ref (a 0)), (1, .int v1), (2, .int v2), (3, .int v3), (4, .int v4), (5, .int v5)]) hx hb dX10_bestNudge_96 hl (by decide) rfl (fun ls hl => ?_)
  refine lv_aload_n hx hb dX10_bestNudge_98 rfl (lv_at hl 2 rfl) ?_
  have hs9 := hs.1
  have hs := hs.2
  refine q_Vv (As := []) (rest := []) (wf := wX10 k a) (R := P_X10_layBack σ) (wd' := wX10 k a (P_X10_layBack σ)) [0, 1, 2, 3, 4, 5, 6, 7, 8] [0, 1, 2, 3] 0 10 C0 hW (m_X10_layBack l D k a H.size σ  hs9) (cwV 0 hts gX10_bestNudge_X10_layBack rfl rfl rfl hd_X10_layBack ⟨Nat.le_of_ble_eq_true rfl, Nat.le_of_ble_eq_true rfl⟩) (by decide) (wX10_pl k a _) rfl (wX10_rec k a _) rfl (wX10_fst k a _ _) (wX10_put k a _ _) hl rfl rfl (Nat.le_of_ble_eq_true rfl) dX10_bestNudge_99 ⟨Nat.le_refl 0, Nat.le_refl 0⟩ (fun H locs hW => ?_)
  exact b_X10_bestNudge_b102c l D k a A C0 R pk23 sk23 hk23 (P_X10_layBack σ) v1 v2 v3 v4 v5 (σ 1 18) (σ 1 26) hs hR H locs ls hW (lv_sub hl [2, 3, 4, 5, 6, 7, 1, 0] rfl)
set_option maxHeartbeats 400000 in
set_option maxRecDepth 100000 in
theorem b_X10_bestNudge_b77 {p : Program} {e : Env} {s : State} {m : MethodId} {args : Array Value} {below : List Frame} {meth : Method} {c : Code} (l : Launch) (D : va_G) (k : Nat → ClassId) (a : Nat → Nat) (A : Nat → Prop) (C0 : q_C p s m meth c args RX10 cX10_bestNudge 8 (some .int) wsX10_bestNudge D (tyL k) A) (R : Int32 × T2) (pk23 : T2 → Int32 → Int32 → Int32 → Int32 → Int32 → Int32 × T2) (sk23 : T2 → Int32 → Int32 → Int32 → Int32 → Int32 → Prop) (hk23 : ∀ (σ : T2) (v1 : Int32) (v2 : Int32) (v3 : Int32) (v4 : Int32) (v5 : Int32), sk23 σ v1 v2 v3 v4 v5 → pk23 σ v1 v2 v3 v4 v5 = R → ∀ (H : Heap) (locs : List Loc) (ls : Array Slot), q_W D A s.heap (wX10 k a σ) H locs → lv_has ls 8 [(0, .ref (a 0)), (1, .int v1), (2, .int v2), (3, .int v3), (4, .int v4), (5, .int v5)] → W p l e { frames := 5, cells := 0, slots := 0, locals := 119 } s m args below meth c H locs 0 0 (MQ below (va_Qi (fun r u => (r, u) = R) (fun u => q_E D (tyL k) A (wX10 k a u)) A) args s 0 0 A) (F0 m 23 ls [])) : ∀ (σ : T2) (v1 : Int32) (v2 : Int32) (v3 : Int32) (v4 : Int32) (v5 : Int32) (t0 : Int32) (t1 : Int32), S_X10_bestNudge_b77 sk23 σ v1 v2 v3 v4 v5 t0 t1 → P_X10_bestNudge_b77 pk23 σ v1 v2 v3 v4 v5 t0 t1 = R → ∀ (H : Heap) (locs : List Loc) (ls : Array Slot), q_W D A s.heap (wX10 k a σ) H locs → lv_has ls 8 [(0, .ref (a 0)), (1, .int v1), (2, .int v2), (3, .int v3), (4, .int v4), (5, .int v5)] → W p l e { frames := 5, cells := 0, slots := 0, locals := 119 } s m args below meth c H locs 0 0 (MQ below (va_Qi (fun r u => (r, u) = R) (fun u => q_E D (tyL k) A (wX10 k a u)) A) args s 0 0 A) (F0 m 77 ls [.int t0, .int t1, .ref (a 0)]) := by
  intro σ v1 v2 v3 v4 v5 t0 t1 hs hR H locs ls hW hl
  rw [P_X10_bestNudge_b77_e] at hR
  rw [S_X10_bestNudge_b77_e] at hs
  obtain ⟨hx, hb, hr, hml, hts, hown, hlocks, hK, hA⟩ := id C0
  have hs8 := hs.1
  have hs := hs.2
  refine q_Vv (As := [.int t1, .int t0]) (rest := []) (wf := wX10 k a) (R := P_X10_playAll σ t1 t0) (wd' := wX10 k a (P_X10_playAll σ t1 t0)) [0, 1, 2, 3, 4, 5, 6, 7, 8] [0, 1, 2, 3] 0 10 C0 hW (m_X10_playAll l D k a H.size σ t1 t0 hs8) (cwV 2 hts gX10_bestNudge_X10_playAll rfl rfl rfl hd_X10_playAll ⟨Nat.le_of_ble_eq_true rfl, Nat.le_of_ble_eq_true rfl⟩) (by decide) (wX10_pl k a _) rfl (wX10_rec k a _) rfl (wX10_fst k a _ _) (wX10_put k a _ _) hl rfl rfl (Nat.le_of_ble_eq_true rfl) dX10_bestNudge_77 ⟨Nat.le_refl 0, Nat.le_refl 0⟩ (fun H locs hW => ?_)
  exact b_X10_bestNudge_b80c l D k a A C0 R pk23 sk23 hk23 (P_X10_playAll σ t1 t0) v1 v2 v3 v4 v5 hs hR H locs ls hW (lv_sub hl [0, 1, 2, 3, 4, 5] rfl)
set_option maxHeartbeats 400000 in
set_option maxRecDepth 100000 in
theorem b_X10_bestNudge_b61 {p : Program} {e : Env} {s : State} {m : MethodId} {args : Array Value} {below : List Frame} {meth : Method} {c : Code} (l : Launch) (D : va_G) (k : Nat → ClassId) (a : Nat → Nat) (A : Nat → Prop) (C0 : q_C p s m meth c args RX10 cX10_bestNudge 8 (some .int) wsX10_bestNudge D (tyL k) A) (R : Int32 × T2) (pk23 : T2 → Int32 → Int32 → Int32 → Int32 → Int32 → Int32 × T2) (sk23 : T2 → Int32 → Int32 → Int32 → Int32 → Int32 → Prop) (hk23 : ∀ (σ : T2) (v1 : Int32) (v2 : Int32) (v3 : Int32) (v4 : Int32) (v5 : Int32), sk23 σ v1 v2 v3 v4 v5 → pk23 σ v1 v2 v3 v4 v5 = R → ∀ (H : Heap) (locs : List Loc) (ls : Array Slot), q_W D A s.heap (wX10 k a σ) H locs → lv_has ls 8 [(0, .ref (a 0)), (1, .int v1), (2, .int v2), (3, .int v3), (4, .int v4), (5, .int v5)] → W p l e { frames := 5, cells := 0, slots := 0, locals := 119 } s m args below meth c H locs 0 0 (MQ below (va_Qi (fun r u => (r, u) = R) (fun u => q_E D (tyL k) A (wX10 k a u)) A) args s 0 0 A) (F0 m 23 ls [])) : ∀ (σ : T2) (v1 : Int32) (v2 : Int32) (v3 : Int32) (v4 : Int32) (v5 : Int32) (t0 : Int32), S_X10_bestNudge_b61 sk23 σ v1 v2 v3 v4 v5 t0 → P_X10_bestNudge_b61 pk23 σ v1 v2 v3 v4 v5 t0 = R → ∀ (H : Heap) (locs : List Loc) (ls : Array Slot), q_W D A s.heap (wX10 k a σ) H locs → lv_has ls 8 [(0, .ref (a 0)), (1, .int v1), (2, .int v2), (3, .int v3), (4, .int v4), (5, .int v5)] → W p l e { frames := 5, cells := 0, slots := 0, locals := 119 } s m args below meth c H locs 0 0 (MQ below (va_Qi (fun r u => (r, u) = R) (fun u => q_E D (tyL k) A (wX10 k a u)) A) args s 0 0 A) (F0 m 61 ls [.int t0, .ref (a 0)]) := by
  intro σ v1 v2 v3 v4 v5 t0 hs hR H locs ls hW hl
  rw [P_X10_bestNudge_b61_e] at hR
  rw [S_X10_bestNudge_b61_e] at hs
  obtain ⟨hx, hb, hr, hml, hts, hown, hlocks, hK, hA⟩ := id C0
  have hf7 := hts (.fieldLink RX10 7 "BeatFollowerModel" "at" "[I") (by decide +kernel)
  have hinX10 : ∀ w ∈ u_ws RX10 TX10 18, w ∈ wsX10_bestNudge := hin_X10_bestNudge_X10
  refine lv_iload_n hx hb dX10_bestNudge_61 rfl (lv_at hl 1 rfl) ?_
  refine lv_iconst (v := (3 : Int32)) hx hb dX10_bestNudge_62 (by decide) ?_
  refine lv_icmp_ne (tgt := 71) hx hb dX10_bestNudge_63 (by decide) (fun c_7 => ?_) (fun c_7 => ?_)
  · have hs := hs.2 c_7
    rw [if_neg c_7] at hR
    refine lv_aload_n hx hb dX10_bestNudge_71 rfl (lv_at hl 0 rfl) ?_
    refine va_get (v := .ref (a 1)) (C := RX10) (T := TX10) (N := 18) hx hb hts hinX10 hown hK hW.1 0 rfl rfl 0 (by decide) hf7 (fun _ h9 => h9) rfl dX10_bestNudge_72 ?_
    refine lv_iconst (v := (3 : Int32)) hx hb dX10_bestNudge_75 (by decide) ?_
    refine q_iald (v := σ 1 3) C0 hW 1 rfl rfl vi_3_672 cl_3 rfl dX10_bestNudge_76 ?_
    exact b_X10_bestNudge_b77 l D k a A C0 R pk23 sk23 hk23 σ v1 v2 v3 v4 v5 (σ 1 3) t0 hs hR H locs ls hW (lv_sub hl [0, 1, 2, 3, 4, 5] rfl)
  · have hs := hs.1 c_7
    rw [if_pos c_7] at hR
    refine lv_iload hx hb dX10_bestNudge_66 (lv_at hl 5 rfl) ?_
    refine lv_goto (tgt := 77) hx hb dX10_bestNudge_68 (by decide) ?_
    exact b_X10_bestNudge_b77 l D k a A C0 R pk23 sk23 hk23 σ v1 v2 v3 v4 v5 v5 t0 hs hR H locs ls hW (lv_sub hl [0, 1, 2, 3, 4, 5] rfl)
set_option maxHeartbeats 400000 in
set_option maxRecDepth 100000 in
theorem b_X10_bestNudge_b44c {p : Program} {e : Env} {s : State} {m : MethodId} {args : Array Value} {below : List Frame} {meth : Method} {c : Code} (l : Launch) (D : va_G) (k : Nat → ClassId) (a : Nat → Nat) (A : Nat → Prop) (C0 : q_C p s m meth c args RX10 cX10_bestNudge 8 (some .int) wsX10_bestNudge D (tyL k) A) (R : Int32 × T2) (pk23 : T2 → Int32 → Int32 → Int32 → Int32 → Int32 → Int32 × T2) (sk23 : T2 → Int32 → Int32 → Int32 → Int32 → Int32 → Prop) (hk23 : ∀ (σ : T2) (v1 : Int32) (v2 : Int32) (v3 : Int32) (v4 : Int32) (v5 : Int32), sk23 σ v1 v2 v3 v4 v5 → pk23 σ v1 v2 v3 v4 v5 = R → ∀ (H : Heap) (locs : List Loc) (ls : Array Slot), q_W D A s.heap (wX10 k a σ) H locs → lv_has ls 8 [(0, .ref (a 0)), (1, .int v1), (2, .int v2), (3, .int v3), (4, .int v4), (5, .int v5)] → W p l e { frames := 5, cells := 0, slots := 0, locals := 119 } s m args below meth c H locs 0 0 (MQ below (va_Qi (fun r u => (r, u) = R) (fun u => q_E D (tyL k) A (wX10 k a u)) A) args s 0 0 A) (F0 m 23 ls [])) : ∀ (σ : T2) (v1 : Int32) (v2 : Int32) (v3 : Int32) (v4 : Int32) (v5 : Int32), S_X10_bestNudge_b44c sk23 σ v1 v2 v3 v4 v5 → P_X10_bestNudge_b44c pk23 σ v1 v2 v3 v4 v5 = R → ∀ (H : Heap) (locs : List Loc) (ls : Array Slot), q_W D A s.heap (wX10 k a σ) H locs → lv_has ls 8 [(0, .ref (a 0)), (1, .int v1), (2, .int v2), (3, .int v3), (4, .int v4), (5, .int v5)] → W p l e { frames := 5, cells := 0, slots := 0, locals := 119 } s m args below meth c H locs 0 0 (MQ below (va_Qi (fun r u => (r, u) = R) (fun u => q_E D (tyL k) A (wX10 k a u)) A) args s 0 0 A) (F0 m 44 ls []) := by
  intro σ v1 v2 v3 v4 v5 hs hR H locs ls hW hl
  rw [P_X10_bestNudge_b44c_e] at hR
  rw [S_X10_bestNudge_b44c_e] at hs
  obtain ⟨hx, hb, hr, hml, hts, hown, hlocks, hK, hA⟩ := id C0
  have hf7 := hts (.fieldLink RX10 7 "BeatFollowerModel" "at" "[I") (by decide +kernel)
  have hinX10 : ∀ w ∈ u_ws RX10 TX10 18, w ∈ wsX10_bestNudge := hin_X10_bestNudge_X10
  refine lv_aload_n hx hb dX10_bestNudge_44 rfl (lv_at hl 0 rfl) ?_
  refine lv_iload_n hx hb dX10_bestNudge_45 rfl (lv_at hl 1 rfl) ?_
  refine lv_iconst (v := (2 : Int32)) hx hb dX10_bestNudge_46 (by decide) ?_
  refine lv_icmp_ne (tgt := 55) hx hb dX10_bestNudge_47 (by decide) (fun c_6 => ?_) (fun c_6 => ?_)
  · have hs := hs.2 c_6
    rw [if_neg c_6] at hR
    refine lv_aload_n hx hb dX10_bestNudge_55 rfl (lv_at hl 0 rfl) ?_
    refine va_get (v := .ref (a 1)) (C := RX10) (T := TX10) (N := 18) hx hb hts hinX10 hown hK hW.1 0 rfl rfl 0 (by decide) hf7 (fun _ h9 => h9) rfl dX10_bestNudge_56 ?_
    refine lv_iconst (v := (2 : Int32)) hx hb dX10_bestNudge_59 (by decide) ?_
    refine q_iald (v := σ 1 2) C0 hW 1 rfl rfl vi_2_672 cl_2 rfl dX10_bestNudge_60 ?_
    exact b_X10_bestNudge_b61 l D k a A C0 R pk23 sk23 hk23 σ v1 v2 v3 v4 v5 (σ 1 2) hs hR H locs ls hW (lv_sub hl [0, 1, 2, 3, 4, 5] rfl)
  · have hs := hs.1 c_6
    rw [if_pos c_6] at hR
    refine lv_iload hx hb dX10_bestNudge_50 (lv_at hl 5 rfl) ?_
    refine lv_goto (tgt := 61) hx hb dX10_bestNudge_52 (by decide) ?_
    exact b_X10_bestNudge_b61 l D k a A C0 R pk23 sk23 hk23 σ v1 v2 v3 v4 v5 v5 hs hR H locs ls hW (lv_sub hl [0, 1, 2, 3, 4, 5] rfl)
set_option maxHeartbeats 400000 in
set_option maxRecDepth 100000 in
theorem b_X10_bestNudge_b23 {p : Program} {e : Env} {s : State} {m : MethodId} {args : Array Value} {below : List Frame} {meth : Method} {c : Code} (l : Launch) (D : va_G) (k : Nat → ClassId) (a : Nat → Nat) (A : Nat → Prop) (C0 : q_C p s m meth c args RX10 cX10_bestNudge 8 (some .int) wsX10_bestNudge D (tyL k) A) (R : Int32 × T2) : ∀ n : Nat, ∀ (σ : T2) (v1 : Int32) (v2 : Int32) (v3 : Int32) (v4 : Int32) (v5 : Int32), S_X10_bestNudge_b23 n σ v1 v2 v3 v4 v5 → P_X10_bestNudge_b23 n σ v1 v2 v3 v4 v5 = R → ∀ (H : Heap) (locs : List Loc) (ls : Array Slot), q_W D A s.heap (wX10 k a σ) H locs → lv_has ls 8 [(0, .ref (a 0)), (1, .int v1), (2, .int v2), (3, .int v3), (4, .int v4), (5, .int v5)] → W p l e { frames := 5, cells := 0, slots := 0, locals := 119 } s m args below meth c H locs 0 0 (MQ below (va_Qi (fun r u => (r, u) = R) (fun u => q_E D (tyL k) A (wX10 k a u)) A) args s 0 0 A) (F0 m 23 ls []) := by
  intro n
  induction n with
  | zero => intro σ v1 v2 v3 v4 v5 hs; exact False.elim hs
  | succ n ih =>
    intro σ v1 v2 v3 v4 v5 hs hR H locs ls hW hl
    rw [P_X10_bestNudge_b23_e] at hR
    rw [S_X10_bestNudge_b23_e] at hs
    obtain ⟨hx, hb, hr, hml, hts, hown, hlocks, hK, hA⟩ := id C0
    have hf7 := hts (.fieldLink RX10 7 "BeatFollowerModel" "at" "[I") (by decide +kernel)
    have hinX10 : ∀ w ∈ u_ws RX10 TX10 18, w ∈ wsX10_bestNudge := hin_X10_bestNudge_X10
    refine lv_iload hx hb dX10_bestNudge_23 (lv_at hl 5 rfl) ?_
    refine lv_bipush (v := (16 : Int32)) hx hb dX10_bestNudge_25 (by decide) ?_
    refine lv_icmp_gt (tgt := 141) hx hb dX10_bestNudge_27 (by decide) (fun c_3 => ?_) (fun c_3 => ?_)
    · have hs := hs.1 c_3
      rw [if_pos c_3] at hR
      refine lv_iload_n hx hb dX10_bestNudge_141 rfl (lv_at hl 2 rfl) ?_
      exact q_iret C0 hW hR dX10_bestNudge_142
    · have hs := hs.2 c_3
      rw [if_neg c_3] at hR
      refine lv_aload_n hx hb dX10_bestNudge_30 rfl (lv_at hl 0 rfl) ?_
      refine va_get (v := .ref (a 1)) (C := RX10) (T := TX10) (N := 18) hx hb hts hinX10 hown hK hW.1 0 rfl rfl 0 (by decide) hf7 (fun _ h9 => h9) rfl dX10_bestNudge_31 ?_
      refine lv_bipush (v := (22 : Int32)) hx hb dX10_bestNudge_34 (by decide) ?_
      refine q_iald (v := σ 1 22) C0 hW 1 rfl rfl vi_22_672 cl_22 rfl dX10_bestNudge_36 ?_
      refine lv_if_le (tgt := 141) hx hb dX10_bestNudge_37 (by decide) (fun c_4 => ?_) (fun c_4 => ?_)
      · have hs := hs.1 c_4
        rw [if_pos c_4] at hR
        refine lv_iload_n hx hb dX10_bestNudge_141 rfl (lv_at hl 2 rfl) ?_
        exact q_iret C0 hW hR dX10_bestNudge_142
      · have hs := hs.2 c_4
        rw [if_neg c_4] at hR
        refine lv_aload_n hx hb dX10_bestNudge_40 rfl (lv_at hl 0 rfl) ?_
        have hs5 := hs.1
        have hs := hs.2
        refine q_Vv (As := []) (rest := []) (wf := wX10 k a) (R := P_X10_layAside σ) (wd' := wX10 k a (P_X10_layAside σ)) [0, 1, 2, 3, 4, 5, 6, 7, 8] [0, 1, 2, 3] 0 10 C0 hW (m_X10_layAside l D k a H.size σ  hs5) (cwV 0 hts gX10_bestNudge_X10_layAside rfl rfl rfl hd_X10_layAside ⟨Nat.le_of_ble_eq_true rfl, Nat.le_of_ble_eq_true rfl⟩) (by decide) (wX10_pl k a _) rfl (wX10_rec k a _) rfl (wX10_fst k a _ _) (wX10_put k a _ _) hl rfl rfl (Nat.le_of_ble_eq_true rfl) dX10_bestNudge_41 ⟨Nat.le_refl 0, Nat.le_refl 0⟩ (fun H locs hW => ?_)
        exact b_X10_bestNudge_b44c l D k a A C0 R _ _ ih (P_X10_layAside σ) v1 v2 v3 v4 v5 hs hR H locs ls hW (lv_sub hl [0, 1, 2, 3, 4, 5] rfl)
set_option maxHeartbeats 400000 in
set_option maxRecDepth 100000 in
theorem b_X10_bestNudge_b0 {p : Program} {e : Env} {s : State} {m : MethodId} {args : Array Value} {below : List Frame} {meth : Method} {c : Code} (l : Launch) (D : va_G) (k : Nat → ClassId) (a : Nat → Nat) (A : Nat → Prop) (C0 : q_C p s m meth c args RX10 cX10_bestNudge 8 (some .int) wsX10_bestNudge D (tyL k) A) (R : Int32 × T2) : ∀ (σ : T2) (v1 : Int32), S_X10_bestNudge_b0 σ v1 → P_X10_bestNudge_b0 σ v1 = R → ∀ (H : Heap) (locs : List Loc) (ls : Array Slot), q_W D A s.heap (wX10 k a σ) H locs → lv_has ls 8 [(0, .ref (a 0)), (1, .int v1)] → W p l e { frames := 5, cells := 0, slots := 0, locals := 119 } s m args below meth c H locs 0 0 (MQ below (va_Qi (fun r u => (r, u) = R) (fun u => q_E D (tyL k) A (wX10 k a u)) A) args s 0 0 A) (F0 m 0 ls []) := by
  intro σ v1 hs hR H locs ls hW hl
  rw [P_X10_bestNudge_b0_e] at hR
  rw [S_X10_bestNudge_b0_e] at hs
  obtain ⟨hx, hb, hr, hml, hts, hown, hlocks, hK, hA⟩ := id C0
  refine lv_iload_n hx hb dX10_bestNudge_0 rfl (lv_at hl 1 rfl) ?_
  refine lv_iconst (v := (2 : Int32)) hx hb dX10_bestNudge_1 (by decide) ?_
  refine lv_iconst (v := (3 : Int32)) hx hb dX10_bestNudge_2 (by decide) ?_
  have hs1 := hs.1
  have hs := hs.2
  refine q_Si (As := [.int v1, .int (2 : Int32), .int (3 : Int32)]) (rest := []) (R := P_X10_in v1 (2 : Int32) (3 : Int32)) ⟨hx, hb, hml, hown, hts⟩ (m_X10_in l v1 (2 : Int32) (3 : Int32) hs1) (va_cwS 3 hts gX10_bestNudge_X10_in rfl rfl rfl hd_X10_in ⟨Nat.le_of_ble_eq_true rfl, Nat.le_of_ble_eq_true rfl⟩) hl rfl rfl (Nat.le_of_ble_eq_true rfl) dX10_bestNudge_3 ⟨Nat.le_refl 0, Nat.le_refl 0⟩ ?_
  refine lv_if_ne (tgt := 12) hx hb dX10_bestNudge_6 (by decide) (fun c_2 => ?_) (fun c_2 => ?_)
  · have hs := hs.2 c_2
    rw [if_neg c_2] at hR
    refine lv_bipush (v := (-6 : Int32)) hx hb dX10_bestNudge_12 (by decide) ?_
    refine lv_istore_n (lv' := [(2, .int (-6 : Int32)), (0, .ref (a 0)), (1, .int v1)]) hx hb dX10_bestNudge_14 rfl hl (by decide) rfl (fun ls hl => ?_)
    refine lv_iconst (v := (0 : Int32)) hx hb dX10_bestNudge_15 (by decide) ?_
    refine lv_istore_n (lv' := [(3, .int (0 : Int32)), (2, .int (-6 : Int32)), (0, .ref (a 0)), (1, .int v1)]) hx hb dX10_bestNudge_16 rfl hl (by decide) rfl (fun ls hl => ?_)
    refine lv_iconst (v := (0 : Int32)) hx hb dX10_bestNudge_17 (by decide) ?_
    refine lv_istore (lv' := [(4, .int (0 : Int32)), (3, .int (0 : Int32)), (2, .int (-6 : Int32)), (0, .ref (a 0)), (1, .int v1)]) hx hb dX10_bestNudge_18 hl (by decide) rfl (fun ls hl => ?_)
    refine lv_iconst (v := (0 : Int32)) hx hb dX10_bestNudge_20 (by decide) ?_
    refine lv_istore (lv' := [(5, .int (0 : Int32)), (4, .int (0 : Int32)), (3, .int (0 : Int32)), (2, .int (-6 : Int32)), (0, .ref (a 0)), (1, .int v1)]) hx hb dX10_bestNudge_21 hl (by decide) rfl (fun ls hl => ?_)
    exact b_X10_bestNudge_b23 l D k a A C0 R FU σ v1 (-6 : Int32) (0 : Int32) (0 : Int32) (0 : Int32) hs hR H locs ls hW (lv_sub hl [4, 5, 3, 2, 1, 0] rfl)
  · have hs := hs.1 c_2
    rw [if_pos c_2] at hR
    refine lv_bipush (v := (-2 : Int32)) hx hb dX10_bestNudge_9 (by decide) ?_
    exact q_iret C0 hW hR dX10_bestNudge_11
set_option maxHeartbeats 400000 in
set_option maxRecDepth 100000 in
theorem m_X10_bestNudge (l : Launch) (D : va_G) (k : Nat → ClassId) (a : Nat → Nat) (sz : Nat) (σ : T2) (p0 : Int32) (hs : S_X10_bestNudge σ p0) : Met l yX10_bestNudge wsX10_bestNudge { frames := 5, cells := 0, slots := 0, locals := 119 } (va_Pc [.ref (a 0), .int p0] (q_B D (tyL k) (wX10 k a σ) sz)) (va_Qi (fun r u => (r, u) = P_X10_bestNudge σ p0) (fun u => q_E D (tyL k) (va_A (wX10 k a σ) sz) (wX10 k a u)) (va_A (wX10 k a σ) sz)) 0 0 (va_A (wX10 k a σ) sz) := by
  refine q_met [.ref (a 0), .int p0] (wX10 k a σ) sz (cc := cX10_bestNudge) (maxL := 8) (ret := (some .int)) (by decide) rfl (Nat.le_of_ble_eq_true rfl) ?_
  intro p e s m args below meth c ls hsz C0 hW hl hin
  subst hsz
  exact b_X10_bestNudge_b0 l D k a _ C0 _ σ p0 hs rfl s.heap [] ls hW (lv_sub hl [0, 1] rfl)
theorem hin_X10_worstBeat_X10 : ∀ w ∈ u_ws RX10 TX10 18, w ∈ wsX10_worstBeat := by decide +kernel
theorem hd_X10_worstBeat : yX10_worstBeat.cls = RX10 ∧ yX10_worstBeat.cls ≠ "java/lang/invoke/MethodHandle" ∧ yX10_worstBeat.cls ≠ "java/lang/invoke/VarHandle" ∧ (parseMethodDescriptor yX10_worstBeat.desc).map (fun d => d.parameters.length) = some 1 := by decide +kernel
noncomputable def P_X10_worstBeat_b94 (pk21 : T2 → Int32 → Int32 → Int32 → Int32 → Int32 × T2) (σ : T2) (v1 : Int32) (v2 : Int32) (v3 : Int32) (v4 : Int32) : Int32 × T2 := pk21 σ v1 v2 v3 (v4 + (1 : Int32))
def S_X10_worstBeat_b94 (sk21 : T2 → Int32 → Int32 → Int32 → Int32 → Prop) (σ : T2) (v1 : Int32) (v2 : Int32) (v3 : Int32) (v4 : Int32) : Prop := sk21 σ v1 v2 v3 (v4 + (1 : Int32))
theorem P_X10_worstBeat_b94_e (pk21 : T2 → Int32 → Int32 → Int32 → Int32 → Int32 × T2) (σ : T2) (v1 : Int32) (v2 : Int32) (v3 : Int32) (v4 : Int32) : P_X10_worstBeat_b94 pk21 σ v1 v2 v3 v4 = pk21 σ v1 v2 v3 (v4 + (1 : Int32)) := rfl
theorem S_X10_worstBeat_b94_e (sk21 : T2 → Int32 → Int32 → Int32 → Int32 → Prop) (σ : T2) (v1 : Int32) (v2 : Int32) (v3 : Int32) (v4 : Int32) : S_X10_worstBeat_b94 sk21 σ v1 v2 v3 v4 = (sk21 σ v1 v2 v3 (v4 + (1 : Int32))) := rfl
noncomputable def P_X10_worstBeat_b88 (pk21 : T2 → Int32 → Int32 → Int32 → Int32 → Int32 × T2) (σ : T2) (v1 : Int32) (v4 : Int32) (v5 : Int32) : Int32 × T2 := P_X10_worstBeat_b94 pk21 σ v1 v4 v5 v4
def S_X10_worstBeat_b88 (sk21 : T2 → Int32 → Int32 → Int32 → Int32 → Prop) (σ : T2) (v1 : Int32) (v4 : Int32) (v5 : Int32) : Prop := S_X10_worstBeat_b94 sk21 σ v1 v4 v5 v4
theorem P_X10_worstBeat_b88_e (pk21 : T2 → Int32 → Int32 → Int32 → Int32 → Int32 × T2) (σ : T2) (v1 : Int32) (v4 : Int32) (v5 : Int32) : P_X10_worstBeat_b88 pk21 σ v1 v4 v5 = P_X10_worstBeat_b94 pk21 σ v1 v4 v5 v4 := rfl
theorem S_X10_worstBeat_b88_e (sk21 : T2 → Int32 → Int32 → Int32 → Int32 → Prop) (σ : T2) (v1 : Int32) (v4 : Int32) (v5 : Int32) : S_X10_worstBeat_b88 sk21 σ v1 v4 v5 = (S_X10_worstBeat_b94 sk21 σ v1 v4 v5 v4) := rfl
noncomputable def P_X10_worstBeat_b78c (pk21 : T2 → Int32 → Int32 → Int32 → Int32 → Int32 × T2) (σ : T2) (v1 : Int32) (v2 : Int32) (v3 : Int32) (v4 : Int32) (v5 : Int32) : Int32 × T2 := if v2 < 0 then (P_X10_worstBeat_b88 pk21 σ v1 v4 v5) else (if v3 ≤ v5 then (P_X10_worstBeat_b94 pk21 σ v1 v2 v3 v4) else (P_X10_worstBeat_b88 pk21 σ v1 v4 v5))
def S_X10_worstBeat_b78c (sk21 : T2 → Int32 → Int32 → Int32 → Int32 → Prop) (σ : T2) (v1 : Int32) (v2 : Int32) (v3 : Int32) (v4 : Int32) (v5 : Int32) : Prop := (v2 < 0 → (S_X10_worstBeat_b88 sk21 σ v1 v4 v5)) ∧ (¬ (v2 < 0) → ((v3 ≤ v5 → (S_X10_worstBeat_b94 sk21 σ v1 v2 v3 v4)) ∧ (¬ (v3 ≤ v5) → (S_X10_worstBeat_b88 sk21 σ v1 v4 v5))))
theorem P_X10_worstBeat_b78c_e (pk21 : T2 → Int32 → Int32 → Int32 → Int32 → Int32 × T2) (σ : T2) (v1 : Int32) (v2 : Int32) (v3 : Int32) (v4 : Int32) (v5 : Int32) : P_X10_worstBeat_b78c pk21 σ v1 v2 v3 v4 v5 = if v2 < 0 then (P_X10_worstBeat_b88 pk21 σ v1 v4 v5) else (if v3 ≤ v5 then (P_X10_worstBeat_b94 pk21 σ v1 v2 v3 v4) else (P_X10_worstBeat_b88 pk21 σ v1 v4 v5)) := rfl
theorem S_X10_worstBeat_b78c_e (sk21 : T2 → Int32 → Int32 → Int32 → Int32 → Prop) (σ : T2) (v1 : Int32) (v2 : Int32) (v3 : Int32) (v4 : Int32) (v5 : Int32) : S_X10_worstBeat_b78c sk21 σ v1 v2 v3 v4 v5 = ((v2 < 0 → (S_X10_worstBeat_b88 sk21 σ v1 v4 v5)) ∧ (¬ (v2 < 0) → ((v3 ≤ v5 → (S_X10_worstBeat_b94 sk21 σ v1 v2 v3 v4)) ∧ (¬ (v3 ≤ v5) → (S_X10_worstBeat_b88 sk21 σ v1 v4 v5))))) := rfl
noncomputable def P_X10_worstBeat_b59c (pk21 : T2 → Int32 → Int32 → Int32 → Int32 → Int32 × T2) (σ : T2) (v1 : Int32) (v2 : Int32) (v3 : Int32) (v4 : Int32) : Int32 × T2 := P_X10_worstBeat_b78c pk21 (P_X10_layBack (u2 σ 0 (upd (σ 0) 7 (-6 : Int32)))) v1 v2 v3 v4 (σ 1 18)
def S_X10_worstBeat_b59c (sk21 : T2 → Int32 → Int32 → Int32 → Int32 → Prop) (σ : T2) (v1 : Int32) (v2 : Int32) (v3 : Int32) (v4 : Int32) : Prop := (S_X10_layBack (u2 σ 0 (upd (σ 0) 7 (-6 : Int32))) ) ∧ (S_X10_worstBeat_b78c sk21 (P_X10_layBack (u2 σ 0 (upd (σ 0) 7 (-6 : Int32)))) v1 v2 v3 v4 (σ 1 18))
theorem P_X10_worstBeat_b59c_e (pk21 : T2 → Int32 → Int32 → Int32 → Int32 → Int32 × T2) (σ : T2) (v1 : Int32) (v2 : Int32) (v3 : Int32) (v4 : Int32) : P_X10_worstBeat_b59c pk21 σ v1 v2 v3 v4 = P_X10_worstBeat_b78c pk21 (P_X10_layBack (u2 σ 0 (upd (σ 0) 7 (-6 : Int32)))) v1 v2 v3 v4 (σ 1 18) := rfl
theorem S_X10_worstBeat_b59c_e (sk21 : T2 → Int32 → Int32 → Int32 → Int32 → Prop) (σ : T2) (v1 : Int32) (v2 : Int32) (v3 : Int32) (v4 : Int32) : S_X10_worstBeat_b59c sk21 σ v1 v2 v3 v4 = ((S_X10_layBack (u2 σ 0 (upd (σ 0) 7 (-6 : Int32))) ) ∧ (S_X10_worstBeat_b78c sk21 (P_X10_layBack (u2 σ 0 (upd (σ 0) 7 (-6 : Int32)))) v1 v2 v3 v4 (σ 1 18))) := rfl
noncomputable def P_X10_worstBeat_b37c (pk21 : T2 → Int32 → Int32 → Int32 → Int32 → Int32 × T2) (σ : T2) (v1 : Int32) (v2 : Int32) (v3 : Int32) (v4 : Int32) : Int32 × T2 := P_X10_worstBeat_b59c pk21 (P_X10_playAll (u2 σ 0 (upd (σ 0) 7 v4)) (σ 1 2) (σ 1 3)) v1 v2 v3 v4
def S_X10_worstBeat_b37c (sk21 : T2 → Int32 → Int32 → Int32 → Int32 → Prop) (σ : T2) (v1 : Int32) (v2 : Int32) (v3 : Int32) (v4 : Int32) : Prop := (S_X10_playAll (u2 σ 0 (upd (σ 0) 7 v4)) (σ 1 2) (σ 1 3)) ∧ (S_X10_worstBeat_b59c sk21 (P_X10_playAll (u2 σ 0 (upd (σ 0) 7 v4)) (σ 1 2) (σ 1 3)) v1 v2 v3 v4)
theorem P_X10_worstBeat_b37c_e (pk21 : T2 → Int32 → Int32 → Int32 → Int32 → Int32 × T2) (σ : T2) (v1 : Int32) (v2 : Int32) (v3 : Int32) (v4 : Int32) : P_X10_worstBeat_b37c pk21 σ v1 v2 v3 v4 = P_X10_worstBeat_b59c pk21 (P_X10_playAll (u2 σ 0 (upd (σ 0) 7 v4)) (σ 1 2) (σ 1 3)) v1 v2 v3 v4 := rfl
theorem S_X10_worstBeat_b37c_e (sk21 : T2 → Int32 → Int32 → Int32 → Int32 → Prop) (σ : T2) (v1 : Int32) (v2 : Int32) (v3 : Int32) (v4 : Int32) : S_X10_worstBeat_b37c sk21 σ v1 v2 v3 v4 = ((S_X10_playAll (u2 σ 0 (upd (σ 0) 7 v4)) (σ 1 2) (σ 1 3)) ∧ (S_X10_worstBeat_b59c sk21 (P_X10_playAll (u2 σ 0 (upd (σ 0) 7 v4)) (σ 1 2) (σ 1 3)) v1 v2 v3 v4)) := rfl
noncomputable def P_X10_worstBeat_b21 (n : Nat) : T2 → Int32 → Int32 → Int32 → Int32 → Int32 × T2 := Nat.rec (motive := fun _ => T2 → Int32 → Int32 → Int32 → Int32 → Int32 × T2) (fun _ _ _ _ _ => (0, fun _ _ => 0)) (fun _ pk21 => fun σ v1 v2 v3 v4 => if (σ 1 22) ≤ v4 then (if v1 = 0 then ((v2, σ)) else ((v3, σ))) else (P_X10_worstBeat_b37c pk21 (P_X10_layAside σ) v1 v2 v3 v4)) n
def S_X10_worstBeat_b21 (n : Nat) : T2 → Int32 → Int32 → Int32 → Int32 → Prop := Nat.rec (motive := fun _ => T2 → Int32 → Int32 → Int32 → Int32 → Prop) (fun _ _ _ _ _ => False) (fun _ sk21 => fun σ v1 v2 v3 v4 => ((σ 1 22) ≤ v4 → ((v1 = 0 → (True)) ∧ (¬ (v1 = 0) → (True)))) ∧ (¬ ((σ 1 22) ≤ v4) → ((S_X10_layAside σ ) ∧ (S_X10_worstBeat_b37c sk21 (P_X10_layAside σ) v1 v2 v3 v4)))) n
theorem P_X10_worstBeat_b21_e (n : Nat) (σ : T2) (v1 : Int32) (v2 : Int32) (v3 : Int32) (v4 : Int32) : P_X10_worstBeat_b21 (n + 1) σ v1 v2 v3 v4 = if (σ 1 22) ≤ v4 then (if v1 = 0 then ((v2, σ)) else ((v3, σ))) else (P_X10_worstBeat_b37c (P_X10_worstBeat_b21 n) (P_X10_layAside σ) v1 v2 v3 v4) := rfl
theorem S_X10_worstBeat_b21_e (n : Nat) (σ : T2) (v1 : Int32) (v2 : Int32) (v3 : Int32) (v4 : Int32) : S_X10_worstBeat_b21 (n + 1) σ v1 v2 v3 v4 = (((σ 1 22) ≤ v4 → ((v1 = 0 → (True)) ∧ (¬ (v1 = 0) → (True)))) ∧ (¬ ((σ 1 22) ≤ v4) → ((S_X10_layAside σ ) ∧ (S_X10_worstBeat_b37c (S_X10_worstBeat_b21 n) (P_X10_layAside σ) v1 v2 v3 v4)))) := rfl
noncomputable def P_X10_worstBeat_b0 (σ : T2) (v1 : Int32) : Int32 × T2 := if (P_X10_in v1 (0 : Int32) (1 : Int32)) = 0 then (((-2 : Int32), σ)) else (P_X10_worstBeat_b21 FU σ v1 (-6 : Int32) (-6 : Int32) (0 : Int32))
def S_X10_worstBeat_b0 (σ : T2) (v1 : Int32) : Prop := (S_X10_in v1 (0 : Int32) (1 : Int32)) ∧ (((P_X10_in v1 (0 : Int32) (1 : Int32)) = 0 → (True)) ∧ (¬ ((P_X10_in v1 (0 : Int32) (1 : Int32)) = 0) → (S_X10_worstBeat_b21 FU σ v1 (-6 : Int32) (-6 : Int32) (0 : Int32))))
theorem P_X10_worstBeat_b0_e (σ : T2) (v1 : Int32) : P_X10_worstBeat_b0 σ v1 = if (P_X10_in v1 (0 : Int32) (1 : Int32)) = 0 then (((-2 : Int32), σ)) else (P_X10_worstBeat_b21 FU σ v1 (-6 : Int32) (-6 : Int32) (0 : Int32)) := rfl
theorem S_X10_worstBeat_b0_e (σ : T2) (v1 : Int32) : S_X10_worstBeat_b0 σ v1 = ((S_X10_in v1 (0 : Int32) (1 : Int32)) ∧ (((P_X10_in v1 (0 : Int32) (1 : Int32)) = 0 → (True)) ∧ (¬ ((P_X10_in v1 (0 : Int32) (1 : Int32)) = 0) → (S_X10_worstBeat_b21 FU σ v1 (-6 : Int32) (-6 : Int32) (0 : Int32))))) := rfl
noncomputable def P_X10_worstBeat (σ : T2) (p0 : Int32) : Int32 × T2 := P_X10_worstBeat_b0 σ p0
def S_X10_worstBeat (σ : T2) (p0 : Int32) : Prop := S_X10_worstBeat_b0 σ p0
set_option maxHeartbeats 400000 in
set_option maxRecDepth 100000 in
theorem b_X10_worstBeat_b94 {p : Program} {e : Env} {s : State} {m : MethodId} {args : Array Value} {below : List Frame} {meth : Method} {c : Code} (l : Launch) (D : va_G) (k : Nat → ClassId) (a : Nat → Nat) (A : Nat → Prop) (C0 : q_C p s m meth c args RX10 cX10_worstBeat 6 (some .int) wsX10_worstBeat D (tyL k) A) (R : Int32 × T2) (pk21 : T2 → Int32 → Int32 → Int32 → Int32 → Int32 × T2) (sk21 : T2 → Int32 → Int32 → Int32 → Int32 → Prop) (hk21 : ∀ (σ : T2) (v1 : Int32) (v2 : Int32) (v3 : Int32) (v4 : Int32), sk21 σ v1 v2 v3 v4 → pk21 σ v1 v2 v3 v4 = R → ∀ (H : Heap) (locs : List Loc) (ls : Array Slot), q_W D A s.heap (wX10 k a σ) H locs → lv_has ls 6 [(0, .ref (a 0)), (1, .int v1), (2, .int v2), (3, .int v3), (4, .int v4)] → W p l e { frames := 5, cells := 0, slots := 0, locals := 119 } s m args below meth c H locs 0 0 (MQ below (va_Qi (fun r u => (r, u) = R) (fun u => q_E D (tyL k) A (wX10 k a u)) A) args s 0 0 A) (F0 m 21 ls [])) : ∀ (σ : T2) (v1 : Int32) (v2 : Int32) (v3 : Int32) (v4 : Int32), S_X10_worstBeat_b94 sk21 σ v1 v2 v3 v4 → P_X10_worstBeat_b94 pk21 σ v1 v2 v3 v4 = R → ∀ (H : Heap) (locs : List Loc) (ls : Array Slot), q_W D A s.heap (wX10 k a σ) H locs → lv_has ls 6 [(0, .ref (a 0)), (1, .int v1), (2, .int v2), (3, .int v3), (4, .int v4)] → W p l e { frames := 5, cells := 0, slots := 0, locals := 119 } s m args below meth c H locs 0 0 (MQ below (va_Qi (fun r u => (r, u) = R) (fun u => q_E D (tyL k) A (wX10 k a u)) A) args s 0 0 A) (F0 m 94 ls []) := by
  intro σ v1 v2 v3 v4 hs hR H locs ls hW hl
  rw [P_X10_worstBeat_b94_e] at hR
  rw [S_X10_worstBeat_b94_e] at hs
  obtain ⟨hx, hb, hr, hml, hts, hown, hlocks, hK, hA⟩ := id C0
  refine lv_iinc (v := v4 + (1 : Int32)) (lv' := [(4, .int (v4 + (1 : Int32))), (0, .ref (a 0)), (1, .int v1), (2, .int v2), (3, .int v3)]) hx hb dX10_worstBeat_94 hl (k := 4) rfl rfl (by decide) rfl (fun ls hl => ?_)
  refine lv_goto (tgt := 21) hx hb dX10_worstBeat_97 (by decide) ?_
  exact hk21 σ v1 v2 v3 (v4 + (1 : Int32)) hs hR H locs ls hW (lv_sub hl [1, 2, 3, 4, 0] rfl)
set_option maxHeartbeats 400000 in
set_option maxRecDepth 100000 in
theorem b_X10_worstBeat_b88 {p : Program} {e : Env} {s : State} {m : MethodId} {args : Array Value} {below : List Frame} {meth : Method} {c : Code} (l : Launch) (D : va_G) (k : Nat → ClassId) (a : Nat → Nat) (A : Nat → Prop) (C0 : q_C p s m meth c args RX10 cX10_worstBeat 6 (some .int) wsX10_worstBeat D (tyL k) A) (R : Int32 × T2) (pk21 : T2 → Int32 → Int32 → Int32 → Int32 → Int32 × T2) (sk21 : T2 → Int32 → Int32 → Int32 → Int32 → Prop) (hk21 : ∀ (σ : T2) (v1 : Int32) (v2 : Int32) (v3 : Int32) (v4 : Int32), sk21 σ v1 v2 v3 v4 → pk21 σ v1 v2 v3 v4 = R → ∀ (H : Heap) (locs : List Loc) (ls : Array Slot), q_W D A s.heap (wX10 k a σ) H locs → lv_has ls 6 [(0, .ref (a 0)), (1, .int v1), (2, .int v2), (3, .int v3), (4, .int v4)] → W p l e { frames := 5, cells := 0, slots := 0, locals := 119 } s m args below meth c H locs 0 0 (MQ below (va_Qi (fun r u => (r, u) = R) (fun u => q_E D (tyL k) A (wX10 k a u)) A) args s 0 0 A) (F0 m 21 ls [])) : ∀ (σ : T2) (v1 : Int32) (v4 : Int32) (v5 : Int32), S_X10_worstBeat_b88 sk21 σ v1 v4 v5 → P_X10_worstBeat_b88 pk21 σ v1 v4 v5 = R → ∀ (H : Heap) (locs : List Loc) (ls : Array Slot), q_W D A s.heap (wX10 k a σ) H locs → lv_has ls 6 [(0, .ref (a 0)), (1, .int v1), (4, .int v4), (5, .int v5)] → W p l e { frames := 5, cells := 0, slots := 0, locals := 119 } s m args below meth c H locs 0 0 (MQ below (va_Qi (fun r u => (r, u) = R) (fun u => q_E D (tyL k) A (wX10 k a u)) A) args s 0 0 A) (F0 m 88 ls []) := by
  intro σ v1 v4 v5 hs hR H locs ls hW hl
  rw [P_X10_worstBeat_b88_e] at hR
  rw [S_X10_worstBeat_b88_e] at hs
  obtain ⟨hx, hb, hr, hml, hts, hown, hlocks, hK, hA⟩ := id C0
  refine lv_iload hx hb dX10_worstBeat_88 (lv_at hl 2 rfl) ?_
  refine lv_istore_n (lv' := [(2, .int v4), (0, .ref (a 0)), (1, .int v1), (4, .int v4), (5, .int v5)]) hx hb dX10_worstBeat_90 rfl hl (by decide) rfl (fun ls hl => ?_)
  refine lv_iload hx hb dX10_worstBeat_91 (lv_at hl 4 rfl) ?_
  refine lv_istore_n (lv' := [(3, .int v5), (2, .int v4), (0, .ref (a 0)), (1, .int v1), (4, .int v4), (5, .int v5)]) hx hb dX10_worstBeat_93 rfl hl (by decide) rfl (fun ls hl => ?_)
  exact b_X10_worstBeat_b94 l D k a A C0 R pk21 sk21 hk21 σ v1 v4 v5 v4 hs hR H locs ls hW (lv_sub hl [2, 3, 1, 0, 4] rfl)
set_option maxHeartbeats 400000 in
set_option maxRecDepth 100000 in
theorem b_X10_worstBeat_b78c {p : Program} {e : Env} {s : State} {m : MethodId} {args : Array Value} {below : List Frame} {meth : Method} {c : Code} (l : Launch) (D : va_G) (k : Nat → ClassId) (a : Nat → Nat) (A : Nat → Prop) (C0 : q_C p s m meth c args RX10 cX10_worstBeat 6 (some .int) wsX10_worstBeat D (tyL k) A) (R : Int32 × T2) (pk21 : T2 → Int32 → Int32 → Int32 → Int32 → Int32 × T2) (sk21 : T2 → Int32 → Int32 → Int32 → Int32 → Prop) (hk21 : ∀ (σ : T2) (v1 : Int32) (v2 : Int32) (v3 : Int32) (v4 : Int32), sk21 σ v1 v2 v3 v4 → pk21 σ v1 v2 v3 v4 = R → ∀ (H : Heap) (locs : List Loc) (ls : Array Slot), q_W D A s.heap (wX10 k a σ) H locs → lv_has ls 6 [(0, .ref (a 0)), (1, .int v1), (2, .int v2), (3, .int v3), (4, .int v4)] → W p l e { frames := 5, cells := 0, slots := 0, locals := 119 } s m args below meth c H locs 0 0 (MQ below (va_Qi (fun r u => (r, u) = R) (fun u => q_E D (tyL k) A (wX10 k a u)) A) args s 0 0 A) (F0 m 21 ls [])) : ∀ (σ : T2) (v1 : Int32) (v2 : Int32) (v3 : Int32) (v4 : Int32) (v5 : Int32), S_X10_worstBeat_b78c sk21 σ v1 v2 v3 v4 v5 → P_X10_worstBeat_b78c pk21 σ v1 v2 v3 v4 v5 = R → ∀ (H : Heap) (locs : List Loc) (ls : Array Slot), q_W D A s.heap (wX10 k a σ) H locs → lv_has ls 6 [(0, .ref (a 0)), (1, .int v1), (2, .int v2), (3, .int v3), (4, .int v4), (5, .int v5)] → W p l e { frames := 5, cells := 0, slots := 0, locals := 119 } s m args below meth c H locs 0 0 (MQ below (va_Qi (fun r u => (r, u) = R) (fun u => q_E D (tyL k) A (wX10 k a u)) A) args s 0 0 A) (F0 m 78 ls []) := by
  intro σ v1 v2 v3 v4 v5 hs hR H locs ls hW hl
  rw [P_X10_worstBeat_b78c_e] at hR
  rw [S_X10_worstBeat_b78c_e] at hs
  obtain ⟨hx, hb, hr, hml, hts, hown, hlocks, hK, hA⟩ := id C0
  refine lv_iload_n hx hb dX10_worstBeat_78 rfl (lv_at hl 2 rfl) ?_
  refine lv_if_lt (tgt := 88) hx hb dX10_worstBeat_79 (by decide) (fun c_8 => ?_) (fun c_8 => ?_)
  · have hs := hs.1 c_8
    rw [if_pos c_8] at hR
    exact b_X10_worstBeat_b88 l D k a A C0 R pk21 sk21 hk21 σ v1 v4 v5 hs hR H locs ls hW (lv_sub hl [0, 1, 4, 5] rfl)
  · have hs := hs.2 c_8
    rw [if_neg c_8] at hR
    refine lv_iload hx hb dX10_worstBeat_82 (lv_at hl 5 rfl) ?_
    refine lv_iload_n hx hb dX10_worstBeat_84 rfl (lv_at hl 3 rfl) ?_
    refine lv_icmp_ge (tgt := 94) hx hb dX10_worstBeat_85 (by decide) (fun c_9 => ?_) (fun c_9 => ?_)
    · have hs := hs.1 c_9
      rw [if_pos c_9] at hR
      exact b_X10_worstBeat_b94 l D k a A C0 R pk21 sk21 hk21 σ v1 v2 v3 v4 hs hR H locs ls hW (lv_sub hl [0, 1, 2, 3, 4] rfl)
    · have hs := hs.2 c_9
      rw [if_neg c_9] at hR
      exact b_X10_worstBeat_b88 l D k a A C0 R pk21 sk21 hk21 σ v1 v4 v5 hs hR H locs ls hW (lv_sub hl [0, 1, 4, 5] rfl)
set_option maxHeartbeats 400000 in
set_option maxRecDepth 100000 in
theorem b_X10_worstBeat_b59c {p : Program} {e : Env} {s : State} {m : MethodId} {args : Array Value} {below : List Frame} {meth : Method} {c : Code} (l : Launch) (D : va_G) (k : Nat → ClassId) (a : Nat → Nat) (A : Nat → Prop) (C0 : q_C p s m meth c args RX10 cX10_worstBeat 6 (some .int) wsX10_worstBeat D (tyL k) A) (R : Int32 × T2) (pk21 : T2 → Int32 → Int32 → Int32 → Int32 → Int32 × T2) (sk21 : T2 → Int32 → Int32 → Int32 → Int32 → Prop) (hk21 : ∀ (σ : T2) (v1 : Int32) (v2 : Int32) (v3 : Int32) (v4 : Int32), sk21 σ v1 v2 v3 v4 → pk21 σ v1 v2 v3 v4 = R → ∀ (H : Heap) (locs : List Loc) (ls : Array Slot), q_W D A s.heap (wX10 k a σ) H locs → lv_has ls 6 [(0, .ref (a 0)), (1, .int v1), (2, .int v2), (3, .int v3), (4, .int v4)] → W p l e { frames := 5, cells := 0, slots := 0, locals := 119 } s m args below meth c H locs 0 0 (MQ below (va_Qi (fun r u => (r, u) = R) (fun u => q_E D (tyL k) A (wX10 k a u)) A) args s 0 0 A) (F0 m 21 ls [])) : ∀ (σ : T2) (v1 : Int32) (v2 : Int32) (v3 : Int32) (v4 : Int32), S_X10_worstBeat_b59c sk21 σ v1 v2 v3 v4 → P_X10_worstBeat_b59c pk21 σ v1 v2 v3 v4 = R → ∀ (H : Heap) (locs : List Loc) (ls : Array Slot), q_W D A s.heap (wX10 k a σ) H locs → lv_has ls 6 [(0, .ref (a 0)), (1, .int v1), (2, .int v2), (3, .int v3), (4, .int v4)] → W p l e { frames := 5, cells := 0, slots := 0, locals := 119 } s m args below meth c H locs 0 0 (MQ below (va_Qi (fun r u => (r, u) = R) (fun u => q_E D (tyL k) A (wX10 k a u)) A) args s 0 0 A) (F0 m 59 ls []) := by
  intro σ v1 v2 v3 v4 hs hR H locs ls hW hl
  rw [P_X10_worstBeat_b59c_e] at hR
  rw [S_X10_worstBeat_b59c_e] at hs
  obtain ⟨hx, hb, hr, hml, hts, hown, hlocks, hK, hA⟩ := id C0
  have hf7 := hts (.fieldLink RX10 7 "BeatFollowerModel" "at" "[I") (by decide +kernel)
  have hf26 := hts (.fieldLink RX10 26 "BeatFollowerModel" "leftOut" "I") (by decide +kernel)
  have hinX10 : ∀ w ∈ u_ws RX10 TX10 18, w ∈ wsX10_worstBeat := hin_X10_worstBeat_X10
  refine lv_aload_n hx hb dX10_worstBeat_59 rfl (lv_at hl 0 rfl) ?_
  refine lv_bipush (v := (-6 : Int32)) hx hb dX10_worstBeat_60 (by decide) ?_
  refine q_putf (ty := .int) (wd' := wX10 k a (u2 σ 0 (upd (σ 0) 7 (-6 : Int32)))) C0 hW hinX10 tyX10 tyX10_ok nmX10 0 rfl rfl 7 (by decide) hf26 rfl (by decide +kernel) rfl rfl (Nat.le_of_ble_eq_true rfl) dX10_worstBeat_62 (fX10_s7 _ _ _) (wX10_s0 k a _ _) (fun H locs hW => ?_)
  refine lv_aload_n hx hb dX10_worstBeat_65 rfl (lv_at hl 0 rfl) ?_
  refine va_get (v := .ref (a 1)) (C := RX10) (T := TX10) (N := 18) hx hb hts hinX10 hown hK hW.1 0 rfl rfl 0 (by decide) hf7 (fun _ h9 => h9) rfl dX10_worstBeat_66 ?_
  refine lv_bipush (v := (18 : Int32)) hx hb dX10_worstBeat_69 (by decide) ?_
  refine q_iald (v := σ 1 18) C0 hW 1 rfl rfl vi_18_672 cl_18 rfl dX10_worstBeat_71 ?_
  refine lv_istore (lv' := [(5, .int (σ 1 18)), (0, .ref (a 0)), (1, .int v1), (2, .int v2), (3, .int v3), (4, .int v4)]) hx hb dX10_worstBeat_72 hl (by decide) rfl (fun ls hl => ?_)
  refine lv_aload_n hx hb dX10_worstBeat_74 rfl (lv_at hl 1 rfl) ?_
  have hs7 := hs.1
  have hs := hs.2
  refine q_Vv (As := []) (rest := []) (wf := wX10 k a) (R := P_X10_layBack (u2 σ 0 (upd (σ 0) 7 (-6 : Int32)))) (wd' := wX10 k a (P_X10_layBack (u2 σ 0 (upd (σ 0) 7 (-6 : Int32))))) [0, 1, 2, 3, 4, 5, 6, 7, 8] [0, 1, 2, 3] 0 10 C0 hW (m_X10_layBack l D k a H.size (u2 σ 0 (upd (σ 0) 7 (-6 : Int32)))  hs7) (cwV 0 hts gX10_worstBeat_X10_layBack rfl rfl rfl hd_X10_layBack ⟨Nat.le_of_ble_eq_true rfl, Nat.le_of_ble_eq_true rfl⟩) (by decide) (wX10_pl k a _) rfl (wX10_rec k a _) rfl (wX10_fst k a _ _) (wX10_put k a _ _) hl rfl rfl (Nat.le_of_ble_eq_true rfl) dX10_worstBeat_75 ⟨Nat.le_refl 0, Nat.le_refl 0⟩ (fun H locs hW => ?_)
  exact b_X10_worstBeat_b78c l D k a A C0 R pk21 sk21 hk21 (P_X10_layBack (u2 σ 0 (upd (σ 0) 7 (-6 : Int32)))) v1 v2 v3 v4 (σ 1 18) hs hR H locs ls hW (lv_sub hl [1, 2, 3, 4, 5, 0] rfl)
set_option maxHeartbeats 400000 in
set_option maxRecDepth 100000 in
theorem b_X10_worstBeat_b37c {p : Program} {e : Env} {s : State} {m : MethodId} {args : Array Value} {below : List Frame} {meth : Method} {c : Code} (l : Launch) (D : va_G) (k : Nat → ClassId) (a : Nat → Nat) (A : Nat → Prop) (C0 : q_C p s m meth c args RX10 cX10_worstBeat 6 (some .int) wsX10_worstBeat D (tyL k) A) (R : Int32 × T2) (pk21 : T2 → Int32 → Int32 → Int32 → Int32 → Int32 × T2) (sk21 : T2 → Int32 → Int32 → Int32 → Int32 → Prop) (hk21 : ∀ (σ : T2) (v1 : Int32) (v2 : Int32) (v3 : Int32) (v4 : Int32), sk21 σ v1 v2 v3 v4 → pk21 σ v1 v2 v3 v4 = R → ∀ (H : Heap) (locs : List Loc) (ls : Array Slot), q_W D A s.heap (wX10 k a σ) H locs → lv_has ls 6 [(0, .ref (a 0)), (1, .int v1), (2, .int v2), (3, .int v3), (4, .int v4)] → W p l e { frames := 5, cells := 0, slots := 0, locals := 119 } s m args below meth c H locs 0 0 (MQ below (va_Qi (fun r u => (r, u) = R) (fun u => q_E D (tyL k) A (wX10 k a u)) A) args s 0 0 A) (F0 m 21 ls [])) : ∀ (σ : T2) (v1 : Int32) (v2 : Int32) (v3 : Int32) (v4 : Int32), S_X10_worstBeat_b37c sk21 σ v1 v2 v3 v4 → P_X10_worstBeat_b37c pk21 σ v1 v2 v3 v4 = R → ∀ (H : Heap) (locs : List Loc) (ls : Array Slot), q_W D A s.heap (wX10 k a σ) H locs → lv_has ls 6 [(0, .ref (a 0)), (1, .int v1), (2, .int v2), (3, .int v3), (4, .int v4)] → W p l e { frames := 5, cells := 0, slots := 0, locals := 119 } s m args below meth c H locs 0 0 (MQ below (va_Qi (fun r u => (r, u) = R) (fun u => q_E D (tyL k) A (wX10 k a u)) A) args s 0 0 A) (F0 m 37 ls []) := by
  intro σ v1 v2 v3 v4 hs hR H locs ls hW hl
  rw [P_X10_worstBeat_b37c_e] at hR
  rw [S_X10_worstBeat_b37c_e] at hs
  obtain ⟨hx, hb, hr, hml, hts, hown, hlocks, hK, hA⟩ := id C0
  have hf7 := hts (.fieldLink RX10 7 "BeatFollowerModel" "at" "[I") (by decide +kernel)
  have hf26 := hts (.fieldLink RX10 26 "BeatFollowerModel" "leftOut" "I") (by decide +kernel)
  have hinX10 : ∀ w ∈ u_ws RX10 TX10 18, w ∈ wsX10_worstBeat := hin_X10_worstBeat_X10
  refine lv_aload_n hx hb dX10_worstBeat_37 rfl (lv_at hl 0 rfl) ?_
  refine lv_iload hx hb dX10_worstBeat_38 (lv_at hl 4 rfl) ?_
  refine q_putf (ty := .int) (wd' := wX10 k a (u2 σ 0 (upd (σ 0) 7 v4))) C0 hW hinX10 tyX10 tyX10_ok nmX10 0 rfl rfl 7 (by decide) hf26 rfl (by decide +kernel) rfl rfl (Nat.le_of_ble_eq_true rfl) dX10_worstBeat_40 (fX10_s7 _ _ _) (wX10_s0 k a _ _) (fun H locs hW => ?_)
  refine lv_aload_n hx hb dX10_worstBeat_43 rfl (lv_at hl 0 rfl) ?_
  refine lv_aload_n hx hb dX10_worstBeat_44 rfl (lv_at hl 0 rfl) ?_
  refine va_get (v := .ref (a 1)) (C := RX10) (T := TX10) (N := 18) hx hb hts hinX10 hown hK hW.1 0 rfl rfl 0 (by decide) hf7 (fun _ h9 => h9) rfl dX10_worstBeat_45 ?_
  refine lv_iconst (v := (2 : Int32)) hx hb dX10_worstBeat_48 (by decide) ?_
  refine q_iald (v := σ 1 2) C0 hW 1 rfl rfl vi_2_672 cl_2 rfl dX10_worstBeat_49 ?_
  refine lv_aload_n hx hb dX10_worstBeat_50 rfl (lv_at hl 0 rfl) ?_
  refine va_get (v := .ref (a 1)) (C := RX10) (T := TX10) (N := 18) hx hb hts hinX10 hown hK hW.1 0 rfl rfl 0 (by decide) hf7 (fun _ h9 => h9) rfl dX10_worstBeat_51 ?_
  refine lv_iconst (v := (3 : Int32)) hx hb dX10_worstBeat_54 (by decide) ?_
  refine q_iald (v := σ 1 3) C0 hW 1 rfl rfl vi_3_672 cl_3 rfl dX10_worstBeat_55 ?_
  have hs6 := hs.1
  have hs := hs.2
  refine q_Vv (As := [.int (σ 1 2), .int (σ 1 3)]) (rest := []) (wf := wX10 k a) (R := P_X10_playAll (u2 σ 0 (upd (σ 0) 7 v4)) (σ 1 2) (σ 1 3)) (wd' := wX10 k a (P_X10_playAll (u2 σ 0 (upd (σ 0) 7 v4)) (σ 1 2) (σ 1 3))) [0, 1, 2, 3, 4, 5, 6, 7, 8] [0, 1, 2, 3] 0 10 C0 hW (m_X10_playAll l D k a H.size (u2 σ 0 (upd (σ 0) 7 v4)) (σ 1 2) (σ 1 3) hs6) (cwV 2 hts gX10_worstBeat_X10_playAll rfl rfl rfl hd_X10_playAll ⟨Nat.le_of_ble_eq_true rfl, Nat.le_of_ble_eq_true rfl⟩) (by decide) (wX10_pl k a _) rfl (wX10_rec k a _) rfl (wX10_fst k a _ _) (wX10_put k a _ _) hl rfl rfl (Nat.le_of_ble_eq_true rfl) dX10_worstBeat_56 ⟨Nat.le_refl 0, Nat.le_refl 0⟩ (fun H locs hW => ?_)
  exact b_X10_worstBeat_b59c l D k a A C0 R pk21 sk21 hk21 (P_X10_playAll (u2 σ 0 (upd (σ 0) 7 v4)) (σ 1 2) (σ 1 3)) v1 v2 v3 v4 hs hR H locs ls hW (lv_sub hl [0, 1, 2, 3, 4] rfl)
set_option maxHeartbeats 400000 in
set_option maxRecDepth 100000 in
theorem b_X10_worstBeat_b21 {p : Program} {e : Env} {s : State} {m : MethodId} {args : Array Value} {below : List Frame} {meth : Method} {c : Code} (l : Launch) (D : va_G) (k : Nat → ClassId) (a : Nat → Nat) (A : Nat → Prop) (C0 : q_C p s m meth c args RX10 cX10_worstBeat 6 (some .int) wsX10_worstBeat D (tyL k) A) (R : Int32 × T2) : ∀ n : Nat, ∀ (σ : T2) (v1 : Int32) (v2 : Int32) (v3 : Int32) (v4 : Int32), S_X10_worstBeat_b21 n σ v1 v2 v3 v4 → P_X10_worstBeat_b21 n σ v1 v2 v3 v4 = R → ∀ (H : Heap) (locs : List Loc) (ls : Array Slot), q_W D A s.heap (wX10 k a σ) H locs → lv_has ls 6 [(0, .ref (a 0)), (1, .int v1), (2, .int v2), (3, .int v3), (4, .int v4)] → W p l e { frames := 5, cells := 0, slots := 0, locals := 119 } s m args below meth c H locs 0 0 (MQ below (va_Qi (fun r u => (r, u) = R) (fun u => q_E D (tyL k) A (wX10 k a u)) A) args s 0 0 A) (F0 m 21 ls []) := by
  intro n
  induction n with
  | zero => intro σ v1 v2 v3 v4 hs; exact False.elim hs
  | succ n ih =>
    intro σ v1 v2 v3 v4 hs hR H locs ls hW hl
    rw [P_X10_worstBeat_b21_e] at hR
    rw [S_X10_worstBeat_b21_e] at hs
    obtain ⟨hx, hb, hr, hml, hts, hown, hlocks, hK, hA⟩ := id C0
    have hf7 := hts (.fieldLink RX10 7 "BeatFollowerModel" "at" "[I") (by decide +kernel)
    have hinX10 : ∀ w ∈ u_ws RX10 TX10 18, w ∈ wsX10_worstBeat := hin_X10_worstBeat_X10
    refine lv_iload hx hb dX10_worstBeat_21 (lv_at hl 4 rfl) ?_
    refine lv_aload_n hx hb dX10_worstBeat_23 rfl (lv_at hl 0 rfl) ?_
    refine va_get (v := .ref (a 1)) (C := RX10) (T := TX10) (N := 18) hx hb hts hinX10 hown hK hW.1 0 rfl rfl 0 (by decide) hf7 (fun _ h9 => h9) rfl dX10_worstBeat_24 ?_
    refine lv_bipush (v := (22 : Int32)) hx hb dX10_worstBeat_27 (by decide) ?_
    refine q_iald (v := σ 1 22) C0 hW 1 rfl rfl vi_22_672 cl_22 rfl dX10_worstBeat_29 ?_
    refine lv_icmp_ge (tgt := 100) hx hb dX10_worstBeat_30 (by decide) (fun c_3 => ?_) (fun c_3 => ?_)
    · have hs := hs.1 c_3
      rw [if_pos c_3] at hR
      refine lv_iload_n hx hb dX10_worstBeat_100 rfl (lv_at hl 1 rfl) ?_
      refine lv_if_ne (tgt := 108) hx hb dX10_worstBeat_101 (by decide) (fun c_4 => ?_) (fun c_4 => ?_)
      · have hs := hs.2 c_4
        rw [if_neg c_4] at hR
        refine lv_iload_n hx hb dX10_worstBeat_108 rfl (lv_at hl 3 rfl) ?_
        exact q_iret C0 hW hR dX10_worstBeat_109
      · have hs := hs.1 c_4
        rw [if_pos c_4] at hR
        refine lv_iload_n hx hb dX10_worstBeat_104 rfl (lv_at hl 2 rfl) ?_
        refine lv_goto (tgt := 109) hx hb dX10_worstBeat_105 (by decide) ?_
        exact q_iret C0 hW hR dX10_worstBeat_109
    · have hs := hs.2 c_3
      rw [if_neg c_3] at hR
      refine lv_aload_n hx hb dX10_worstBeat_33 rfl (lv_at hl 0 rfl) ?_
      have hs5 := hs.1
      have hs := hs.2
      refine q_Vv (As := []) (rest := []) (wf := wX10 k a) (R := P_X10_layAside σ) (wd' := wX10 k a (P_X10_layAside σ)) [0, 1, 2, 3, 4, 5, 6, 7, 8] [0, 1, 2, 3] 0 10 C0 hW (m_X10_layAside l D k a H.size σ  hs5) (cwV 0 hts gX10_worstBeat_X10_layAside rfl rfl rfl hd_X10_layAside ⟨Nat.le_of_ble_eq_true rfl, Nat.le_of_ble_eq_true rfl⟩) (by decide) (wX10_pl k a _) rfl (wX10_rec k a _) rfl (wX10_fst k a _ _) (wX10_put k a _ _) hl rfl rfl (Nat.le_of_ble_eq_true rfl) dX10_worstBeat_34 ⟨Nat.le_refl 0, Nat.le_refl 0⟩ (fun H locs hW => ?_)
      exact b_X10_worstBeat_b37c l D k a A C0 R _ _ ih (P_X10_layAside σ) v1 v2 v3 v4 hs hR H locs ls hW (lv_sub hl [0, 1, 2, 3, 4] rfl)
set_option maxHeartbeats 400000 in
set_option maxRecDepth 100000 in
theorem b_X10_worstBeat_b0 {p : Program} {e : Env} {s : State} {m : MethodId} {args : Array Value} {below : List Frame} {meth : Method} {c : Code} (l : Launch) (D : va_G) (k : Nat → ClassId) (a : Nat → Nat) (A : Nat → Prop) (C0 : q_C p s m meth c args RX10 cX10_worstBeat 6 (some .int) wsX10_worstBeat D (tyL k) A) (R : Int32 × T2) : ∀ (σ : T2) (v1 : Int32), S_X10_worstBeat_b0 σ v1 → P_X10_worstBeat_b0 σ v1 = R → ∀ (H : Heap) (locs : List Loc) (ls : Array Slot), q_W D A s.heap (wX10 k a σ) H locs → lv_has ls 6 [(0, .ref (a 0)), (1, .int v1)] → W p l e { frames := 5, cells := 0, slots := 0, locals := 119 } s m args below meth c H locs 0 0 (MQ below (va_Qi (fun r u => (r, u) = R) (fun u => q_E D (tyL k) A (wX10 k a u)) A) args s 0 0 A) (F0 m 0 ls []) := by
  intro σ v1 hs hR H locs ls hW hl
  rw [P_X10_worstBeat_b0_e] at hR
  rw [S_X10_worstBeat_b0_e] at hs
  obtain ⟨hx, hb, hr, hml, hts, hown, hlocks, hK, hA⟩ := id C0
  refine lv_iload_n hx hb dX10_worstBeat_0 rfl (lv_at hl 1 rfl) ?_
  refine lv_iconst (v := (0 : Int32)) hx hb dX10_worstBeat_1 (by decide) ?_
  refine lv_iconst (v := (1 : Int32)) hx hb dX10_worstBeat_2 (by decide) ?_
  have hs1 := hs.1
  have hs := hs.2
  refine q_Si (As := [.int v1, .int (0 : Int32), .int (1 : Int32)]) (rest := []) (R := P_X10_in v1 (0 : Int32) (1 : Int32)) ⟨hx, hb, hml, hown, hts⟩ (m_X10_in l v1 (0 : Int32) (1 : Int32) hs1) (va_cwS 3 hts gX10_worstBeat_X10_in rfl rfl rfl hd_X10_in ⟨Nat.le_of_ble_eq_true rfl, Nat.le_of_ble_eq_true rfl⟩) hl rfl rfl (Nat.le_of_ble_eq_true rfl) dX10_worstBeat_3 ⟨Nat.le_refl 0, Nat.le_refl 0⟩ ?_
  refine lv_if_ne (tgt := 12) hx hb dX10_worstBeat_6 (by decide) (fun c_2 => ?_) (fun c_2 => ?_)
  · have hs := hs.2 c_2
    rw [if_neg c_2] at hR
    refine lv_bipush (v := (-6 : Int32)) hx hb dX10_worstBeat_12 (by decide) ?_
    refine lv_istore_n (lv' := [(2, .int (-6 : Int32)), (0, .ref (a 0)), (1, .int v1)]) hx hb dX10_worstBeat_14 rfl hl (by decide) rfl (fun ls hl => ?_)
    refine lv_bipush (v := (-6 : Int32)) hx hb dX10_worstBeat_15 (by decide) ?_
    refine lv_istore_n (lv' := [(3, .int (-6 : Int32)), (2, .int (-6 : Int32)), (0, .ref (a 0)), (1, .int v1)]) hx hb dX10_worstBeat_17 rfl hl (by decide) rfl (fun ls hl => ?_)
    refine lv_iconst (v := (0 : Int32)) hx hb dX10_worstBeat_18 (by decide) ?_
    refine lv_istore (lv' := [(4, .int (0 : Int32)), (3, .int (-6 : Int32)), (2, .int (-6 : Int32)), (0, .ref (a 0)), (1, .int v1)]) hx hb dX10_worstBeat_19 hl (by decide) rfl (fun ls hl => ?_)
    exact b_X10_worstBeat_b21 l D k a A C0 R FU σ v1 (-6 : Int32) (-6 : Int32) (0 : Int32) hs hR H locs ls hW (lv_sub hl [3, 4, 2, 1, 0] rfl)
  · have hs := hs.1 c_2
    rw [if_pos c_2] at hR
    refine lv_bipush (v := (-2 : Int32)) hx hb dX10_worstBeat_9 (by decide) ?_
    exact q_iret C0 hW hR dX10_worstBeat_11
set_option maxHeartbeats 400000 in
set_option maxRecDepth 100000 in
theorem m_X10_worstBeat (l : Launch) (D : va_G) (k : Nat → ClassId) (a : Nat → Nat) (sz : Nat) (σ : T2) (p0 : Int32) (hs : S_X10_worstBeat σ p0) : Met l yX10_worstBeat wsX10_worstBeat { frames := 5, cells := 0, slots := 0, locals := 119 } (va_Pc [.ref (a 0), .int p0] (q_B D (tyL k) (wX10 k a σ) sz)) (va_Qi (fun r u => (r, u) = P_X10_worstBeat σ p0) (fun u => q_E D (tyL k) (va_A (wX10 k a σ) sz) (wX10 k a u)) (va_A (wX10 k a σ) sz)) 0 0 (va_A (wX10 k a σ) sz) := by
  refine q_met [.ref (a 0), .int p0] (wX10 k a σ) sz (cc := cX10_worstBeat) (maxL := 6) (ret := (some .int)) (by decide) rfl (Nat.le_of_ble_eq_true rfl) ?_
  intro p e s m args below meth c ls hsz C0 hW hl hin
  subst hsz
  exact b_X10_worstBeat_b0 l D k a _ C0 _ σ p0 hs rfl s.heap [] ls hW (lv_sub hl [0, 1] rfl)
