theorem hin_X10_whyNotPlan_X10 : ∀ w ∈ u_ws RX10 TX10 18, w ∈ wsX10_whyNotPlan := by decide +kernel
theorem hd_X10_whyNotPlan : yX10_whyNotPlan.cls = RX10 ∧ yX10_whyNotPlan.cls ≠ "java/lang/invoke/MethodHandle" ∧ yX10_whyNotPlan.cls ≠ "java/lang/invoke/VarHandle" ∧ (parseMethodDescriptor yX10_whyNotPlan.desc).map (fun d => d.parameters.length) = some 0 := by decide +kernel
noncomputable def P_X10_whyNotPlan_b81 (pk35 : T2 → Int32 → Int32 → Int32 → Int32 → Int32) (σ : T2) (v1 : Int32) (v2 : Int32) (v4 : Int32) (t0 : Int32) (t1 : Int32) : Int32 := if (100000 : Int32) < v1 then ((-4 : Int32)) else (if v2 ≤ (1000 : Int32) then (pk35 σ v1 (v2 + (1 : Int32)) (t1 ||| t0) (v4 + (1 : Int32))) else ((-4 : Int32)))
def S_X10_whyNotPlan_b81 (sk35 : T2 → Int32 → Int32 → Int32 → Int32 → Prop) (σ : T2) (v1 : Int32) (v2 : Int32) (v4 : Int32) (t0 : Int32) (t1 : Int32) : Prop := ((100000 : Int32) < v1 → (True)) ∧ (¬ ((100000 : Int32) < v1) → ((v2 ≤ (1000 : Int32) → (sk35 σ v1 (v2 + (1 : Int32)) (t1 ||| t0) (v4 + (1 : Int32)))) ∧ (¬ (v2 ≤ (1000 : Int32)) → (True))))
theorem P_X10_whyNotPlan_b81_e (pk35 : T2 → Int32 → Int32 → Int32 → Int32 → Int32) (σ : T2) (v1 : Int32) (v2 : Int32) (v4 : Int32) (t0 : Int32) (t1 : Int32) : P_X10_whyNotPlan_b81 pk35 σ v1 v2 v4 t0 t1 = if (100000 : Int32) < v1 then ((-4 : Int32)) else (if v2 ≤ (1000 : Int32) then (pk35 σ v1 (v2 + (1 : Int32)) (t1 ||| t0) (v4 + (1 : Int32))) else ((-4 : Int32))) := rfl
theorem S_X10_whyNotPlan_b81_e (sk35 : T2 → Int32 → Int32 → Int32 → Int32 → Prop) (σ : T2) (v1 : Int32) (v2 : Int32) (v4 : Int32) (t0 : Int32) (t1 : Int32) : S_X10_whyNotPlan_b81 sk35 σ v1 v2 v4 t0 t1 = (((100000 : Int32) < v1 → (True)) ∧ (¬ ((100000 : Int32) < v1) → ((v2 ≤ (1000 : Int32) → (sk35 σ v1 (v2 + (1 : Int32)) (t1 ||| t0) (v4 + (1 : Int32)))) ∧ (¬ (v2 ≤ (1000 : Int32)) → (True))))) := rfl
noncomputable def P_X10_whyNotPlan_b35 (n : Nat) : T2 → Int32 → Int32 → Int32 → Int32 → Int32 := Nat.rec (motive := fun _ => T2 → Int32 → Int32 → Int32 → Int32 → Int32) (fun _ _ _ _ _ => 0) (fun _ pk35 => fun σ v1 v2 v3 v4 => if (σ 0 13) ≤ v4 then (if v3 = 0 then ((0 : Int32)) else ((-5 : Int32))) else (if (σ 1 8) < (v1 + (σ 7 v4.toNatClampNeg)) then (P_X10_whyNotPlan_b81 pk35 σ (v1 + (σ 7 v4.toNatClampNeg)) (v2 + (σ 8 v4.toNatClampNeg)) v4 (0 : Int32) v3) else (P_X10_whyNotPlan_b81 pk35 σ (v1 + (σ 7 v4.toNatClampNeg)) (v2 + (σ 8 v4.toNatClampNeg)) v4 (1 : Int32) v3))) n
def S_X10_whyNotPlan_b35 (n : Nat) : T2 → Int32 → Int32 → Int32 → Int32 → Prop := Nat.rec (motive := fun _ => T2 → Int32 → Int32 → Int32 → Int32 → Prop) (fun _ _ _ _ _ => False) (fun _ sk35 => fun σ v1 v2 v3 v4 => ((σ 0 13) ≤ v4 → ((v3 = 0 → (True)) ∧ (¬ (v3 = 0) → (True)))) ∧ (¬ ((σ 0 13) ≤ v4) → ((vp_in v4 65) ∧ ((vp_in v4 65) ∧ (((σ 1 8) < (v1 + (σ 7 v4.toNatClampNeg)) → (S_X10_whyNotPlan_b81 sk35 σ (v1 + (σ 7 v4.toNatClampNeg)) (v2 + (σ 8 v4.toNatClampNeg)) v4 (0 : Int32) v3)) ∧ (¬ ((σ 1 8) < (v1 + (σ 7 v4.toNatClampNeg))) → (S_X10_whyNotPlan_b81 sk35 σ (v1 + (σ 7 v4.toNatClampNeg)) (v2 + (σ 8 v4.toNatClampNeg)) v4 (1 : Int32) v3))))))) n
theorem P_X10_whyNotPlan_b35_e (n : Nat) (σ : T2) (v1 : Int32) (v2 : Int32) (v3 : Int32) (v4 : Int32) : P_X10_whyNotPlan_b35 (n + 1) σ v1 v2 v3 v4 = if (σ 0 13) ≤ v4 then (if v3 = 0 then ((0 : Int32)) else ((-5 : Int32))) else (if (σ 1 8) < (v1 + (σ 7 v4.toNatClampNeg)) then (P_X10_whyNotPlan_b81 (P_X10_whyNotPlan_b35 n) σ (v1 + (σ 7 v4.toNatClampNeg)) (v2 + (σ 8 v4.toNatClampNeg)) v4 (0 : Int32) v3) else (P_X10_whyNotPlan_b81 (P_X10_whyNotPlan_b35 n) σ (v1 + (σ 7 v4.toNatClampNeg)) (v2 + (σ 8 v4.toNatClampNeg)) v4 (1 : Int32) v3)) := rfl
theorem S_X10_whyNotPlan_b35_e (n : Nat) (σ : T2) (v1 : Int32) (v2 : Int32) (v3 : Int32) (v4 : Int32) : S_X10_whyNotPlan_b35 (n + 1) σ v1 v2 v3 v4 = (((σ 0 13) ≤ v4 → ((v3 = 0 → (True)) ∧ (¬ (v3 = 0) → (True)))) ∧ (¬ ((σ 0 13) ≤ v4) → ((vp_in v4 65) ∧ ((vp_in v4 65) ∧ (((σ 1 8) < (v1 + (σ 7 v4.toNatClampNeg)) → (S_X10_whyNotPlan_b81 (S_X10_whyNotPlan_b35 n) σ (v1 + (σ 7 v4.toNatClampNeg)) (v2 + (σ 8 v4.toNatClampNeg)) v4 (0 : Int32) v3)) ∧ (¬ ((σ 1 8) < (v1 + (σ 7 v4.toNatClampNeg))) → (S_X10_whyNotPlan_b81 (S_X10_whyNotPlan_b35 n) σ (v1 + (σ 7 v4.toNatClampNeg)) (v2 + (σ 8 v4.toNatClampNeg)) v4 (1 : Int32) v3))))))) := rfl
noncomputable def P_X10_whyNotPlan_b0 (σ : T2) : Int32 := if ((σ 1 22) + (σ 0 13)) ≤ (64 : Int32) then (P_X10_whyNotPlan_b35 FU σ (P_X10_lastTime σ) (P_X10_nextTrue σ) (0 : Int32) (0 : Int32)) else ((-4 : Int32))
def S_X10_whyNotPlan_b0 (σ : T2) : Prop := (((σ 1 22) + (σ 0 13)) ≤ (64 : Int32) → ((S_X10_lastTime σ ) ∧ ((S_X10_nextTrue σ ) ∧ (S_X10_whyNotPlan_b35 FU σ (P_X10_lastTime σ) (P_X10_nextTrue σ) (0 : Int32) (0 : Int32))))) ∧ (¬ (((σ 1 22) + (σ 0 13)) ≤ (64 : Int32)) → (True))
theorem P_X10_whyNotPlan_b0_e (σ : T2) : P_X10_whyNotPlan_b0 σ = if ((σ 1 22) + (σ 0 13)) ≤ (64 : Int32) then (P_X10_whyNotPlan_b35 FU σ (P_X10_lastTime σ) (P_X10_nextTrue σ) (0 : Int32) (0 : Int32)) else ((-4 : Int32)) := rfl
theorem S_X10_whyNotPlan_b0_e (σ : T2) : S_X10_whyNotPlan_b0 σ = ((((σ 1 22) + (σ 0 13)) ≤ (64 : Int32) → ((S_X10_lastTime σ ) ∧ ((S_X10_nextTrue σ ) ∧ (S_X10_whyNotPlan_b35 FU σ (P_X10_lastTime σ) (P_X10_nextTrue σ) (0 : Int32) (0 : Int32))))) ∧ (¬ (((σ 1 22) + (σ 0 13)) ≤ (64 : Int32)) → (True))) := rfl
noncomputable def P_X10_whyNotPlan (σ : T2) : Int32 := P_X10_whyNotPlan_b0 σ
def S_X10_whyNotPlan (σ : T2) : Prop := S_X10_whyNotPlan_b0 σ
set_option maxHeartbeats 400000 in
set_option maxRecDepth 100000 in
theorem b_X10_whyNotPlan_b81 {p : Program} {e : Env} {s : State} {m : MethodId} {args : Array Value} {below : List Frame} {meth : Method} {c : Code} (l : Launch) (D : va_G) (k : Nat → ClassId) (a : Nat → Nat) (A : Nat → Prop) (C0 : q_C p s m meth c args RX10 cX10_whyNotPlan 5 (some .int) wsX10_whyNotPlan D (tyL k) A) (R : Int32) (pk35 : T2 → Int32 → Int32 → Int32 → Int32 → Int32) (sk35 : T2 → Int32 → Int32 → Int32 → Int32 → Prop) (hk35 : ∀ (σ : T2) (v1 : Int32) (v2 : Int32) (v3 : Int32) (v4 : Int32), sk35 σ v1 v2 v3 v4 → pk35 σ v1 v2 v3 v4 = R → ∀ (H : Heap) (locs : List Loc) (ls : Array Slot), q_W D A s.heap (wX10 k a σ) s.heap [] → lv_has ls 5 [(0, .ref (a 0)), (1, .int v1), (2, .int v2), (3, .int v3), (4, .int v4)] → W p l e { frames := 2, cells := 0, slots := 0, locals := 42 } s m args below meth c s.heap [] 0 0 (MQ below (vp_Si (fun r => r = R)) args s 0 0 (fun _ => False)) (F0 m 35 ls [])) : ∀ (σ : T2) (v1 : Int32) (v2 : Int32) (v4 : Int32) (t0 : Int32) (t1 : Int32), S_X10_whyNotPlan_b81 sk35 σ v1 v2 v4 t0 t1 → P_X10_whyNotPlan_b81 pk35 σ v1 v2 v4 t0 t1 = R → ∀ (H : Heap) (locs : List Loc) (ls : Array Slot), q_W D A s.heap (wX10 k a σ) s.heap [] → lv_has ls 5 [(0, .ref (a 0)), (1, .int v1), (2, .int v2), (4, .int v4)] → W p l e { frames := 2, cells := 0, slots := 0, locals := 42 } s m args below meth c s.heap [] 0 0 (MQ below (vp_Si (fun r => r = R)) args s 0 0 (fun _ => False)) (F0 m 81 ls [.int t0, .int t1]) := by
  intro σ v1 v2 v4 t0 t1 hs hR H locs ls hW hl
  rw [P_X10_whyNotPlan_b81_e] at hR
  rw [S_X10_whyNotPlan_b81_e] at hs
  obtain ⟨hx, hb, hr, hml, hts, hown, hlocks, hK, hA⟩ := id C0
  refine lv_ior hx hb dX10_whyNotPlan_81 ?_
  refine lv_istore_n (lv' := [(3, .int (t1 ||| t0)), (0, .ref (a 0)), (1, .int v1), (2, .int v2), (4, .int v4)]) hx hb dX10_whyNotPlan_82 rfl hl (by decide) rfl (fun ls hl => ?_)
  refine lv_iload_n hx hb dX10_whyNotPlan_83 rfl (lv_at hl 2 rfl) ?_
  refine lv_ldc (v := (100000 : Int32)) hx hb hown (hts (.constant RX10 117 (100000 : Int32)) (by decide +kernel)) dX10_whyNotPlan_84 ?_
  refine lv_icmp_gt (tgt := 96) hx hb dX10_whyNotPlan_86 (by decide) (fun c_9 => ?_) (fun c_9 => ?_)
  · have hs := hs.1 c_9
    rw [if_pos c_9] at hR
    refine lv_bipush (v := (-4 : Int32)) hx hb dX10_whyNotPlan_96 (by decide) ?_
    exact q_iretr C0 hR dX10_whyNotPlan_98
  · have hs := hs.2 c_9
    rw [if_neg c_9] at hR
    refine lv_iload_n hx hb dX10_whyNotPlan_89 rfl (lv_at hl 3 rfl) ?_
    refine lv_sipush (v := (1000 : Int32)) hx hb dX10_whyNotPlan_90 (by decide) ?_
    refine lv_icmp_le (tgt := 99) hx hb dX10_whyNotPlan_93 (by decide) (fun c_10 => ?_) (fun c_10 => ?_)
    · have hs := hs.1 c_10
      rw [if_pos c_10] at hR
      refine lv_iinc (v := v2 + (1 : Int32)) (lv' := [(2, .int (v2 + (1 : Int32))), (3, .int (t1 ||| t0)), (0, .ref (a 0)), (1, .int v1), (4, .int v4)]) hx hb dX10_whyNotPlan_99 hl (k := 3) rfl rfl (by decide) rfl (fun ls hl => ?_)
      refine lv_iinc (v := v4 + (1 : Int32)) (lv' := [(4, .int (v4 + (1 : Int32))), (2, .int (v2 + (1 : Int32))), (3, .int (t1 ||| t0)), (0, .ref (a 0)), (1, .int v1)]) hx hb dX10_whyNotPlan_102 hl (k := 4) rfl rfl (by decide) rfl (fun ls hl => ?_)
      refine lv_goto (tgt := 35) hx hb dX10_whyNotPlan_105 (by decide) ?_
      exact hk35 σ v1 (v2 + (1 : Int32)) (t1 ||| t0) (v4 + (1 : Int32)) hs hR H locs ls hW (lv_sub hl [3, 4, 1, 2, 0] rfl)
    · have hs := hs.2 c_10
      rw [if_neg c_10] at hR
      refine lv_bipush (v := (-4 : Int32)) hx hb dX10_whyNotPlan_96 (by decide) ?_
      exact q_iretr C0 hR dX10_whyNotPlan_98
set_option maxHeartbeats 400000 in
set_option maxRecDepth 100000 in
theorem b_X10_whyNotPlan_b35 {p : Program} {e : Env} {s : State} {m : MethodId} {args : Array Value} {below : List Frame} {meth : Method} {c : Code} (l : Launch) (D : va_G) (k : Nat → ClassId) (a : Nat → Nat) (A : Nat → Prop) (C0 : q_C p s m meth c args RX10 cX10_whyNotPlan 5 (some .int) wsX10_whyNotPlan D (tyL k) A) (R : Int32) : ∀ n : Nat, ∀ (σ : T2) (v1 : Int32) (v2 : Int32) (v3 : Int32) (v4 : Int32), S_X10_whyNotPlan_b35 n σ v1 v2 v3 v4 → P_X10_whyNotPlan_b35 n σ v1 v2 v3 v4 = R → ∀ (H : Heap) (locs : List Loc) (ls : Array Slot), q_W D A s.heap (wX10 k a σ) s.heap [] → lv_has ls 5 [(0, .ref (a 0)), (1, .int v1), (2, .int v2), (3, .int v3), (4, .int v4)] → W p l e { frames := 2, cells := 0, slots := 0, locals := 42 } s m args below meth c s.heap [] 0 0 (MQ below (vp_Si (fun r => r = R)) args s 0 0 (fun _ => False)) (F0 m 35 ls []) := by
  intro n
  induction n with
  | zero => intro σ v1 v2 v3 v4 hs; exact False.elim hs
  | succ n ih =>
    intro σ v1 v2 v3 v4 hs hR H locs ls hW hl
    rw [P_X10_whyNotPlan_b35_e] at hR
    rw [S_X10_whyNotPlan_b35_e] at hs
    obtain ⟨hx, hb, hr, hml, hts, hown, hlocks, hK, hA⟩ := id C0
    have hf7 := hts (.fieldLink RX10 7 "BeatFollowerModel" "at" "[I") (by decide +kernel)
    have hf33 := hts (.fieldLink RX10 33 "BeatFollowerModel" "afters" "[I") (by decide +kernel)
    have hf36 := hts (.fieldLink RX10 36 "BeatFollowerModel" "misses" "[I") (by decide +kernel)
    have hf158 := hts (.fieldLink RX10 158 "BeatFollowerModel" "beats" "I") (by decide +kernel)
    have hinX10 : ∀ w ∈ u_ws RX10 TX10 18, w ∈ wsX10_whyNotPlan := hin_X10_whyNotPlan_X10
    refine lv_iload hx hb dX10_whyNotPlan_35 (lv_at hl 4 rfl) ?_
    refine lv_aload_n hx hb dX10_whyNotPlan_37 rfl (lv_at hl 0 rfl) ?_
    refine va_get (v := .int (σ 0 13)) (C := RX10) (T := TX10) (N := 18) hx hb hts hinX10 hown hK hW.1 0 rfl rfl 13 (by decide) hf158 (fun _ h9 => h9) rfl dX10_whyNotPlan_38 ?_
    refine lv_icmp_ge (tgt := 108) hx hb dX10_whyNotPlan_41 (by decide) (fun c_4 => ?_) (fun c_4 => ?_)
    · have hs := hs.1 c_4
      rw [if_pos c_4] at hR
      refine lv_iload_n hx hb dX10_whyNotPlan_108 rfl (lv_at hl 3 rfl) ?_
      refine lv_if_eq (tgt := 117) hx hb dX10_whyNotPlan_109 (by decide) (fun c_5 => ?_) (fun c_5 => ?_)
      · have hs := hs.1 c_5
        rw [if_pos c_5] at hR
        refine lv_iconst (v := (0 : Int32)) hx hb dX10_whyNotPlan_117 (by decide) ?_
        exact q_iretr C0 hR dX10_whyNotPlan_118
      · have hs := hs.2 c_5
        rw [if_neg c_5] at hR
        refine lv_bipush (v := (-5 : Int32)) hx hb dX10_whyNotPlan_112 (by decide) ?_
        refine lv_goto (tgt := 118) hx hb dX10_whyNotPlan_114 (by decide) ?_
        exact q_iretr C0 hR dX10_whyNotPlan_118
    · have hs := hs.2 c_4
      rw [if_neg c_4] at hR
      refine lv_iload_n hx hb dX10_whyNotPlan_44 rfl (lv_at hl 1 rfl) ?_
      refine lv_aload_n hx hb dX10_whyNotPlan_45 rfl (lv_at hl 0 rfl) ?_
      refine va_get (v := .ref (a 7)) (C := RX10) (T := TX10) (N := 18) hx hb hts hinX10 hown hK hW.1 0 rfl rfl 16 (by decide) hf33 (fun _ h9 => h9) rfl dX10_whyNotPlan_46 ?_
      refine lv_iload hx hb dX10_whyNotPlan_49 (lv_at hl 4 rfl) ?_
      have hi6 := hs.1
      have hs := hs.2
      refine q_iald (v := σ 7 v4.toNatClampNeg) C0 hW 7 rfl rfl hi6 rfl rfl dX10_whyNotPlan_51 ?_
      refine lv_iadd hx hb dX10_whyNotPlan_52 ?_
      refine lv_istore_n (lv' := [(1, .int (v1 + (σ 7 v4.toNatClampNeg))), (0, .ref (a 0)), (2, .int v2), (3, .int v3), (4, .int v4)]) hx hb dX10_whyNotPlan_53 rfl hl (by decide) rfl (fun ls hl => ?_)
      refine lv_iload_n hx hb dX10_whyNotPlan_54 rfl (lv_at hl 2 rfl) ?_
      refine lv_aload_n hx hb dX10_whyNotPlan_55 rfl (lv_at hl 1 rfl) ?_
      refine va_get (v := .ref (a 8)) (C := RX10) (T := TX10) (N := 18) hx hb hts hinX10 hown hK hW.1 0 rfl rfl 17 (by decide) hf36 (fun _ h9 => h9) rfl dX10_whyNotPlan_56 ?_
      refine lv_iload hx hb dX10_whyNotPlan_59 (lv_at hl 4 rfl) ?_
      have hi7 := hs.1
      have hs := hs.2
      refine q_iald (v := σ 8 v4.toNatClampNeg) C0 hW 8 rfl rfl hi7 rfl rfl dX10_whyNotPlan_61 ?_
      refine lv_iadd hx hb dX10_whyNotPlan_62 ?_
      refine lv_istore_n (lv' := [(2, .int (v2 + (σ 8 v4.toNatClampNeg))), (1, .int (v1 + (σ 7 v4.toNatClampNeg))), (0, .ref (a 0)), (3, .int v3), (4, .int v4)]) hx hb dX10_whyNotPlan_63 rfl hl (by decide) rfl (fun ls hl => ?_)
      refine lv_iload_n hx hb dX10_whyNotPlan_64 rfl (lv_at hl 3 rfl) ?_
      refine lv_iload_n hx hb dX10_whyNotPlan_65 rfl (lv_at hl 1 rfl) ?_
      refine lv_aload_n hx hb dX10_whyNotPlan_66 rfl (lv_at hl 2 rfl) ?_
      refine va_get (v := .ref (a 1)) (C := RX10) (T := TX10) (N := 18) hx hb hts hinX10 hown hK hW.1 0 rfl rfl 0 (by decide) hf7 (fun _ h9 => h9) rfl dX10_whyNotPlan_67 ?_
      refine lv_bipush (v := (8 : Int32)) hx hb dX10_whyNotPlan_70 (by decide) ?_
      refine q_iald (v := σ 1 8) C0 hW 1 rfl rfl vi_8_672 cl_8 rfl dX10_whyNotPlan_72 ?_
      refine lv_icmp_gt (tgt := 80) hx hb dX10_whyNotPlan_73 (by decide) (fun c_8 => ?_) (fun c_8 => ?_)
      · have hs := hs.1 c_8
        rw [if_pos c_8] at hR
        refine lv_iconst (v := (0 : Int32)) hx hb dX10_whyNotPlan_80 (by decide) ?_
        exact b_X10_whyNotPlan_b81 l D k a A C0 R _ _ ih σ (v1 + (σ 7 v4.toNatClampNeg)) (v2 + (σ 8 v4.toNatClampNeg)) v4 (0 : Int32) v3 hs hR H locs ls hW (lv_sub hl [2, 1, 0, 4] rfl)
      · have hs := hs.2 c_8
        rw [if_neg c_8] at hR
        refine lv_iconst (v := (1 : Int32)) hx hb dX10_whyNotPlan_76 (by decide) ?_
        refine lv_goto (tgt := 81) hx hb dX10_whyNotPlan_77 (by decide) ?_
        exact b_X10_whyNotPlan_b81 l D k a A C0 R _ _ ih σ (v1 + (σ 7 v4.toNatClampNeg)) (v2 + (σ 8 v4.toNatClampNeg)) v4 (1 : Int32) v3 hs hR H locs ls hW (lv_sub hl [2, 1, 0, 4] rfl)
set_option maxHeartbeats 400000 in
set_option maxRecDepth 100000 in
theorem b_X10_whyNotPlan_b0 {p : Program} {e : Env} {s : State} {m : MethodId} {args : Array Value} {below : List Frame} {meth : Method} {c : Code} (l : Launch) (D : va_G) (k : Nat → ClassId) (a : Nat → Nat) (A : Nat → Prop) (C0 : q_C p s m meth c args RX10 cX10_whyNotPlan 5 (some .int) wsX10_whyNotPlan D (tyL k) A) (R : Int32) : ∀ (σ : T2), S_X10_whyNotPlan_b0 σ → P_X10_whyNotPlan_b0 σ = R → ∀ (H : Heap) (locs : List Loc) (ls : Array Slot), q_W D A s.heap (wX10 k a σ) s.heap [] → lv_has ls 5 [(0, .ref (a 0))] → W p l e { frames := 2, cells := 0, slots := 0, locals := 42 } s m args below meth c s.heap [] 0 0 (MQ below (vp_Si (fun r => r = R)) args s 0 0 (fun _ => False)) (F0 m 0 ls []) := by
  intro σ hs hR H locs ls hW hl
  rw [P_X10_whyNotPlan_b0_e] at hR
  rw [S_X10_whyNotPlan_b0_e] at hs
  obtain ⟨hx, hb, hr, hml, hts, hown, hlocks, hK, hA⟩ := id C0
  have hf7 := hts (.fieldLink RX10 7 "BeatFollowerModel" "at" "[I") (by decide +kernel)
  have hf158 := hts (.fieldLink RX10 158 "BeatFollowerModel" "beats" "I") (by decide +kernel)
  have hinX10 : ∀ w ∈ u_ws RX10 TX10 18, w ∈ wsX10_whyNotPlan := hin_X10_whyNotPlan_X10
  refine lv_aload_n hx hb dX10_whyNotPlan_0 rfl (lv_at hl 0 rfl) ?_
  refine va_get (v := .ref (a 1)) (C := RX10) (T := TX10) (N := 18) hx hb hts hinX10 hown hK hW.1 0 rfl rfl 0 (by decide) hf7 (fun _ h9 => h9) rfl dX10_whyNotPlan_1 ?_
  refine lv_bipush (v := (22 : Int32)) hx hb dX10_whyNotPlan_4 (by decide) ?_
  refine q_iald (v := σ 1 22) C0 hW 1 rfl rfl vi_22_672 cl_22 rfl dX10_whyNotPlan_6 ?_
  refine lv_aload_n hx hb dX10_whyNotPlan_7 rfl (lv_at hl 0 rfl) ?_
  refine va_get (v := .int (σ 0 13)) (C := RX10) (T := TX10) (N := 18) hx hb hts hinX10 hown hK hW.1 0 rfl rfl 13 (by decide) hf158 (fun _ h9 => h9) rfl dX10_whyNotPlan_8 ?_
  refine lv_iadd hx hb dX10_whyNotPlan_11 ?_
  refine lv_bipush (v := (64 : Int32)) hx hb dX10_whyNotPlan_12 (by decide) ?_
  refine lv_icmp_le (tgt := 20) hx hb dX10_whyNotPlan_14 (by decide) (fun c_1 => ?_) (fun c_1 => ?_)
  · have hs := hs.1 c_1
    rw [if_pos c_1] at hR
    refine lv_aload_n hx hb dX10_whyNotPlan_20 rfl (lv_at hl 0 rfl) ?_
    have hs2 := hs.1
    have hs := hs.2
    refine q_Vi (As := []) (rest := []) (R := P_X10_lastTime σ) [0, 1, 2, 3, 4, 5, 6, 7, 8] [0, 1, 2, 3] 0 10 C0 hW (m_X10_lastTime l D k a _ σ  hs2) (cwV 0 hts gX10_whyNotPlan_X10_lastTime rfl rfl rfl hd_X10_lastTime ⟨Nat.le_of_ble_eq_true rfl, Nat.le_of_ble_eq_true rfl⟩) (by decide) (wX10_pl k a _) rfl (wX10_rec k a _) rfl hl rfl rfl (Nat.le_of_ble_eq_true rfl) dX10_whyNotPlan_21 ⟨Nat.le_refl 0, Nat.le_refl 0⟩ ?_
    refine lv_istore_n (lv' := [(1, .int (P_X10_lastTime σ)), (0, .ref (a 0))]) hx hb dX10_whyNotPlan_24 rfl hl (by decide) rfl (fun ls hl => ?_)
    refine lv_aload_n hx hb dX10_whyNotPlan_25 rfl (lv_at hl 1 rfl) ?_
    have hs3 := hs.1
    have hs := hs.2
    refine q_Vi (As := []) (rest := []) (R := P_X10_nextTrue σ) [0, 1, 2, 3, 4, 5, 6, 7, 8] [0, 1, 2, 3] 0 10 C0 hW (m_X10_nextTrue l D k a _ σ  hs3) (cwV 0 hts gX10_whyNotPlan_X10_nextTrue rfl rfl rfl hd_X10_nextTrue ⟨Nat.le_of_ble_eq_true rfl, Nat.le_of_ble_eq_true rfl⟩) (by decide) (wX10_pl k a _) rfl (wX10_rec k a _) rfl hl rfl rfl (Nat.le_of_ble_eq_true rfl) dX10_whyNotPlan_26 ⟨Nat.le_refl 0, Nat.le_refl 0⟩ ?_
    refine lv_istore_n (lv' := [(2, .int (P_X10_nextTrue σ)), (1, .int (P_X10_lastTime σ)), (0, .ref (a 0))]) hx hb dX10_whyNotPlan_29 rfl hl (by decide) rfl (fun ls hl => ?_)
    refine lv_iconst (v := (0 : Int32)) hx hb dX10_whyNotPlan_30 (by decide) ?_
    refine lv_istore_n (lv' := [(3, .int (0 : Int32)), (2, .int (P_X10_nextTrue σ)), (1, .int (P_X10_lastTime σ)), (0, .ref (a 0))]) hx hb dX10_whyNotPlan_31 rfl hl (by decide) rfl (fun ls hl => ?_)
    refine lv_iconst (v := (0 : Int32)) hx hb dX10_whyNotPlan_32 (by decide) ?_
    refine lv_istore (lv' := [(4, .int (0 : Int32)), (3, .int (0 : Int32)), (2, .int (P_X10_nextTrue σ)), (1, .int (P_X10_lastTime σ)), (0, .ref (a 0))]) hx hb dX10_whyNotPlan_33 hl (by decide) rfl (fun ls hl => ?_)
    exact b_X10_whyNotPlan_b35 l D k a A C0 R FU σ (P_X10_lastTime σ) (P_X10_nextTrue σ) (0 : Int32) (0 : Int32) hs hR H locs ls hW (lv_sub hl [4, 3, 2, 1, 0] rfl)
  · have hs := hs.2 c_1
    rw [if_neg c_1] at hR
    refine lv_bipush (v := (-4 : Int32)) hx hb dX10_whyNotPlan_17 (by decide) ?_
    exact q_iretr C0 hR dX10_whyNotPlan_19
set_option maxHeartbeats 400000 in
set_option maxRecDepth 100000 in
theorem m_X10_whyNotPlan (l : Launch) (D : va_G) (k : Nat → ClassId) (a : Nat → Nat) (sz : Nat) (σ : T2) (hs : S_X10_whyNotPlan σ) : Met l yX10_whyNotPlan wsX10_whyNotPlan { frames := 2, cells := 0, slots := 0, locals := 42 } (va_Pc [.ref (a 0)] (q_B D (tyL k) (wX10 k a σ) sz)) (vp_Si (fun r => r = P_X10_whyNotPlan σ)) 0 0 (fun _ => False) := by
  refine q_met [.ref (a 0)] (wX10 k a σ) sz (cc := cX10_whyNotPlan) (maxL := 5) (ret := (some .int)) (by decide) rfl (Nat.le_of_ble_eq_true rfl) ?_
  intro p e s m args below meth c ls hsz C0 hW hl hin
  subst hsz
  exact b_X10_whyNotPlan_b0 l D k a _ C0 _ σ  hs rfl s.heap [] ls hW (lv_sub hl [0] rfl)
theorem hin_X10_plan_X10 : ∀ w ∈ u_ws RX10 TX10 18, w ∈ wsX10_plan := by decide +kernel
theorem hd_X10_plan : yX10_plan.cls = RX10 ∧ yX10_plan.cls ≠ "java/lang/invoke/MethodHandle" ∧ yX10_plan.cls ≠ "java/lang/invoke/VarHandle" ∧ (parseMethodDescriptor yX10_plan.desc).map (fun d => d.parameters.length) = some 0 := by decide +kernel
noncomputable def P_X10_plan_b61c (pk27 : T2 → Int32 → Int32 × T2) (σ : T2) (v2 : Int32) : Int32 × T2 := pk27 σ (v2 + (1 : Int32))
def S_X10_plan_b61c (sk27 : T2 → Int32 → Prop) (σ : T2) (v2 : Int32) : Prop := sk27 σ (v2 + (1 : Int32))
theorem P_X10_plan_b61c_e (pk27 : T2 → Int32 → Int32 × T2) (σ : T2) (v2 : Int32) : P_X10_plan_b61c pk27 σ v2 = pk27 σ (v2 + (1 : Int32)) := rfl
theorem S_X10_plan_b61c_e (sk27 : T2 → Int32 → Prop) (σ : T2) (v2 : Int32) : S_X10_plan_b61c sk27 σ v2 = (sk27 σ (v2 + (1 : Int32))) := rfl
noncomputable def P_X10_plan_b27 (n : Nat) : T2 → Int32 → Int32 × T2 := Nat.rec (motive := fun _ => T2 → Int32 → Int32 × T2) (fun _ _ => (0, fun _ _ => 0)) (fun _ pk27 => fun σ v2 => if (σ 0 13) ≤ v2 then ((σ 1 22, u2 σ 0 (upd (σ 0) 9 (0 : Int32)))) else (P_X10_plan_b61c pk27 (P_X10_addBeat σ ((P_X10_lastTime σ) + (σ 7 v2.toNatClampNeg)) ((P_X10_nextTrue σ) + (σ 8 v2.toNatClampNeg))) v2)) n
def S_X10_plan_b27 (n : Nat) : T2 → Int32 → Prop := Nat.rec (motive := fun _ => T2 → Int32 → Prop) (fun _ _ => False) (fun _ sk27 => fun σ v2 => ((σ 0 13) ≤ v2 → (True)) ∧ (¬ ((σ 0 13) ≤ v2) → ((S_X10_lastTime σ ) ∧ ((vp_in v2 65) ∧ ((S_X10_nextTrue σ ) ∧ ((vp_in v2 65) ∧ ((S_X10_addBeat σ ((P_X10_lastTime σ) + (σ 7 v2.toNatClampNeg)) ((P_X10_nextTrue σ) + (σ 8 v2.toNatClampNeg))) ∧ (S_X10_plan_b61c sk27 (P_X10_addBeat σ ((P_X10_lastTime σ) + (σ 7 v2.toNatClampNeg)) ((P_X10_nextTrue σ) + (σ 8 v2.toNatClampNeg))) v2)))))))) n
theorem P_X10_plan_b27_e (n : Nat) (σ : T2) (v2 : Int32) : P_X10_plan_b27 (n + 1) σ v2 = if (σ 0 13) ≤ v2 then ((σ 1 22, u2 σ 0 (upd (σ 0) 9 (0 : Int32)))) else (P_X10_plan_b61c (P_X10_plan_b27 n) (P_X10_addBeat σ ((P_X10_lastTime σ) + (σ 7 v2.toNatClampNeg)) ((P_X10_nextTrue σ) + (σ 8 v2.toNatClampNeg))) v2) := rfl
theorem S_X10_plan_b27_e (n : Nat) (σ : T2) (v2 : Int32) : S_X10_plan_b27 (n + 1) σ v2 = (((σ 0 13) ≤ v2 → (True)) ∧ (¬ ((σ 0 13) ≤ v2) → ((S_X10_lastTime σ ) ∧ ((vp_in v2 65) ∧ ((S_X10_nextTrue σ ) ∧ ((vp_in v2 65) ∧ ((S_X10_addBeat σ ((P_X10_lastTime σ) + (σ 7 v2.toNatClampNeg)) ((P_X10_nextTrue σ) + (σ 8 v2.toNatClampNeg))) ∧ (S_X10_plan_b61c (S_X10_plan_b27 n) (P_X10_addBeat σ ((P_X10_lastTime σ) + (σ 7 v2.toNatClampNeg)) ((P_X10_nextTrue σ) + (σ 8 v2.toNatClampNeg))) v2)))))))) := rfl
noncomputable def P_X10_plan_b25c (σ : T2) : Int32 × T2 := P_X10_plan_b27 FU σ (0 : Int32)
def S_X10_plan_b25c (σ : T2) : Prop := S_X10_plan_b27 FU σ (0 : Int32)
theorem P_X10_plan_b25c_e (σ : T2) : P_X10_plan_b25c σ = P_X10_plan_b27 FU σ (0 : Int32) := rfl
theorem S_X10_plan_b25c_e (σ : T2) : S_X10_plan_b25c σ = (S_X10_plan_b27 FU σ (0 : Int32)) := rfl
noncomputable def P_X10_plan_b4c (σ : T2) (t0 : Int32) : Int32 × T2 := if t0 < 0 then (if 0 ≤ (P_X10_whyNotPlan σ) then (P_X10_plan_b25c (P_X10_keep σ)) else ((P_X10_whyNotPlan σ, σ))) else (((-3 : Int32), σ))
def S_X10_plan_b4c (σ : T2) (t0 : Int32) : Prop := (t0 < 0 → ((S_X10_whyNotPlan σ ) ∧ ((0 ≤ (P_X10_whyNotPlan σ) → ((S_X10_keep σ ) ∧ (S_X10_plan_b25c (P_X10_keep σ)))) ∧ (¬ (0 ≤ (P_X10_whyNotPlan σ)) → (True))))) ∧ (¬ (t0 < 0) → (True))
theorem P_X10_plan_b4c_e (σ : T2) (t0 : Int32) : P_X10_plan_b4c σ t0 = if t0 < 0 then (if 0 ≤ (P_X10_whyNotPlan σ) then (P_X10_plan_b25c (P_X10_keep σ)) else ((P_X10_whyNotPlan σ, σ))) else (((-3 : Int32), σ)) := rfl
theorem S_X10_plan_b4c_e (σ : T2) (t0 : Int32) : S_X10_plan_b4c σ t0 = ((t0 < 0 → ((S_X10_whyNotPlan σ ) ∧ ((0 ≤ (P_X10_whyNotPlan σ) → ((S_X10_keep σ ) ∧ (S_X10_plan_b25c (P_X10_keep σ)))) ∧ (¬ (0 ≤ (P_X10_whyNotPlan σ)) → (True))))) ∧ (¬ (t0 < 0) → (True))) := rfl
noncomputable def P_X10_plan_b0 (σ : T2) : Int32 × T2 := P_X10_plan_b4c ((P_X10_fault σ).2) ((P_X10_fault σ).1)
def S_X10_plan_b0 (σ : T2) : Prop := (S_X10_fault σ ) ∧ (S_X10_plan_b4c ((P_X10_fault σ).2) ((P_X10_fault σ).1))
theorem P_X10_plan_b0_e (σ : T2) : P_X10_plan_b0 σ = P_X10_plan_b4c ((P_X10_fault σ).2) ((P_X10_fault σ).1) := rfl
theorem S_X10_plan_b0_e (σ : T2) : S_X10_plan_b0 σ = ((S_X10_fault σ ) ∧ (S_X10_plan_b4c ((P_X10_fault σ).2) ((P_X10_fault σ).1))) := rfl
noncomputable def P_X10_plan (σ : T2) : Int32 × T2 := P_X10_plan_b0 σ
def S_X10_plan (σ : T2) : Prop := S_X10_plan_b0 σ
set_option maxHeartbeats 400000 in
set_option maxRecDepth 100000 in
theorem b_X10_plan_b61c {p : Program} {e : Env} {s : State} {m : MethodId} {args : Array Value} {below : List Frame} {meth : Method} {c : Code} (l : Launch) (D : va_G) (k : Nat → ClassId) (a : Nat → Nat) (A : Nat → Prop) (C0 : q_C p s m meth c args RX10 cX10_plan 3 (some .int) wsX10_plan D (tyL k) A) (R : Int32 × T2) (pk27 : T2 → Int32 → Int32 × T2) (sk27 : T2 → Int32 → Prop) (hk27 : ∀ (σ : T2) (v2 : Int32), sk27 σ v2 → pk27 σ v2 = R → ∀ (H : Heap) (locs : List Loc) (ls : Array Slot), q_W D A s.heap (wX10 k a σ) H locs → lv_has ls 3 [(0, .ref (a 0)), (2, .int v2)] → W p l e { frames := 5, cells := 0, slots := 0, locals := 107 } s m args below meth c H locs 0 0 (MQ below (va_Qi (fun r u => (r, u) = R) (fun u => q_E D (tyL k) A (wX10 k a u)) A) args s 0 0 A) (F0 m 27 ls [])) : ∀ (σ : T2) (v2 : Int32), S_X10_plan_b61c sk27 σ v2 → P_X10_plan_b61c pk27 σ v2 = R → ∀ (H : Heap) (locs : List Loc) (ls : Array Slot), q_W D A s.heap (wX10 k a σ) H locs → lv_has ls 3 [(0, .ref (a 0)), (2, .int v2)] → W p l e { frames := 5, cells := 0, slots := 0, locals := 107 } s m args below meth c H locs 0 0 (MQ below (va_Qi (fun r u => (r, u) = R) (fun u => q_E D (tyL k) A (wX10 k a u)) A) args s 0 0 A) (F0 m 61 ls []) := by
  intro σ v2 hs hR H locs ls hW hl
  rw [P_X10_plan_b61c_e] at hR
  rw [S_X10_plan_b61c_e] at hs
  obtain ⟨hx, hb, hr, hml, hts, hown, hlocks, hK, hA⟩ := id C0
  refine lv_iinc (v := v2 + (1 : Int32)) (lv' := [(2, .int (v2 + (1 : Int32))), (0, .ref (a 0))]) hx hb dX10_plan_61 hl (k := 1) rfl rfl (by decide) rfl (fun ls hl => ?_)
  refine lv_goto (tgt := 27) hx hb dX10_plan_64 (by decide) ?_
  exact hk27 σ (v2 + (1 : Int32)) hs hR H locs ls hW (lv_sub hl [1, 0] rfl)
set_option maxHeartbeats 400000 in
set_option maxRecDepth 100000 in
theorem b_X10_plan_b27 {p : Program} {e : Env} {s : State} {m : MethodId} {args : Array Value} {below : List Frame} {meth : Method} {c : Code} (l : Launch) (D : va_G) (k : Nat → ClassId) (a : Nat → Nat) (A : Nat → Prop) (C0 : q_C p s m meth c args RX10 cX10_plan 3 (some .int) wsX10_plan D (tyL k) A) (R : Int32 × T2) : ∀ n : Nat, ∀ (σ : T2) (v2 : Int32), S_X10_plan_b27 n σ v2 → P_X10_plan_b27 n σ v2 = R → ∀ (H : Heap) (locs : List Loc) (ls : Array Slot), q_W D A s.heap (wX10 k a σ) H locs → lv_has ls 3 [(0, .ref (a 0)), (2, .int v2)] → W p l e { frames := 5, cells := 0, slots := 0, locals := 107 } s m args below meth c H locs 0 0 (MQ below (va_Qi (fun r u => (r, u) = R) (fun u => q_E D (tyL k) A (wX10 k a u)) A) args s 0 0 A) (F0 m 27 ls []) := by
  intro n
  induction n with
  | zero => intro σ v2 hs; exact False.elim hs
  | succ n ih =>
    intro σ v2 hs hR H locs ls hW hl
    rw [P_X10_plan_b27_e] at hR
    rw [S_X10_plan_b27_e] at hs
    obtain ⟨hx, hb, hr, hml, hts, hown, hlocks, hK, hA⟩ := id C0
    have hf7 := hts (.fieldLink RX10 7 "BeatFollowerModel" "at" "[I") (by decide +kernel)
    have hf33 := hts (.fieldLink RX10 33 "BeatFollowerModel" "afters" "[I") (by decide +kernel)
    have hf36 := hts (.fieldLink RX10 36 "BeatFollowerModel" "misses" "[I") (by decide +kernel)
    have hf128 := hts (.fieldLink RX10 128 "BeatFollowerModel" "padMany" "I") (by decide +kernel)
    have hf158 := hts (.fieldLink RX10 158 "BeatFollowerModel" "beats" "I") (by decide +kernel)
    have hinX10 : ∀ w ∈ u_ws RX10 TX10 18, w ∈ wsX10_plan := hin_X10_plan_X10
    refine lv_iload_n hx hb dX10_plan_27 rfl (lv_at hl 1 rfl) ?_
    refine lv_aload_n hx hb dX10_plan_28 rfl (lv_at hl 0 rfl) ?_
    refine va_get (v := .int (σ 0 13)) (C := RX10) (T := TX10) (N := 18) hx hb hts hinX10 hown hK hW.1 0 rfl rfl 13 (by decide) hf158 (fun _ h9 => h9) rfl dX10_plan_29 ?_
    refine lv_icmp_ge (tgt := 67) hx hb dX10_plan_32 (by decide) (fun c_6 => ?_) (fun c_6 => ?_)
    · have hs := hs.1 c_6
      rw [if_pos c_6] at hR
      refine lv_aload_n hx hb dX10_plan_67 rfl (lv_at hl 0 rfl) ?_
      refine lv_iconst (v := (0 : Int32)) hx hb dX10_plan_68 (by decide) ?_
      refine q_putf (ty := .int) (wd' := wX10 k a (u2 σ 0 (upd (σ 0) 9 (0 : Int32)))) C0 hW hinX10 tyX10 tyX10_ok nmX10 0 rfl rfl 9 (by decide) hf128 rfl (by decide +kernel) rfl rfl (Nat.le_of_ble_eq_true rfl) dX10_plan_69 (fX10_s9 _ _ _) (wX10_s0 k a _ _) (fun H locs hW => ?_)
      refine lv_aload_n hx hb dX10_plan_72 rfl (lv_at hl 0 rfl) ?_
      refine va_get (v := .ref (a 1)) (C := RX10) (T := TX10) (N := 18) hx hb hts hinX10 hown hK hW.1 0 rfl rfl 0 (by decide) hf7 (fun _ h9 => h9) rfl dX10_plan_73 ?_
      refine lv_bipush (v := (22 : Int32)) hx hb dX10_plan_76 (by decide) ?_
      refine q_iald (v := σ 1 22) C0 hW 1 rfl rfl vi_22_672 cl_22 rfl dX10_plan_78 ?_
      exact q_iret C0 hW hR dX10_plan_79
    · have hs := hs.2 c_6
      rw [if_neg c_6] at hR
      refine lv_aload_n hx hb dX10_plan_35 rfl (lv_at hl 0 rfl) ?_
      refine lv_aload_n hx hb dX10_plan_36 rfl (lv_at hl 0 rfl) ?_
      have hs7 := hs.1
      have hs := hs.2
      refine q_Vi (As := []) (rest := [.ref (a 0)]) (R := P_X10_lastTime σ) [0, 1, 2, 3, 4, 5, 6, 7, 8] [0, 1, 2, 3] 0 10 C0 hW (m_X10_lastTime l D k a _ σ  hs7) (cwV 0 hts gX10_plan_X10_lastTime rfl rfl rfl hd_X10_lastTime ⟨Nat.le_of_ble_eq_true rfl, Nat.le_of_ble_eq_true rfl⟩) (by decide) (wX10_pl k a _) rfl (wX10_rec k a _) rfl hl rfl rfl (Nat.le_of_ble_eq_true rfl) dX10_plan_37 ⟨Nat.le_refl 0, Nat.le_refl 0⟩ ?_
      refine lv_aload_n hx hb dX10_plan_40 rfl (lv_at hl 0 rfl) ?_
      refine va_get (v := .ref (a 7)) (C := RX10) (T := TX10) (N := 18) hx hb hts hinX10 hown hK hW.1 0 rfl rfl 16 (by decide) hf33 (fun _ h9 => h9) rfl dX10_plan_41 ?_
      refine lv_iload_n hx hb dX10_plan_44 rfl (lv_at hl 1 rfl) ?_
      have hi8 := hs.1
      have hs := hs.2
      refine q_iald (v := σ 7 v2.toNatClampNeg) C0 hW 7 rfl rfl hi8 rfl rfl dX10_plan_45 ?_
      refine lv_iadd hx hb dX10_plan_46 ?_
      refine lv_aload_n hx hb dX10_plan_47 rfl (lv_at hl 0 rfl) ?_
      have hs9 := hs.1
      have hs := hs.2
      refine q_Vi (As := []) (rest := [.int ((P_X10_lastTime σ) + (σ 7 v2.toNatClampNeg)), .ref (a 0)]) (R := P_X10_nextTrue σ) [0, 1, 2, 3, 4, 5, 6, 7, 8] [0, 1, 2, 3] 0 10 C0 hW (m_X10_nextTrue l D k a _ σ  hs9) (cwV 0 hts gX10_plan_X10_nextTrue rfl rfl rfl hd_X10_nextTrue ⟨Nat.le_of_ble_eq_true rfl, Nat.le_of_ble_eq_true rfl⟩) (by decide) (wX10_pl k a _) rfl (wX10_rec k a _) rfl hl rfl rfl (Nat.le_of_ble_eq_true rfl) dX10_plan_48 ⟨Nat.le_refl 0, Nat.le_refl 0⟩ ?_
      refine lv_aload_n hx hb dX10_plan_51 rfl (lv_at hl 0 rfl) ?_
      refine va_get (v := .ref (a 8)) (C := RX10) (T := TX10) (N := 18) hx hb hts hinX10 hown hK hW.1 0 rfl rfl 17 (by decide) hf36 (fun _ h9 => h9) rfl dX10_plan_52 ?_
      refine lv_iload_n hx hb dX10_plan_55 rfl (lv_at hl 1 rfl) ?_
      have hi10 := hs.1
      have hs := hs.2
      refine q_iald (v := σ 8 v2.toNatClampNeg) C0 hW 8 rfl rfl hi10 rfl rfl dX10_plan_56 ?_
      refine lv_iadd hx hb dX10_plan_57 ?_
      have hs11 := hs.1
      have hs := hs.2
      refine q_Vv (As := [.int ((P_X10_lastTime σ) + (σ 7 v2.toNatClampNeg)), .int ((P_X10_nextTrue σ) + (σ 8 v2.toNatClampNeg))]) (rest := []) (wf := wX10 k a) (R := P_X10_addBeat σ ((P_X10_lastTime σ) + (σ 7 v2.toNatClampNeg)) ((P_X10_nextTrue σ) + (σ 8 v2.toNatClampNeg))) (wd' := wX10 k a (P_X10_addBeat σ ((P_X10_lastTime σ) + (σ 7 v2.toNatClampNeg)) ((P_X10_nextTrue σ) + (σ 8 v2.toNatClampNeg)))) [0, 1, 2, 3, 4, 5, 6, 7, 8] [0, 1, 2, 3] 0 10 C0 hW (m_X10_addBeat l D k a H.size σ ((P_X10_lastTime σ) + (σ 7 v2.toNatClampNeg)) ((P_X10_nextTrue σ) + (σ 8 v2.toNatClampNeg)) hs11) (cwV 2 hts gX10_plan_X10_addBeat rfl rfl rfl hd_X10_addBeat ⟨Nat.le_of_ble_eq_true rfl, Nat.le_of_ble_eq_true rfl⟩) (by decide) (wX10_pl k a _) rfl (wX10_rec k a _) rfl (wX10_fst k a _ _) (wX10_put k a _ _) hl rfl rfl (Nat.le_of_ble_eq_true rfl) dX10_plan_58 ⟨Nat.le_refl 0, Nat.le_refl 0⟩ (fun H locs hW => ?_)
      exact b_X10_plan_b61c l D k a A C0 R _ _ ih (P_X10_addBeat σ ((P_X10_lastTime σ) + (σ 7 v2.toNatClampNeg)) ((P_X10_nextTrue σ) + (σ 8 v2.toNatClampNeg))) v2 hs hR H locs ls hW (lv_sub hl [0, 1] rfl)
set_option maxHeartbeats 400000 in
set_option maxRecDepth 100000 in
theorem b_X10_plan_b25c {p : Program} {e : Env} {s : State} {m : MethodId} {args : Array Value} {below : List Frame} {meth : Method} {c : Code} (l : Launch) (D : va_G) (k : Nat → ClassId) (a : Nat → Nat) (A : Nat → Prop) (C0 : q_C p s m meth c args RX10 cX10_plan 3 (some .int) wsX10_plan D (tyL k) A) (R : Int32 × T2) : ∀ (σ : T2), S_X10_plan_b25c σ → P_X10_plan_b25c σ = R → ∀ (H : Heap) (locs : List Loc) (ls : Array Slot), q_W D A s.heap (wX10 k a σ) H locs → lv_has ls 3 [(0, .ref (a 0))] → W p l e { frames := 5, cells := 0, slots := 0, locals := 107 } s m args below meth c H locs 0 0 (MQ below (va_Qi (fun r u => (r, u) = R) (fun u => q_E D (tyL k) A (wX10 k a u)) A) args s 0 0 A) (F0 m 25 ls []) := by
  intro σ hs hR H locs ls hW hl
  rw [P_X10_plan_b25c_e] at hR
  rw [S_X10_plan_b25c_e] at hs
  obtain ⟨hx, hb, hr, hml, hts, hown, hlocks, hK, hA⟩ := id C0
  refine lv_iconst (v := (0 : Int32)) hx hb dX10_plan_25 (by decide) ?_
  refine lv_istore_n (lv' := [(2, .int (0 : Int32)), (0, .ref (a 0))]) hx hb dX10_plan_26 rfl hl (by decide) rfl (fun ls hl => ?_)
  exact b_X10_plan_b27 l D k a A C0 R FU σ (0 : Int32) hs hR H locs ls hW (lv_sub hl [1, 0] rfl)
set_option maxHeartbeats 400000 in
set_option maxRecDepth 100000 in
theorem b_X10_plan_b4c {p : Program} {e : Env} {s : State} {m : MethodId} {args : Array Value} {below : List Frame} {meth : Method} {c : Code} (l : Launch) (D : va_G) (k : Nat → ClassId) (a : Nat → Nat) (A : Nat → Prop) (C0 : q_C p s m meth c args RX10 cX10_plan 3 (some .int) wsX10_plan D (tyL k) A) (R : Int32 × T2) : ∀ (σ : T2) (t0 : Int32), S_X10_plan_b4c σ t0 → P_X10_plan_b4c σ t0 = R → ∀ (H : Heap) (locs : List Loc) (ls : Array Slot), q_W D A s.heap (wX10 k a σ) H locs → lv_has ls 3 [(0, .ref (a 0))] → W p l e { frames := 5, cells := 0, slots := 0, locals := 107 } s m args below meth c H locs 0 0 (MQ below (va_Qi (fun r u => (r, u) = R) (fun u => q_E D (tyL k) A (wX10 k a u)) A) args s 0 0 A) (F0 m 4 ls [.int t0]) := by
  intro σ t0 hs hR H locs ls hW hl
  rw [P_X10_plan_b4c_e] at hR
  rw [S_X10_plan_b4c_e] at hs
  obtain ⟨hx, hb, hr, hml, hts, hown, hlocks, hK, hA⟩ := id C0
  refine lv_if_lt (tgt := 10) hx hb dX10_plan_4 (by decide) (fun c_2 => ?_) (fun c_2 => ?_)
  · have hs := hs.1 c_2
    rw [if_pos c_2] at hR
    refine lv_aload_n hx hb dX10_plan_10 rfl (lv_at hl 0 rfl) ?_
    have hs3 := hs.1
    have hs := hs.2
    refine q_Vi (As := []) (rest := []) (R := P_X10_whyNotPlan σ) [0, 1, 2, 3, 4, 5, 6, 7, 8] [0, 1, 2, 3] 0 10 C0 hW (m_X10_whyNotPlan l D k a _ σ  hs3) (cwV 0 hts gX10_plan_X10_whyNotPlan rfl rfl rfl hd_X10_whyNotPlan ⟨Nat.le_of_ble_eq_true rfl, Nat.le_of_ble_eq_true rfl⟩) (by decide) (wX10_pl k a _) rfl (wX10_rec k a _) rfl hl rfl rfl (Nat.le_of_ble_eq_true rfl) dX10_plan_11 ⟨Nat.le_refl 0, Nat.le_refl 0⟩ ?_
    refine lv_istore_n (lv' := [(1, .int (P_X10_whyNotPlan σ)), (0, .ref (a 0))]) hx hb dX10_plan_14 rfl hl (by decide) rfl (fun ls hl => ?_)
    refine lv_iload_n hx hb dX10_plan_15 rfl (lv_at hl 0 rfl) ?_
    refine lv_if_ge (tgt := 21) hx hb dX10_plan_16 (by decide) (fun c_4 => ?_) (fun c_4 => ?_)
    · have hs := hs.1 c_4
      rw [if_pos c_4] at hR
      refine lv_aload_n hx hb dX10_plan_21 rfl (lv_at hl 1 rfl) ?_
      have hs5 := hs.1
      have hs := hs.2
      refine q_Vv (As := []) (rest := []) (wf := wX10 k a) (R := P_X10_keep σ) (wd' := wX10 k a (P_X10_keep σ)) [0, 1, 2, 3, 4, 5, 6, 7, 8] [0, 1, 2, 3] 0 10 C0 hW (m_X10_keep l D k a H.size σ  hs5) (cwV 0 hts gX10_plan_X10_keep rfl rfl rfl hd_X10_keep ⟨Nat.le_of_ble_eq_true rfl, Nat.le_of_ble_eq_true rfl⟩) (by decide) (wX10_pl k a _) rfl (wX10_rec k a _) rfl (wX10_fst k a _ _) (wX10_put k a _ _) hl rfl rfl (Nat.le_of_ble_eq_true rfl) dX10_plan_22 ⟨Nat.le_refl 0, Nat.le_refl 0⟩ (fun H locs hW => ?_)
      exact b_X10_plan_b25c l D k a A C0 R (P_X10_keep σ) hs hR H locs ls hW (lv_sub hl [1] rfl)
    · have hs := hs.2 c_4
      rw [if_neg c_4] at hR
      refine lv_iload_n hx hb dX10_plan_19 rfl (lv_at hl 0 rfl) ?_
      exact q_iret C0 hW hR dX10_plan_20
  · have hs := hs.2 c_2
    rw [if_neg c_2] at hR
    refine lv_bipush (v := (-3 : Int32)) hx hb dX10_plan_7 (by decide) ?_
    exact q_iret C0 hW hR dX10_plan_9
set_option maxHeartbeats 400000 in
set_option maxRecDepth 100000 in
theorem b_X10_plan_b0 {p : Program} {e : Env} {s : State} {m : MethodId} {args : Array Value} {below : List Frame} {meth : Method} {c : Code} (l : Launch) (D : va_G) (k : Nat → ClassId) (a : Nat → Nat) (A : Nat → Prop) (C0 : q_C p s m meth c args RX10 cX10_plan 3 (some .int) wsX10_plan D (tyL k) A) (R : Int32 × T2) : ∀ (σ : T2), S_X10_plan_b0 σ → P_X10_plan_b0 σ = R → ∀ (H : Heap) (locs : List Loc) (ls : Array Slot), q_W D A s.heap (wX10 k a σ) H locs → lv_has ls 3 [(0, .ref (a 0))] → W p l e { frames := 5, cells := 0, slots := 0, locals := 107 } s m args below meth c H locs 0 0 (MQ below (va_Qi (fun r u => (r, u) = R) (fun u => q_E D (tyL k) A (wX10 k a u)) A) args s 0 0 A) (F0 m 0 ls []) := by
  intro σ hs hR H locs ls hW hl
  rw [P_X10_plan_b0_e] at hR
  rw [S_X10_plan_b0_e] at hs
  obtain ⟨hx, hb, hr, hml, hts, hown, hlocks, hK, hA⟩ := id C0
  refine lv_aload_n hx hb dX10_plan_0 rfl (lv_at hl 0 rfl) ?_
  have hs1 := hs.1
  have hs := hs.2
  refine q_Viw (As := []) (rest := []) (wf := wX10 k a) (R := P_X10_fault σ) (wd' := wX10 k a ((P_X10_fault σ).2)) [0, 1, 2, 3, 4, 5, 6, 7, 8] [0, 1, 2, 3] 0 10 C0 hW (m_X10_fault l D k a H.size σ  hs1) (cwV 0 hts gX10_plan_X10_fault rfl rfl rfl hd_X10_fault ⟨Nat.le_of_ble_eq_true rfl, Nat.le_of_ble_eq_true rfl⟩) (by decide) (wX10_pl k a _) rfl (wX10_rec k a _) rfl (wX10_fst k a _ _) (wX10_put k a _ _) hl rfl rfl (Nat.le_of_ble_eq_true rfl) dX10_plan_1 ⟨Nat.le_refl 0, Nat.le_refl 0⟩ (fun H locs hW => ?_)
  exact b_X10_plan_b4c l D k a A C0 R ((P_X10_fault σ).2) ((P_X10_fault σ).1) hs hR H locs ls hW (lv_sub hl [0] rfl)
set_option maxHeartbeats 400000 in
set_option maxRecDepth 100000 in
theorem m_X10_plan (l : Launch) (D : va_G) (k : Nat → ClassId) (a : Nat → Nat) (sz : Nat) (σ : T2) (hs : S_X10_plan σ) : Met l yX10_plan wsX10_plan { frames := 5, cells := 0, slots := 0, locals := 107 } (va_Pc [.ref (a 0)] (q_B D (tyL k) (wX10 k a σ) sz)) (va_Qi (fun r u => (r, u) = P_X10_plan σ) (fun u => q_E D (tyL k) (va_A (wX10 k a σ) sz) (wX10 k a u)) (va_A (wX10 k a σ) sz)) 0 0 (va_A (wX10 k a σ) sz) := by
  refine q_met [.ref (a 0)] (wX10 k a σ) sz (cc := cX10_plan) (maxL := 3) (ret := (some .int)) (by decide) rfl (Nat.le_of_ble_eq_true rfl) ?_
  intro p e s m args below meth c ls hsz C0 hW hl hin
  subst hsz
  exact b_X10_plan_b0 l D k a _ C0 _ σ  hs rfl s.heap [] ls hW (lv_sub hl [0] rfl)
theorem hin_X10_undo_X10 : ∀ w ∈ u_ws RX10 TX10 18, w ∈ wsX10_undo := by decide +kernel
theorem hd_X10_undo : yX10_undo.cls = RX10 ∧ yX10_undo.cls ≠ "java/lang/invoke/MethodHandle" ∧ yX10_undo.cls ≠ "java/lang/invoke/VarHandle" ∧ (parseMethodDescriptor yX10_undo.desc).map (fun d => d.parameters.length) = some 0 := by decide +kernel
noncomputable def P_X10_undo_b35 (n : Nat) : T2 → Int32 → Int32 → Int32 × T2 := Nat.rec (motive := fun _ => T2 → Int32 → Int32 → Int32 × T2) (fun _ _ _ => (0, fun _ _ => 0)) (fun _ pk35 => fun σ v1 v2 => if (672 : Int32) ≤ v2 then ((σ 0 3, σ)) else (pk35 (u2 σ 1 (upd (σ 1) v2.toNatClampNeg (σ 2 ((((672 : Int32) * v1) + v2).toNatClampNeg)))) v1 (v2 + (1 : Int32)))) n
def S_X10_undo_b35 (n : Nat) : T2 → Int32 → Int32 → Prop := Nat.rec (motive := fun _ => T2 → Int32 → Int32 → Prop) (fun _ _ _ => False) (fun _ sk35 => fun σ v1 v2 => ((672 : Int32) ≤ v2 → (True)) ∧ (¬ ((672 : Int32) ≤ v2) → ((vp_in (((672 : Int32) * v1) + v2) 4032) ∧ ((vp_in v2 672) ∧ (sk35 (u2 σ 1 (upd (σ 1) v2.toNatClampNeg (σ 2 ((((672 : Int32) * v1) + v2).toNatClampNeg)))) v1 (v2 + (1 : Int32))))))) n
theorem P_X10_undo_b35_e (n : Nat) (σ : T2) (v1 : Int32) (v2 : Int32) : P_X10_undo_b35 (n + 1) σ v1 v2 = if (672 : Int32) ≤ v2 then ((σ 0 3, σ)) else ((P_X10_undo_b35 n) (u2 σ 1 (upd (σ 1) v2.toNatClampNeg (σ 2 ((((672 : Int32) * v1) + v2).toNatClampNeg)))) v1 (v2 + (1 : Int32))) := rfl
theorem S_X10_undo_b35_e (n : Nat) (σ : T2) (v1 : Int32) (v2 : Int32) : S_X10_undo_b35 (n + 1) σ v1 v2 = (((672 : Int32) ≤ v2 → (True)) ∧ (¬ ((672 : Int32) ≤ v2) → ((vp_in (((672 : Int32) * v1) + v2) 4032) ∧ ((vp_in v2 672) ∧ ((S_X10_undo_b35 n) (u2 σ 1 (upd (σ 1) v2.toNatClampNeg (σ 2 ((((672 : Int32) * v1) + v2).toNatClampNeg)))) v1 (v2 + (1 : Int32))))))) := rfl
noncomputable def P_X10_undo_b33n (σ : T2) (v1 : Int32) : Int32 × T2 := P_X10_undo_b35 FU σ v1 (0 : Int32)
def S_X10_undo_b33n (σ : T2) (v1 : Int32) : Prop := S_X10_undo_b35 FU σ v1 (0 : Int32)
theorem P_X10_undo_b33n_e (σ : T2) (v1 : Int32) : P_X10_undo_b33n σ v1 = P_X10_undo_b35 FU σ v1 (0 : Int32) := rfl
theorem S_X10_undo_b33n_e (σ : T2) (v1 : Int32) : S_X10_undo_b33n σ v1 = (S_X10_undo_b35 FU σ v1 (0 : Int32)) := rfl
noncomputable def P_X10_undo_b0 (σ : T2) : Int32 × T2 := if (σ 0 3) = 0 then (((-5 : Int32), σ)) else (P_X10_undo_b33n (u2 σ 0 (upd (σ 0) 3 ((σ 0 3) - (1 : Int32)))) (((σ 0 2) + ((σ 0 3) - (1 : Int32))) - ((σ 0 2) + ((σ 0 3) - (1 : Int32))) / (6 : Int32) * (6 : Int32)))
def S_X10_undo_b0 (σ : T2) : Prop := ((σ 0 3) = 0 → (True)) ∧ (¬ ((σ 0 3) = 0) → (S_X10_undo_b33n (u2 σ 0 (upd (σ 0) 3 ((σ 0 3) - (1 : Int32)))) (((σ 0 2) + ((σ 0 3) - (1 : Int32))) - ((σ 0 2) + ((σ 0 3) - (1 : Int32))) / (6 : Int32) * (6 : Int32))))
theorem P_X10_undo_b0_e (σ : T2) : P_X10_undo_b0 σ = if (σ 0 3) = 0 then (((-5 : Int32), σ)) else (P_X10_undo_b33n (u2 σ 0 (upd (σ 0) 3 ((σ 0 3) - (1 : Int32)))) (((σ 0 2) + ((σ 0 3) - (1 : Int32))) - ((σ 0 2) + ((σ 0 3) - (1 : Int32))) / (6 : Int32) * (6 : Int32))) := rfl
theorem S_X10_undo_b0_e (σ : T2) : S_X10_undo_b0 σ = (((σ 0 3) = 0 → (True)) ∧ (¬ ((σ 0 3) = 0) → (S_X10_undo_b33n (u2 σ 0 (upd (σ 0) 3 ((σ 0 3) - (1 : Int32)))) (((σ 0 2) + ((σ 0 3) - (1 : Int32))) - ((σ 0 2) + ((σ 0 3) - (1 : Int32))) / (6 : Int32) * (6 : Int32))))) := rfl
noncomputable def P_X10_undo (σ : T2) : Int32 × T2 := P_X10_undo_b0 σ
def S_X10_undo (σ : T2) : Prop := S_X10_undo_b0 σ
set_option maxHeartbeats 400000 in
set_option maxRecDepth 100000 in
theorem b_X10_undo_b35 {p : Program} {e : Env} {s : State} {m : MethodId} {args : Array Value} {below : List Frame} {meth : Method} {c : Code} (l : Launch) (D : va_G) (k : Nat → ClassId) (a : Nat → Nat) (A : Nat → Prop) (C0 : q_C p s m meth c args RX10 cX10_undo 3 (some .int) wsX10_undo D (tyL k) A) (R : Int32 × T2) : ∀ n : Nat, ∀ (σ : T2) (v1 : Int32) (v2 : Int32), S_X10_undo_b35 n σ v1 v2 → P_X10_undo_b35 n σ v1 v2 = R → ∀ (H : Heap) (locs : List Loc) (ls : Array Slot), q_W D A s.heap (wX10 k a σ) H locs → lv_has ls 3 [(0, .ref (a 0)), (1, .int v1), (2, .int v2)] → W p l e { frames := 0, cells := 0, slots := 0, locals := 0 } s m args below meth c H locs 0 0 (MQ below (va_Qi (fun r u => (r, u) = R) (fun u => q_E D (tyL k) A (wX10 k a u)) A) args s 0 0 A) (F0 m 35 ls []) := by
  intro n
  induction n with
  | zero => intro σ v1 v2 hs; exact False.elim hs
  | succ n ih =>
    intro σ v1 v2 hs hR H locs ls hW hl
    rw [P_X10_undo_b35_e] at hR
    rw [S_X10_undo_b35_e] at hs
    obtain ⟨hx, hb, hr, hml, hts, hown, hlocks, hK, hA⟩ := id C0
    have hf7 := hts (.fieldLink RX10 7 "BeatFollowerModel" "at" "[I") (by decide +kernel)
    have hf13 := hts (.fieldLink RX10 13 "BeatFollowerModel" "past" "[I") (by decide +kernel)
    have hf39 := hts (.fieldLink RX10 39 "BeatFollowerModel" "pastMany" "I") (by decide +kernel)
    have hinX10 : ∀ w ∈ u_ws RX10 TX10 18, w ∈ wsX10_undo := hin_X10_undo_X10
    refine lv_iload_n hx hb dX10_undo_35 rfl (lv_at hl 2 rfl) ?_
    refine lv_sipush (v := (672 : Int32)) hx hb dX10_undo_36 (by decide) ?_
    refine lv_icmp_ge (tgt := 66) hx hb dX10_undo_39 (by decide) (fun c_2 => ?_) (fun c_2 => ?_)
    · have hs := hs.1 c_2
      rw [if_pos c_2] at hR
      refine lv_aload_n hx hb dX10_undo_66 rfl (lv_at hl 0 rfl) ?_
      refine va_get (v := .int (σ 0 3)) (C := RX10) (T := TX10) (N := 18) hx hb hts hinX10 hown hK hW.1 0 rfl rfl 3 (by decide) hf39 (fun _ h9 => h9) rfl dX10_undo_67 ?_
      exact q_iret C0 hW hR dX10_undo_70
    · have hs := hs.2 c_2
      rw [if_neg c_2] at hR
      refine lv_aload_n hx hb dX10_undo_42 rfl (lv_at hl 0 rfl) ?_
      refine va_get (v := .ref (a 1)) (C := RX10) (T := TX10) (N := 18) hx hb hts hinX10 hown hK hW.1 0 rfl rfl 0 (by decide) hf7 (fun _ h9 => h9) rfl dX10_undo_43 ?_
      refine lv_iload_n hx hb dX10_undo_46 rfl (lv_at hl 2 rfl) ?_
      refine lv_aload_n hx hb dX10_undo_47 rfl (lv_at hl 0 rfl) ?_
      refine va_get (v := .ref (a 2)) (C := RX10) (T := TX10) (N := 18) hx hb hts hinX10 hown hK hW.1 0 rfl rfl 1 (by decide) hf13 (fun _ h9 => h9) rfl dX10_undo_48 ?_
      refine lv_sipush (v := (672 : Int32)) hx hb dX10_undo_51 (by decide) ?_
      refine lv_iload_n hx hb dX10_undo_54 rfl (lv_at hl 1 rfl) ?_
      refine lv_imul hx hb dX10_undo_55 ?_
      refine lv_iload_n hx hb dX10_undo_56 rfl (lv_at hl 2 rfl) ?_
      refine lv_iadd hx hb dX10_undo_57 ?_
      have hi3 := hs.1
      have hs := hs.2
      refine q_iald (v := σ 2 ((((672 : Int32) * v1) + v2).toNatClampNeg)) C0 hW 2 rfl rfl hi3 rfl rfl dX10_undo_58 ?_
      have hi4 := hs.1
      have hs := hs.2
      refine q_iast (f := σ 1) (wd' := wX10 k a (u2 σ 1 (upd (σ 1) v2.toNatClampNeg (σ 2 ((((672 : Int32) * v1) + v2).toNatClampNeg))))) C0 hW 1 rfl rfl hi4 rfl dX10_undo_59 (wX10_s1 k a _ _) (fun H locs hW => ?_)
      refine lv_iinc (v := v2 + (1 : Int32)) (lv' := [(2, .int (v2 + (1 : Int32))), (0, .ref (a 0)), (1, .int v1)]) hx hb dX10_undo_60 hl (k := 2) rfl rfl (by decide) rfl (fun ls hl => ?_)
      refine lv_goto (tgt := 35) hx hb dX10_undo_63 (by decide) ?_
      exact ih (u2 σ 1 (upd (σ 1) v2.toNatClampNeg (σ 2 ((((672 : Int32) * v1) + v2).toNatClampNeg)))) v1 (v2 + (1 : Int32)) hs hR H locs ls hW (lv_sub hl [1, 2, 0] rfl)
set_option maxHeartbeats 400000 in
set_option maxRecDepth 100000 in
theorem b_X10_undo_b33n {p : Program} {e : Env} {s : State} {m : MethodId} {args : Array Value} {below : List Frame} {meth : Method} {c : Code} (l : Launch) (D : va_G) (k : Nat → ClassId) (a : Nat → Nat) (A : Nat → Prop) (C0 : q_C p s m meth c args RX10 cX10_undo 3 (some .int) wsX10_undo D (tyL k) A) (R : Int32 × T2) : ∀ (σ : T2) (v1 : Int32), S_X10_undo_b33n σ v1 → P_X10_undo_b33n σ v1 = R → ∀ (H : Heap) (locs : List Loc) (ls : Array Slot), q_W D A s.heap (wX10 k a σ) H locs → lv_has ls 3 [(0, .ref (a 0)), (1, .int v1)] → W p l e { frames := 0, cells := 0, slots := 0, locals := 0 } s m args below meth c H locs 0 0 (MQ below (va_Qi (fun r u => (r, u) = R) (fun u => q_E D (tyL k) A (wX10 k a u)) A) args s 0 0 A) (F0 m 33 ls []) := by
  intro σ v1 hs hR H locs ls hW hl
  rw [P_X10_undo_b33n_e] at hR
  rw [S_X10_undo_b33n_e] at hs
  obtain ⟨hx, hb, hr, hml, hts, hown, hlocks, hK, hA⟩ := id C0
  refine lv_iconst (v := (0 : Int32)) hx hb dX10_undo_33 (by decide) ?_
  refine lv_istore_n (lv' := [(2, .int (0 : Int32)), (0, .ref (a 0)), (1, .int v1)]) hx hb dX10_undo_34 rfl hl (by decide) rfl (fun ls hl => ?_)
  exact b_X10_undo_b35 l D k a A C0 R FU σ v1 (0 : Int32) hs hR H locs ls hW (lv_sub hl [1, 2, 0] rfl)
set_option maxHeartbeats 400000 in
set_option maxRecDepth 100000 in
theorem b_X10_undo_b0 {p : Program} {e : Env} {s : State} {m : MethodId} {args : Array Value} {below : List Frame} {meth : Method} {c : Code} (l : Launch) (D : va_G) (k : Nat → ClassId) (a : Nat → Nat) (A : Nat → Prop) (C0 : q_C p s m meth c args RX10 cX10_undo 3 (some .int) wsX10_undo D (tyL k) A) (R : Int32 × T2) : ∀ (σ : T2), S_X10_undo_b0 σ → P_X10_undo_b0 σ = R → ∀ (H : Heap) (locs : List Loc) (ls : Array Slot), q_W D A s.heap (wX10 k a σ) H locs → lv_has ls 3 [(0, .ref (a 0))] → W p l e { frames := 0, cells := 0, slots := 0, locals := 0 } s m args below meth c H locs 0 0 (MQ below (va_Qi (fun r u => (r, u) = R) (fun u => q_E D (tyL k) A (wX10 k a u)) A) args s 0 0 A) (F0 m 0 ls []) := by
  intro σ hs hR H locs ls hW hl
  rw [P_X10_undo_b0_e] at hR
  rw [S_X10_undo_b0_e] at hs
  obtain ⟨hx, hb, hr, hml, hts, hown, hlocks, hK, hA⟩ := id C0
  have hf39 := hts (.fieldLink RX10 39 "BeatFollowerModel" "pastMany" "I") (by decide +kernel)
  have hf42 := hts (.fieldLink RX10 42 "BeatFollowerModel" "pastFirst" "I") (by decide +kernel)
  have hinX10 : ∀ w ∈ u_ws RX10 TX10 18, w ∈ wsX10_undo := hin_X10_undo_X10
  refine lv_aload_n hx hb dX10_undo_0 rfl (lv_at hl 0 rfl) ?_
  refine va_get (v := .int (σ 0 3)) (C := RX10) (T := TX10) (N := 18) hx hb hts hinX10 hown hK hW.1 0 rfl rfl 3 (by decide) hf39 (fun _ h9 => h9) rfl dX10_undo_1 ?_
  refine lv_if_ne (tgt := 10) hx hb dX10_undo_4 (by decide) (fun c_1 => ?_) (fun c_1 => ?_)
  · have hs := hs.2 c_1
    rw [if_neg c_1] at hR
    refine lv_aload_n hx hb dX10_undo_10 rfl (lv_at hl 0 rfl) ?_
    refine lv_dup hx hb dX10_undo_11 rfl ?_
    refine va_get (v := .int (σ 0 3)) (C := RX10) (T := TX10) (N := 18) hx hb hts hinX10 hown hK hW.1 0 rfl rfl 3 (by decide) hf39 (fun _ h9 => h9) rfl dX10_undo_12 ?_
    refine lv_iconst (v := (1 : Int32)) hx hb dX10_undo_15 (by decide) ?_
    refine lv_isub hx hb dX10_undo_16 ?_
    refine q_putf (ty := .int) (wd' := wX10 k a (u2 σ 0 (upd (σ 0) 3 ((σ 0 3) - (1 : Int32))))) C0 hW hinX10 tyX10 tyX10_ok nmX10 0 rfl rfl 3 (by decide) hf39 rfl (by decide +kernel) rfl rfl (Nat.le_of_ble_eq_true rfl) dX10_undo_17 (fX10_s3 _ _ _) (wX10_s0 k a _ _) (fun H locs hW => ?_)
    refine lv_aload_n hx hb dX10_undo_20 rfl (lv_at hl 0 rfl) ?_
    refine va_get (v := .int (σ 0 2)) (C := RX10) (T := TX10) (N := 18) hx hb hts hinX10 hown hK hW.1 0 rfl rfl 2 (by decide) hf42 (fun _ h9 => h9) rfl dX10_undo_21 ?_
    refine lv_aload_n hx hb dX10_undo_24 rfl (lv_at hl 0 rfl) ?_
    refine va_get (v := .int ((σ 0 3) - (1 : Int32))) (C := RX10) (T := TX10) (N := 18) hx hb hts hinX10 hown hK hW.1 0 rfl rfl 3 (by decide) hf39 (fun _ h9 => h9) rfl dX10_undo_25 ?_
    refine lv_iadd hx hb dX10_undo_28 ?_
    refine lv_bipush (v := (6 : Int32)) hx hb dX10_undo_29 (by decide) ?_
    refine lv_irem hx hb dX10_undo_31 (by decide) ?_
    refine lv_istore_n (lv' := [(1, .int (((σ 0 2) + ((σ 0 3) - (1 : Int32))) - ((σ 0 2) + ((σ 0 3) - (1 : Int32))) / (6 : Int32) * (6 : Int32))), (0, .ref (a 0))]) hx hb dX10_undo_32 rfl hl (by decide) rfl (fun ls hl => ?_)
    exact b_X10_undo_b33n l D k a A C0 R (u2 σ 0 (upd (σ 0) 3 ((σ 0 3) - (1 : Int32)))) (((σ 0 2) + ((σ 0 3) - (1 : Int32))) - ((σ 0 2) + ((σ 0 3) - (1 : Int32))) / (6 : Int32) * (6 : Int32)) hs hR H locs ls hW (lv_sub hl [1, 0] rfl)
  · have hs := hs.1 c_1
    rw [if_pos c_1] at hR
    refine lv_bipush (v := (-5 : Int32)) hx hb dX10_undo_7 (by decide) ?_
    exact q_iret C0 hW hR dX10_undo_9
set_option maxHeartbeats 400000 in
set_option maxRecDepth 100000 in
theorem m_X10_undo (l : Launch) (D : va_G) (k : Nat → ClassId) (a : Nat → Nat) (sz : Nat) (σ : T2) (hs : S_X10_undo σ) : Met l yX10_undo wsX10_undo { frames := 0, cells := 0, slots := 0, locals := 0 } (va_Pc [.ref (a 0)] (q_B D (tyL k) (wX10 k a σ) sz)) (va_Qi (fun r u => (r, u) = P_X10_undo σ) (fun u => q_E D (tyL k) (va_A (wX10 k a σ) sz) (wX10 k a u)) (va_A (wX10 k a σ) sz)) 0 0 (va_A (wX10 k a σ) sz) := by
  refine q_met [.ref (a 0)] (wX10 k a σ) sz (cc := cX10_undo) (maxL := 3) (ret := (some .int)) (by decide) rfl (Nat.le_of_ble_eq_true rfl) ?_
  intro p e s m args below meth c ls hsz C0 hW hl hin
  subst hsz
  exact b_X10_undo_b0 l D k a _ C0 _ σ  hs rfl s.heap [] ls hW (lv_sub hl [0] rfl)
theorem hin_X10_save_X10 : ∀ w ∈ u_ws RX10 TX10 18, w ∈ wsX10_save := by decide +kernel
theorem hd_X10_save : yX10_save.cls = RX10 ∧ yX10_save.cls ≠ "java/lang/invoke/MethodHandle" ∧ yX10_save.cls ≠ "java/lang/invoke/VarHandle" ∧ (parseMethodDescriptor yX10_save.desc).map (fun d => d.parameters.length) = some 1 := by decide +kernel
noncomputable def P_X10_save_b14 (n : Nat) : T2 → Int32 → Int32 → Int32 × T2 := Nat.rec (motive := fun _ => T2 → Int32 → Int32 → Int32 × T2) (fun _ _ _ => (0, fun _ _ => 0)) (fun _ pk14 => fun σ v1 v2 => if (672 : Int32) ≤ v2 then ((σ 1 8, u2 σ 4 (upd (σ 4) v1.toNatClampNeg (vp_nar .boolean (1 : Int32))))) else (pk14 (u2 σ 3 (upd (σ 3) ((((672 : Int32) * v1) + v2).toNatClampNeg) (σ 1 v2.toNatClampNeg))) v1 (v2 + (1 : Int32)))) n
def S_X10_save_b14 (n : Nat) : T2 → Int32 → Int32 → Prop := Nat.rec (motive := fun _ => T2 → Int32 → Int32 → Prop) (fun _ _ _ => False) (fun _ sk14 => fun σ v1 v2 => ((672 : Int32) ≤ v2 → ((vp_in v1 2) ∧ (True))) ∧ (¬ ((672 : Int32) ≤ v2) → ((vp_in v2 672) ∧ ((vp_in (((672 : Int32) * v1) + v2) 1344) ∧ (sk14 (u2 σ 3 (upd (σ 3) ((((672 : Int32) * v1) + v2).toNatClampNeg) (σ 1 v2.toNatClampNeg))) v1 (v2 + (1 : Int32))))))) n
theorem P_X10_save_b14_e (n : Nat) (σ : T2) (v1 : Int32) (v2 : Int32) : P_X10_save_b14 (n + 1) σ v1 v2 = if (672 : Int32) ≤ v2 then ((σ 1 8, u2 σ 4 (upd (σ 4) v1.toNatClampNeg (vp_nar .boolean (1 : Int32))))) else ((P_X10_save_b14 n) (u2 σ 3 (upd (σ 3) ((((672 : Int32) * v1) + v2).toNatClampNeg) (σ 1 v2.toNatClampNeg))) v1 (v2 + (1 : Int32))) := rfl
theorem S_X10_save_b14_e (n : Nat) (σ : T2) (v1 : Int32) (v2 : Int32) : S_X10_save_b14 (n + 1) σ v1 v2 = (((672 : Int32) ≤ v2 → ((vp_in v1 2) ∧ (True))) ∧ (¬ ((672 : Int32) ≤ v2) → ((vp_in v2 672) ∧ ((vp_in (((672 : Int32) * v1) + v2) 1344) ∧ ((S_X10_save_b14 n) (u2 σ 3 (upd (σ 3) ((((672 : Int32) * v1) + v2).toNatClampNeg) (σ 1 v2.toNatClampNeg))) v1 (v2 + (1 : Int32))))))) := rfl
noncomputable def P_X10_save_b0 (σ : T2) (v1 : Int32) : Int32 × T2 := if (P_X10_in v1 (0 : Int32) (1 : Int32)) = 0 then (((-2 : Int32), σ)) else (P_X10_save_b14 FU σ v1 (0 : Int32))
def S_X10_save_b0 (σ : T2) (v1 : Int32) : Prop := (S_X10_in v1 (0 : Int32) (1 : Int32)) ∧ (((P_X10_in v1 (0 : Int32) (1 : Int32)) = 0 → (True)) ∧ (¬ ((P_X10_in v1 (0 : Int32) (1 : Int32)) = 0) → (S_X10_save_b14 FU σ v1 (0 : Int32))))
theorem P_X10_save_b0_e (σ : T2) (v1 : Int32) : P_X10_save_b0 σ v1 = if (P_X10_in v1 (0 : Int32) (1 : Int32)) = 0 then (((-2 : Int32), σ)) else (P_X10_save_b14 FU σ v1 (0 : Int32)) := rfl
theorem S_X10_save_b0_e (σ : T2) (v1 : Int32) : S_X10_save_b0 σ v1 = ((S_X10_in v1 (0 : Int32) (1 : Int32)) ∧ (((P_X10_in v1 (0 : Int32) (1 : Int32)) = 0 → (True)) ∧ (¬ ((P_X10_in v1 (0 : Int32) (1 : Int32)) = 0) → (S_X10_save_b14 FU σ v1 (0 : Int32))))) := rfl
noncomputable def P_X10_save (σ : T2) (p0 : Int32) : Int32 × T2 := P_X10_save_b0 σ p0
def S_X10_save (σ : T2) (p0 : Int32) : Prop := S_X10_save_b0 σ p0
set_option maxHeartbeats 400000 in
set_option maxRecDepth 100000 in
theorem b_X10_save_b14 {p : Program} {e : Env} {s : State} {m : MethodId} {args : Array Value} {below : List Frame} {meth : Method} {c : Code} (l : Launch) (D : va_G) (k : Nat → ClassId) (a : Nat → Nat) (A : Nat → Prop) (C0 : q_C p s m meth c args RX10 cX10_save 3 (some .int) wsX10_save D (tyL k) A) (R : Int32 × T2) : ∀ n : Nat, ∀ (σ : T2) (v1 : Int32) (v2 : Int32), S_X10_save_b14 n σ v1 v2 → P_X10_save_b14 n σ v1 v2 = R → ∀ (H : Heap) (locs : List Loc) (ls : Array Slot), q_W D A s.heap (wX10 k a σ) H locs → lv_has ls 3 [(0, .ref (a 0)), (1, .int v1), (2, .int v2)] → W p l e { frames := 1, cells := 0, slots := 0, locals := 22 } s m args below meth c H locs 0 0 (MQ below (va_Qi (fun r u => (r, u) = R) (fun u => q_E D (tyL k) A (wX10 k a u)) A) args s 0 0 A) (F0 m 14 ls []) := by
  intro n
  induction n with
  | zero => intro σ v1 v2 hs; exact False.elim hs
  | succ n ih =>
    intro σ v1 v2 hs hR H locs ls hW hl
    rw [P_X10_save_b14_e] at hR
    rw [S_X10_save_b14_e] at hs
    obtain ⟨hx, hb, hr, hml, hts, hown, hlocks, hK, hA⟩ := id C0
    have hf7 := hts (.fieldLink RX10 7 "BeatFollowerModel" "at" "[I") (by decide +kernel)
    have hf16 := hts (.fieldLink RX10 16 "BeatFollowerModel" "slots" "[I") (by decide +kernel)
    have hf19 := hts (.fieldLink RX10 19 "BeatFollowerModel" "isSaved" "[Z") (by decide +kernel)
    have hinX10 : ∀ w ∈ u_ws RX10 TX10 18, w ∈ wsX10_save := hin_X10_save_X10
    refine lv_iload_n hx hb dX10_save_14 rfl (lv_at hl 2 rfl) ?_
    refine lv_sipush (v := (672 : Int32)) hx hb dX10_save_15 (by decide) ?_
    refine lv_icmp_ge (tgt := 45) hx hb dX10_save_18 (by decide) (fun c_3 => ?_) (fun c_3 => ?_)
    · have hs := hs.1 c_3
      rw [if_pos c_3] at hR
      refine lv_aload_n hx hb dX10_save_45 rfl (lv_at hl 0 rfl) ?_
      refine va_get (v := .ref (a 4)) (C := RX10) (T := TX10) (N := 18) hx hb hts hinX10 hown hK hW.1 0 rfl rfl 5 (by decide) hf19 (fun _ h9 => h9) rfl dX10_save_46 ?_
      refine lv_iload_n hx hb dX10_save_49 rfl (lv_at hl 1 rfl) ?_
      refine lv_iconst (v := (1 : Int32)) hx hb dX10_save_50 (by decide) ?_
      have hi4 := hs.1
      have hs := hs.2
      refine q_zast (f := σ 4) (wd' := wX10 k a (u2 σ 4 (upd (σ 4) v1.toNatClampNeg (vp_nar .boolean (1 : Int32))))) C0 hW 4 rfl rfl hi4 rfl dX10_save_51 (wX10_s4 k a _ _) (fun H locs hW => ?_)
      refine lv_aload_n hx hb dX10_save_52 rfl (lv_at hl 0 rfl) ?_
      refine va_get (v := .ref (a 1)) (C := RX10) (T := TX10) (N := 18) hx hb hts hinX10 hown hK hW.1 0 rfl rfl 0 (by decide) hf7 (fun _ h9 => h9) rfl dX10_save_53 ?_
      refine lv_bipush (v := (8 : Int32)) hx hb dX10_save_56 (by decide) ?_
      refine q_iald (v := σ 1 8) C0 hW 1 rfl rfl vi_8_672 cl_8 rfl dX10_save_58 ?_
      exact q_iret C0 hW hR dX10_save_59
    · have hs := hs.2 c_3
      rw [if_neg c_3] at hR
      refine lv_aload_n hx hb dX10_save_21 rfl (lv_at hl 0 rfl) ?_
      refine va_get (v := .ref (a 3)) (C := RX10) (T := TX10) (N := 18) hx hb hts hinX10 hown hK hW.1 0 rfl rfl 4 (by decide) hf16 (fun _ h9 => h9) rfl dX10_save_22 ?_
      refine lv_sipush (v := (672 : Int32)) hx hb dX10_save_25 (by decide) ?_
      refine lv_iload_n hx hb dX10_save_28 rfl (lv_at hl 1 rfl) ?_
      refine lv_imul hx hb dX10_save_29 ?_
      refine lv_iload_n hx hb dX10_save_30 rfl (lv_at hl 2 rfl) ?_
      refine lv_iadd hx hb dX10_save_31 ?_
      refine lv_aload_n hx hb dX10_save_32 rfl (lv_at hl 0 rfl) ?_
      refine va_get (v := .ref (a 1)) (C := RX10) (T := TX10) (N := 18) hx hb hts hinX10 hown hK hW.1 0 rfl rfl 0 (by decide) hf7 (fun _ h9 => h9) rfl dX10_save_33 ?_
      refine lv_iload_n hx hb dX10_save_36 rfl (lv_at hl 2 rfl) ?_
      have hi5 := hs.1
      have hs := hs.2
      refine q_iald (v := σ 1 v2.toNatClampNeg) C0 hW 1 rfl rfl hi5 rfl rfl dX10_save_37 ?_
      have hi6 := hs.1
      have hs := hs.2
      refine q_iast (f := σ 3) (wd' := wX10 k a (u2 σ 3 (upd (σ 3) ((((672 : Int32) * v1) + v2).toNatClampNeg) (σ 1 v2.toNatClampNeg)))) C0 hW 3 rfl rfl hi6 rfl dX10_save_38 (wX10_s3 k a _ _) (fun H locs hW => ?_)
      refine lv_iinc (v := v2 + (1 : Int32)) (lv' := [(2, .int (v2 + (1 : Int32))), (0, .ref (a 0)), (1, .int v1)]) hx hb dX10_save_39 hl (k := 2) rfl rfl (by decide) rfl (fun ls hl => ?_)
      refine lv_goto (tgt := 14) hx hb dX10_save_42 (by decide) ?_
      exact ih (u2 σ 3 (upd (σ 3) ((((672 : Int32) * v1) + v2).toNatClampNeg) (σ 1 v2.toNatClampNeg))) v1 (v2 + (1 : Int32)) hs hR H locs ls hW (lv_sub hl [1, 2, 0] rfl)
set_option maxHeartbeats 400000 in
set_option maxRecDepth 100000 in
theorem b_X10_save_b0 {p : Program} {e : Env} {s : State} {m : MethodId} {args : Array Value} {below : List Frame} {meth : Method} {c : Code} (l : Launch) (D : va_G) (k : Nat → ClassId) (a : Nat → Nat) (A : Nat → Prop) (C0 : q_C p s m meth c args RX10 cX10_save 3 (some .int) wsX10_save D (tyL k) A) (R : Int32 × T2) : ∀ (σ : T2) (v1 : Int32), S_X10_save_b0 σ v1 → P_X10_save_b0 σ v1 = R → ∀ (H : Heap) (locs : List Loc) (ls : Array Slot), q_W D A s.heap (wX10 k a σ) H locs → lv_has ls 3 [(0, .ref (a 0)), (1, .int v1)] → W p l e { frames := 1, cells := 0, slots := 0, locals := 22 } s m args below meth c H locs 0 0 (MQ below (va_Qi (fun r u => (r, u) = R) (fun u => q_E D (tyL k) A (wX10 k a u)) A) args s 0 0 A) (F0 m 0 ls []) := by
  intro σ v1 hs hR H locs ls hW hl
  rw [P_X10_save_b0_e] at hR
  rw [S_X10_save_b0_e] at hs
  obtain ⟨hx, hb, hr, hml, hts, hown, hlocks, hK, hA⟩ := id C0
  refine lv_iload_n hx hb dX10_save_0 rfl (lv_at hl 1 rfl) ?_
  refine lv_iconst (v := (0 : Int32)) hx hb dX10_save_1 (by decide) ?_
  refine lv_iconst (v := (1 : Int32)) hx hb dX10_save_2 (by decide) ?_
  have hs1 := hs.1
  have hs := hs.2
  refine q_Si (As := [.int v1, .int (0 : Int32), .int (1 : Int32)]) (rest := []) (R := P_X10_in v1 (0 : Int32) (1 : Int32)) ⟨hx, hb, hml, hown, hts⟩ (m_X10_in l v1 (0 : Int32) (1 : Int32) hs1) (va_cwS 3 hts gX10_save_X10_in rfl rfl rfl hd_X10_in ⟨Nat.le_of_ble_eq_true rfl, Nat.le_of_ble_eq_true rfl⟩) hl rfl rfl (Nat.le_of_ble_eq_true rfl) dX10_save_3 ⟨Nat.le_refl 0, Nat.le_refl 0⟩ ?_
  refine lv_if_ne (tgt := 12) hx hb dX10_save_6 (by decide) (fun c_2 => ?_) (fun c_2 => ?_)
  · have hs := hs.2 c_2
    rw [if_neg c_2] at hR
    refine lv_iconst (v := (0 : Int32)) hx hb dX10_save_12 (by decide) ?_
    refine lv_istore_n (lv' := [(2, .int (0 : Int32)), (0, .ref (a 0)), (1, .int v1)]) hx hb dX10_save_13 rfl hl (by decide) rfl (fun ls hl => ?_)
    exact b_X10_save_b14 l D k a A C0 R FU σ v1 (0 : Int32) hs hR H locs ls hW (lv_sub hl [1, 2, 0] rfl)
  · have hs := hs.1 c_2
    rw [if_pos c_2] at hR
    refine lv_bipush (v := (-2 : Int32)) hx hb dX10_save_9 (by decide) ?_
    exact q_iret C0 hW hR dX10_save_11
set_option maxHeartbeats 400000 in
set_option maxRecDepth 100000 in
theorem m_X10_save (l : Launch) (D : va_G) (k : Nat → ClassId) (a : Nat → Nat) (sz : Nat) (σ : T2) (p0 : Int32) (hs : S_X10_save σ p0) : Met l yX10_save wsX10_save { frames := 1, cells := 0, slots := 0, locals := 22 } (va_Pc [.ref (a 0), .int p0] (q_B D (tyL k) (wX10 k a σ) sz)) (va_Qi (fun r u => (r, u) = P_X10_save σ p0) (fun u => q_E D (tyL k) (va_A (wX10 k a σ) sz) (wX10 k a u)) (va_A (wX10 k a σ) sz)) 0 0 (va_A (wX10 k a σ) sz) := by
  refine q_met [.ref (a 0), .int p0] (wX10 k a σ) sz (cc := cX10_save) (maxL := 3) (ret := (some .int)) (by decide) rfl (Nat.le_of_ble_eq_true rfl) ?_
  intro p e s m args below meth c ls hsz C0 hW hl hin
  subst hsz
  exact b_X10_save_b0 l D k a _ C0 _ σ p0 hs rfl s.heap [] ls hW (lv_sub hl [0, 1] rfl)
theorem hin_X10_restore_X10 : ∀ w ∈ u_ws RX10 TX10 18, w ∈ wsX10_restore := by decide +kernel
theorem hd_X10_restore : yX10_restore.cls = RX10 ∧ yX10_restore.cls ≠ "java/lang/invoke/MethodHandle" ∧ yX10_restore.cls ≠ "java/lang/invoke/VarHandle" ∧ (parseMethodDescriptor yX10_restore.desc).map (fun d => d.parameters.length) = some 1 := by decide +kernel
noncomputable def P_X10_restore_b30 (n : Nat) : T2 → Int32 → Int32 → Int32 × T2 := Nat.rec (motive := fun _ => T2 → Int32 → Int32 → Int32 × T2) (fun _ _ _ => (0, fun _ _ => 0)) (fun _ pk30 => fun σ v1 v2 => if (672 : Int32) ≤ v2 then ((σ 1 8, σ)) else (pk30 (u2 σ 1 (upd (σ 1) v2.toNatClampNeg (σ 3 ((((672 : Int32) * v1) + v2).toNatClampNeg)))) v1 (v2 + (1 : Int32)))) n
def S_X10_restore_b30 (n : Nat) : T2 → Int32 → Int32 → Prop := Nat.rec (motive := fun _ => T2 → Int32 → Int32 → Prop) (fun _ _ _ => False) (fun _ sk30 => fun σ v1 v2 => ((672 : Int32) ≤ v2 → (True)) ∧ (¬ ((672 : Int32) ≤ v2) → ((vp_in (((672 : Int32) * v1) + v2) 1344) ∧ ((vp_in v2 672) ∧ (sk30 (u2 σ 1 (upd (σ 1) v2.toNatClampNeg (σ 3 ((((672 : Int32) * v1) + v2).toNatClampNeg)))) v1 (v2 + (1 : Int32))))))) n
theorem P_X10_restore_b30_e (n : Nat) (σ : T2) (v1 : Int32) (v2 : Int32) : P_X10_restore_b30 (n + 1) σ v1 v2 = if (672 : Int32) ≤ v2 then ((σ 1 8, σ)) else ((P_X10_restore_b30 n) (u2 σ 1 (upd (σ 1) v2.toNatClampNeg (σ 3 ((((672 : Int32) * v1) + v2).toNatClampNeg)))) v1 (v2 + (1 : Int32))) := rfl
theorem S_X10_restore_b30_e (n : Nat) (σ : T2) (v1 : Int32) (v2 : Int32) : S_X10_restore_b30 (n + 1) σ v1 v2 = (((672 : Int32) ≤ v2 → (True)) ∧ (¬ ((672 : Int32) ≤ v2) → ((vp_in (((672 : Int32) * v1) + v2) 1344) ∧ ((vp_in v2 672) ∧ ((S_X10_restore_b30 n) (u2 σ 1 (upd (σ 1) v2.toNatClampNeg (σ 3 ((((672 : Int32) * v1) + v2).toNatClampNeg)))) v1 (v2 + (1 : Int32))))))) := rfl
noncomputable def P_X10_restore_b28c (σ : T2) (v1 : Int32) : Int32 × T2 := P_X10_restore_b30 FU σ v1 (0 : Int32)
def S_X10_restore_b28c (σ : T2) (v1 : Int32) : Prop := S_X10_restore_b30 FU σ v1 (0 : Int32)
theorem P_X10_restore_b28c_e (σ : T2) (v1 : Int32) : P_X10_restore_b28c σ v1 = P_X10_restore_b30 FU σ v1 (0 : Int32) := rfl
theorem S_X10_restore_b28c_e (σ : T2) (v1 : Int32) : S_X10_restore_b28c σ v1 = (S_X10_restore_b30 FU σ v1 (0 : Int32)) := rfl
noncomputable def P_X10_restore_b0 (σ : T2) (v1 : Int32) : Int32 × T2 := if (P_X10_in v1 (0 : Int32) (1 : Int32)) = 0 then (((-2 : Int32), σ)) else (if (σ 4 v1.toNatClampNeg) = 0 then (((-5 : Int32), σ)) else (P_X10_restore_b28c (P_X10_keep σ) v1))
def S_X10_restore_b0 (σ : T2) (v1 : Int32) : Prop := (S_X10_in v1 (0 : Int32) (1 : Int32)) ∧ (((P_X10_in v1 (0 : Int32) (1 : Int32)) = 0 → (True)) ∧ (¬ ((P_X10_in v1 (0 : Int32) (1 : Int32)) = 0) → ((vp_in v1 2) ∧ (((σ 4 v1.toNatClampNeg) = 0 → (True)) ∧ (¬ ((σ 4 v1.toNatClampNeg) = 0) → ((S_X10_keep σ ) ∧ (S_X10_restore_b28c (P_X10_keep σ) v1)))))))
theorem P_X10_restore_b0_e (σ : T2) (v1 : Int32) : P_X10_restore_b0 σ v1 = if (P_X10_in v1 (0 : Int32) (1 : Int32)) = 0 then (((-2 : Int32), σ)) else (if (σ 4 v1.toNatClampNeg) = 0 then (((-5 : Int32), σ)) else (P_X10_restore_b28c (P_X10_keep σ) v1)) := rfl
theorem S_X10_restore_b0_e (σ : T2) (v1 : Int32) : S_X10_restore_b0 σ v1 = ((S_X10_in v1 (0 : Int32) (1 : Int32)) ∧ (((P_X10_in v1 (0 : Int32) (1 : Int32)) = 0 → (True)) ∧ (¬ ((P_X10_in v1 (0 : Int32) (1 : Int32)) = 0) → ((vp_in v1 2) ∧ (((σ 4 v1.toNatClampNeg) = 0 → (True)) ∧ (¬ ((σ 4 v1.toNatClampNeg) = 0) → ((S_X10_keep σ ) ∧ (S_X10_restore_b28c (P_X10_keep σ) v1)))))))) := rfl
noncomputable def P_X10_restore (σ : T2) (p0 : Int32) : Int32 × T2 := P_X10_restore_b0 σ p0
def S_X10_restore (σ : T2) (p0 : Int32) : Prop := S_X10_restore_b0 σ p0
set_option maxHeartbeats 400000 in
set_option maxRecDepth 100000 in
theorem b_X10_restore_b30 {p : Program} {e : Env} {s : State} {m : MethodId} {args : Array Value} {below : List Frame} {meth : Method} {c : Code} (l : Launch) (D : va_G) (k : Nat → ClassId) (a : Nat → Nat) (A : Nat → Prop) (C0 : q_C p s m meth c args RX10 cX10_restore 3 (some .int) wsX10_restore D (tyL k) A) (R : Int32 × T2) : ∀ n : Nat, ∀ (σ : T2) (v1 : Int32) (v2 : Int32), S_X10_restore_b30 n σ v1 v2 → P_X10_restore_b30 n σ v1 v2 = R → ∀ (H : Heap) (locs : List Loc) (ls : Array Slot), q_W D A s.heap (wX10 k a σ) H locs → lv_has ls 3 [(0, .ref (a 0)), (1, .int v1), (2, .int v2)] → W p l e { frames := 1, cells := 0, slots := 0, locals := 22 } s m args below meth c H locs 0 0 (MQ below (va_Qi (fun r u => (r, u) = R) (fun u => q_E D (tyL k) A (wX10 k a u)) A) args s 0 0 A) (F0 m 30 ls []) := by
  intro n
  induction n with
  | zero => intro σ v1 v2 hs; exact False.elim hs
  | succ n ih =>
    intro σ v1 v2 hs hR H locs ls hW hl
    rw [P_X10_restore_b30_e] at hR
    rw [S_X10_restore_b30_e] at hs
    obtain ⟨hx, hb, hr, hml, hts, hown, hlocks, hK, hA⟩ := id C0
    have hf7 := hts (.fieldLink RX10 7 "BeatFollowerModel" "at" "[I") (by decide +kernel)
    have hf16 := hts (.fieldLink RX10 16 "BeatFollowerModel" "slots" "[I") (by decide +kernel)
    have hinX10 : ∀ w ∈ u_ws RX10 TX10 18, w ∈ wsX10_restore := hin_X10_restore_X10
    refine lv_iload_n hx hb dX10_restore_30 rfl (lv_at hl 2 rfl) ?_
    refine lv_sipush (v := (672 : Int32)) hx hb dX10_restore_31 (by decide) ?_
    refine lv_icmp_ge (tgt := 61) hx hb dX10_restore_34 (by decide) (fun c_6 => ?_) (fun c_6 => ?_)
    · have hs := hs.1 c_6
      rw [if_pos c_6] at hR
      refine lv_aload_n hx hb dX10_restore_61 rfl (lv_at hl 0 rfl) ?_
      refine va_get (v := .ref (a 1)) (C := RX10) (T := TX10) (N := 18) hx hb hts hinX10 hown hK hW.1 0 rfl rfl 0 (by decide) hf7 (fun _ h9 => h9) rfl dX10_restore_62 ?_
      refine lv_bipush (v := (8 : Int32)) hx hb dX10_restore_65 (by decide) ?_
      refine q_iald (v := σ 1 8) C0 hW 1 rfl rfl vi_8_672 cl_8 rfl dX10_restore_67 ?_
      exact q_iret C0 hW hR dX10_restore_68
    · have hs := hs.2 c_6
      rw [if_neg c_6] at hR
      refine lv_aload_n hx hb dX10_restore_37 rfl (lv_at hl 0 rfl) ?_
      refine va_get (v := .ref (a 1)) (C := RX10) (T := TX10) (N := 18) hx hb hts hinX10 hown hK hW.1 0 rfl rfl 0 (by decide) hf7 (fun _ h9 => h9) rfl dX10_restore_38 ?_
      refine lv_iload_n hx hb dX10_restore_41 rfl (lv_at hl 2 rfl) ?_
      refine lv_aload_n hx hb dX10_restore_42 rfl (lv_at hl 0 rfl) ?_
      refine va_get (v := .ref (a 3)) (C := RX10) (T := TX10) (N := 18) hx hb hts hinX10 hown hK hW.1 0 rfl rfl 4 (by decide) hf16 (fun _ h9 => h9) rfl dX10_restore_43 ?_
      refine lv_sipush (v := (672 : Int32)) hx hb dX10_restore_46 (by decide) ?_
      refine lv_iload_n hx hb dX10_restore_49 rfl (lv_at hl 1 rfl) ?_
      refine lv_imul hx hb dX10_restore_50 ?_
      refine lv_iload_n hx hb dX10_restore_51 rfl (lv_at hl 2 rfl) ?_
      refine lv_iadd hx hb dX10_restore_52 ?_
      have hi7 := hs.1
      have hs := hs.2
      refine q_iald (v := σ 3 ((((672 : Int32) * v1) + v2).toNatClampNeg)) C0 hW 3 rfl rfl hi7 rfl rfl dX10_restore_53 ?_
      have hi8 := hs.1
      have hs := hs.2
      refine q_iast (f := σ 1) (wd' := wX10 k a (u2 σ 1 (upd (σ 1) v2.toNatClampNeg (σ 3 ((((672 : Int32) * v1) + v2).toNatClampNeg))))) C0 hW 1 rfl rfl hi8 rfl dX10_restore_54 (wX10_s1 k a _ _) (fun H locs hW => ?_)
      refine lv_iinc (v := v2 + (1 : Int32)) (lv' := [(2, .int (v2 + (1 : Int32))), (0, .ref (a 0)), (1, .int v1)]) hx hb dX10_restore_55 hl (k := 2) rfl rfl (by decide) rfl (fun ls hl => ?_)
      refine lv_goto (tgt := 30) hx hb dX10_restore_58 (by decide) ?_
      exact ih (u2 σ 1 (upd (σ 1) v2.toNatClampNeg (σ 3 ((((672 : Int32) * v1) + v2).toNatClampNeg)))) v1 (v2 + (1 : Int32)) hs hR H locs ls hW (lv_sub hl [1, 2, 0] rfl)
set_option maxHeartbeats 400000 in
set_option maxRecDepth 100000 in
theorem b_X10_restore_b28c {p : Program} {e : Env} {s : State} {m : MethodId} {args : Array Value} {below : List Frame} {meth : Method} {c : Code} (l : Launch) (D : va_G) (k : Nat → ClassId) (a : Nat → Nat) (A : Nat → Prop) (C0 : q_C p s m meth c args RX10 cX10_restore 3 (some .int) wsX10_restore D (tyL k) A) (R : Int32 × T2) : ∀ (σ : T2) (v1 : Int32), S_X10_restore_b28c σ v1 → P_X10_restore_b28c σ v1 = R → ∀ (H : Heap) (locs : List Loc) (ls : Array Slot), q_W D A s.heap (wX10 k a σ) H locs → lv_has ls 3 [(0, .ref (a 0)), (1, .int v1)] → W p l e { frames := 1, cells := 0, slots := 0, locals := 22 } s m args below meth c H locs 0 0 (MQ below (va_Qi (fun r u => (r, u) = R) (fun u => q_E D (tyL k) A (wX10 k a u)) A) args s 0 0 A) (F0 m 28 ls []) := by
  intro σ v1 hs hR H locs ls hW hl
  rw [P_X10_restore_b28c_e] at hR
  rw [S_X10_restore_b28c_e] at hs
  obtain ⟨hx, hb, hr, hml, hts, hown, hlocks, hK, hA⟩ := id C0
  refine lv_iconst (v := (0 : Int32)) hx hb dX10_restore_28 (by decide) ?_
  refine lv_istore_n (lv' := [(2, .int (0 : Int32)), (0, .ref (a 0)), (1, .int v1)]) hx hb dX10_restore_29 rfl hl (by decide) rfl (fun ls hl => ?_)
  exact b_X10_restore_b30 l D k a A C0 R FU σ v1 (0 : Int32) hs hR H locs ls hW (lv_sub hl [1, 2, 0] rfl)
set_option maxHeartbeats 400000 in
set_option maxRecDepth 100000 in
theorem b_X10_restore_b0 {p : Program} {e : Env} {s : State} {m : MethodId} {args : Array Value} {below : List Frame} {meth : Method} {c : Code} (l : Launch) (D : va_G) (k : Nat → ClassId) (a : Nat → Nat) (A : Nat → Prop) (C0 : q_C p s m meth c args RX10 cX10_restore 3 (some .int) wsX10_restore D (tyL k) A) (R : Int32 × T2) : ∀ (σ : T2) (v1 : Int32), S_X10_restore_b0 σ v1 → P_X10_restore_b0 σ v1 = R → ∀ (H : Heap) (locs : List Loc) (ls : Array Slot), q_W D A s.heap (wX10 k a σ) H locs → lv_has ls 3 [(0, .ref (a 0)), (1, .int v1)] → W p l e { frames := 1, cells := 0, slots := 0, locals := 22 } s m args below meth c H locs 0 0 (MQ below (va_Qi (fun r u => (r, u) = R) (fun u => q_E D (tyL k) A (wX10 k a u)) A) args s 0 0 A) (F0 m 0 ls []) := by
  intro σ v1 hs hR H locs ls hW hl
  rw [P_X10_restore_b0_e] at hR
  rw [S_X10_restore_b0_e] at hs
  obtain ⟨hx, hb, hr, hml, hts, hown, hlocks, hK, hA⟩ := id C0
  have hf19 := hts (.fieldLink RX10 19 "BeatFollowerModel" "isSaved" "[Z") (by decide +kernel)
  have hinX10 : ∀ w ∈ u_ws RX10 TX10 18, w ∈ wsX10_restore := hin_X10_restore_X10
  refine lv_iload_n hx hb dX10_restore_0 rfl (lv_at hl 1 rfl) ?_
  refine lv_iconst (v := (0 : Int32)) hx hb dX10_restore_1 (by decide) ?_
  refine lv_iconst (v := (1 : Int32)) hx hb dX10_restore_2 (by decide) ?_
  have hs1 := hs.1
  have hs := hs.2
  refine q_Si (As := [.int v1, .int (0 : Int32), .int (1 : Int32)]) (rest := []) (R := P_X10_in v1 (0 : Int32) (1 : Int32)) ⟨hx, hb, hml, hown, hts⟩ (m_X10_in l v1 (0 : Int32) (1 : Int32) hs1) (va_cwS 3 hts gX10_restore_X10_in rfl rfl rfl hd_X10_in ⟨Nat.le_of_ble_eq_true rfl, Nat.le_of_ble_eq_true rfl⟩) hl rfl rfl (Nat.le_of_ble_eq_true rfl) dX10_restore_3 ⟨Nat.le_refl 0, Nat.le_refl 0⟩ ?_
  refine lv_if_ne (tgt := 12) hx hb dX10_restore_6 (by decide) (fun c_2 => ?_) (fun c_2 => ?_)
  · have hs := hs.2 c_2
    rw [if_neg c_2] at hR
    refine lv_aload_n hx hb dX10_restore_12 rfl (lv_at hl 0 rfl) ?_
    refine va_get (v := .ref (a 4)) (C := RX10) (T := TX10) (N := 18) hx hb hts hinX10 hown hK hW.1 0 rfl rfl 5 (by decide) hf19 (fun _ h9 => h9) rfl dX10_restore_13 ?_
    refine lv_iload_n hx hb dX10_restore_16 rfl (lv_at hl 1 rfl) ?_
    have hi3 := hs.1
    have hs := hs.2
    refine q_zald (v := σ 4 v1.toNatClampNeg) C0 hW 4 rfl rfl hi3 rfl rfl dX10_restore_17 ?_
    refine lv_if_ne (tgt := 24) hx hb dX10_restore_18 (by decide) (fun c_4 => ?_) (fun c_4 => ?_)
    · have hs := hs.2 c_4
      rw [if_neg c_4] at hR
      refine lv_aload_n hx hb dX10_restore_24 rfl (lv_at hl 0 rfl) ?_
      have hs5 := hs.1
      have hs := hs.2
      refine q_Vv (As := []) (rest := []) (wf := wX10 k a) (R := P_X10_keep σ) (wd' := wX10 k a (P_X10_keep σ)) [0, 1, 2, 3, 4, 5, 6, 7, 8] [0, 1, 2, 3] 0 10 C0 hW (m_X10_keep l D k a H.size σ  hs5) (cwV 0 hts gX10_restore_X10_keep rfl rfl rfl hd_X10_keep ⟨Nat.le_of_ble_eq_true rfl, Nat.le_of_ble_eq_true rfl⟩) (by decide) (wX10_pl k a _) rfl (wX10_rec k a _) rfl (wX10_fst k a _ _) (wX10_put k a _ _) hl rfl rfl (Nat.le_of_ble_eq_true rfl) dX10_restore_25 ⟨Nat.le_refl 0, Nat.le_refl 0⟩ (fun H locs hW => ?_)
      exact b_X10_restore_b28c l D k a A C0 R (P_X10_keep σ) v1 hs hR H locs ls hW (lv_sub hl [0, 1] rfl)
    · have hs := hs.1 c_4
      rw [if_pos c_4] at hR
      refine lv_bipush (v := (-5 : Int32)) hx hb dX10_restore_21 (by decide) ?_
      exact q_iret C0 hW hR dX10_restore_23
  · have hs := hs.1 c_2
    rw [if_pos c_2] at hR
    refine lv_bipush (v := (-2 : Int32)) hx hb dX10_restore_9 (by decide) ?_
    exact q_iret C0 hW hR dX10_restore_11
set_option maxHeartbeats 400000 in
set_option maxRecDepth 100000 in
theorem m_X10_restore (l : Launch) (D : va_G) (k : Nat → ClassId) (a : Nat → Nat) (sz : Nat) (σ : T2) (p0 : Int32) (hs : S_X10_restore σ p0) : Met l yX10_restore wsX10_restore { frames := 1, cells := 0, slots := 0, locals := 22 } (va_Pc [.ref (a 0), .int p0] (q_B D (tyL k) (wX10 k a σ) sz)) (va_Qi (fun r u => (r, u) = P_X10_restore σ p0) (fun u => q_E D (tyL k) (va_A (wX10 k a σ) sz) (wX10 k a u)) (va_A (wX10 k a σ) sz)) 0 0 (va_A (wX10 k a σ) sz) := by
  refine q_met [.ref (a 0), .int p0] (wX10 k a σ) sz (cc := cX10_restore) (maxL := 3) (ret := (some .int)) (by decide) rfl (Nat.le_of_ble_eq_true rfl) ?_
  intro p e s m args below meth c ls hsz C0 hW hl hin
  subst hsz
  exact b_X10_restore_b0 l D k a _ C0 _ σ p0 hs rfl s.heap [] ls hW (lv_sub hl [0, 1] rfl)
