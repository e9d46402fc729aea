theorem hin_X10_put_X10 : ∀ w ∈ u_ws RX10 TX10 18, w ∈ wsX10_put := by decide +kernel
theorem hd_X10_put : yX10_put.cls = RX10 ∧ yX10_put.cls ≠ "java/lang/invoke/MethodHandle" ∧ yX10_put.cls ≠ "java/lang/invoke/VarHandle" ∧ (parseMethodDescriptor yX10_put.desc).map (fun d => d.parameters.length) = some 1 := by decide +kernel
noncomputable def P_X10_put_b86 (n : Nat) : T2 → Int64 → Int32 → Int32 → Int32 × T2 := Nat.rec (motive := fun _ => T2 → Int64 → Int32 → Int32 → Int32 × T2) (fun _ _ _ _ => (0, fun _ _ => 0)) (fun _ pk86 => fun σ v1 v3 v6 => if v3 ≤ v6 then (((σ 0 9) + v3, u2 σ 0 (upd (σ 0) 9 ((σ 0 9) + v3)))) else (pk86 (u2 σ 6 (upd (σ 6) (((σ 0 9) + v6).toNatClampNeg) (((v1 >>> (((8 : Int32) * ((v3 - (1 : Int32)) - v6)).toInt64 &&& 63)) &&& (255 : Int64)).toInt32))) v1 v3 (v6 + (1 : Int32)))) n
def S_X10_put_b86 (n : Nat) : T2 → Int64 → Int32 → Int32 → Prop := Nat.rec (motive := fun _ => T2 → Int64 → Int32 → Int32 → Prop) (fun _ _ _ _ => False) (fun _ sk86 => fun σ v1 v3 v6 => (v3 ≤ v6 → (True)) ∧ (¬ (v3 ≤ v6) → ((vp_in ((σ 0 9) + v6) 80) ∧ (sk86 (u2 σ 6 (upd (σ 6) (((σ 0 9) + v6).toNatClampNeg) (((v1 >>> (((8 : Int32) * ((v3 - (1 : Int32)) - v6)).toInt64 &&& 63)) &&& (255 : Int64)).toInt32))) v1 v3 (v6 + (1 : Int32)))))) n
theorem P_X10_put_b86_e (n : Nat) (σ : T2) (v1 : Int64) (v3 : Int32) (v6 : Int32) : P_X10_put_b86 (n + 1) σ v1 v3 v6 = if v3 ≤ v6 then (((σ 0 9) + v3, u2 σ 0 (upd (σ 0) 9 ((σ 0 9) + v3)))) else ((P_X10_put_b86 n) (u2 σ 6 (upd (σ 6) (((σ 0 9) + v6).toNatClampNeg) (((v1 >>> (((8 : Int32) * ((v3 - (1 : Int32)) - v6)).toInt64 &&& 63)) &&& (255 : Int64)).toInt32))) v1 v3 (v6 + (1 : Int32))) := rfl
theorem S_X10_put_b86_e (n : Nat) (σ : T2) (v1 : Int64) (v3 : Int32) (v6 : Int32) : S_X10_put_b86 (n + 1) σ v1 v3 v6 = ((v3 ≤ v6 → (True)) ∧ (¬ (v3 ≤ v6) → ((vp_in ((σ 0 9) + v6) 80) ∧ ((S_X10_put_b86 n) (u2 σ 6 (upd (σ 6) (((σ 0 9) + v6).toNatClampNeg) (((v1 >>> (((8 : Int32) * ((v3 - (1 : Int32)) - v6)).toInt64 &&& 63)) &&& (255 : Int64)).toInt32))) v1 v3 (v6 + (1 : Int32)))))) := rfl
noncomputable def P_X10_put_b55 (σ : T2) (v1 : Int64) (v3 : Int32) (v4 : Int64) : Int32 × T2 := if v3 = 0 then (((-2 : Int32), σ)) else (if (lg_cmp v4 (0 : Int64)) = 0 then (if ((σ 0 9) + v3) ≤ (80 : Int32) then (P_X10_put_b86 FU σ v1 v3 (0 : Int32)) else (((-4 : Int32), σ))) else (((-2 : Int32), σ)))
def S_X10_put_b55 (σ : T2) (v1 : Int64) (v3 : Int32) (v4 : Int64) : Prop := (v3 = 0 → (True)) ∧ (¬ (v3 = 0) → (((lg_cmp v4 (0 : Int64)) = 0 → ((((σ 0 9) + v3) ≤ (80 : Int32) → (S_X10_put_b86 FU σ v1 v3 (0 : Int32))) ∧ (¬ (((σ 0 9) + v3) ≤ (80 : Int32)) → (True)))) ∧ (¬ ((lg_cmp v4 (0 : Int64)) = 0) → (True))))
theorem P_X10_put_b55_e (σ : T2) (v1 : Int64) (v3 : Int32) (v4 : Int64) : P_X10_put_b55 σ v1 v3 v4 = if v3 = 0 then (((-2 : Int32), σ)) else (if (lg_cmp v4 (0 : Int64)) = 0 then (if ((σ 0 9) + v3) ≤ (80 : Int32) then (P_X10_put_b86 FU σ v1 v3 (0 : Int32)) else (((-4 : Int32), σ))) else (((-2 : Int32), σ))) := rfl
theorem S_X10_put_b55_e (σ : T2) (v1 : Int64) (v3 : Int32) (v4 : Int64) : S_X10_put_b55 σ v1 v3 v4 = ((v3 = 0 → (True)) ∧ (¬ (v3 = 0) → (((lg_cmp v4 (0 : Int64)) = 0 → ((((σ 0 9) + v3) ≤ (80 : Int32) → (S_X10_put_b86 FU σ v1 v3 (0 : Int32))) ∧ (¬ (((σ 0 9) + v3) ≤ (80 : Int32)) → (True)))) ∧ (¬ ((lg_cmp v4 (0 : Int64)) = 0) → (True))))) := rfl
noncomputable def P_X10_put_b52n (pk5 : T2 → Int64 → Int32 → Int64 → Int32 × T2) (σ : T2) (v1 : Int64) (v3 : Int32) (v4 : Int64) : Int32 × T2 := pk5 σ v1 v3 v4
def S_X10_put_b52n (sk5 : T2 → Int64 → Int32 → Int64 → Prop) (σ : T2) (v1 : Int64) (v3 : Int32) (v4 : Int64) : Prop := sk5 σ v1 v3 v4
theorem P_X10_put_b52n_e (pk5 : T2 → Int64 → Int32 → Int64 → Int32 × T2) (σ : T2) (v1 : Int64) (v3 : Int32) (v4 : Int64) : P_X10_put_b52n pk5 σ v1 v3 v4 = pk5 σ v1 v3 v4 := rfl
theorem S_X10_put_b52n_e (sk5 : T2 → Int64 → Int32 → Int64 → Prop) (σ : T2) (v1 : Int64) (v3 : Int32) (v4 : Int64) : S_X10_put_b52n sk5 σ v1 v3 v4 = (sk5 σ v1 v3 v4) := rfl
noncomputable def P_X10_put_b5 (n : Nat) : T2 → Int64 → Int32 → Int64 → Int32 × T2 := Nat.rec (motive := fun _ => T2 → Int64 → Int32 → Int64 → Int32 × T2) (fun _ _ _ _ => (0, fun _ _ => 0)) (fun _ pk5 => fun σ v1 v3 v4 => if (8 : Int32) ≤ v3 then (P_X10_put_b55 σ v1 v3 v4) else (if (lg_cmp (v4 &&& (255 : Int64)) (0 : Int64)) = 0 then (P_X10_put_b55 σ v1 v3 v4) else (if (P_X10_in ((v4 &&& (255 : Int64)).toInt32) (33 : Int32) (126 : Int32)) = 0 then (((-2 : Int32), σ)) else (P_X10_put_b52n pk5 σ v1 (v3 + (1 : Int32)) ((v4.toUInt64 >>> ((8 : Int32).toInt64.toUInt64 &&& Int64.toUInt64 63)).toInt64))))) n
def S_X10_put_b5 (n : Nat) : T2 → Int64 → Int32 → Int64 → Prop := Nat.rec (motive := fun _ => T2 → Int64 → Int32 → Int64 → Prop) (fun _ _ _ _ => False) (fun _ sk5 => fun σ v1 v3 v4 => ((8 : Int32) ≤ v3 → (S_X10_put_b55 σ v1 v3 v4)) ∧ (¬ ((8 : Int32) ≤ v3) → (((lg_cmp (v4 &&& (255 : Int64)) (0 : Int64)) = 0 → (S_X10_put_b55 σ v1 v3 v4)) ∧ (¬ ((lg_cmp (v4 &&& (255 : Int64)) (0 : Int64)) = 0) → ((S_X10_in ((v4 &&& (255 : Int64)).toInt32) (33 : Int32) (126 : Int32)) ∧ (((P_X10_in ((v4 &&& (255 : Int64)).toInt32) (33 : Int32) (126 : Int32)) = 0 → (True)) ∧ (¬ ((P_X10_in ((v4 &&& (255 : Int64)).toInt32) (33 : Int32) (126 : Int32)) = 0) → (S_X10_put_b52n sk5 σ v1 (v3 + (1 : Int32)) ((v4.toUInt64 >>> ((8 : Int32).toInt64.toUInt64 &&& Int64.toUInt64 63)).toInt64))))))))) n
theorem P_X10_put_b5_e (n : Nat) (σ : T2) (v1 : Int64) (v3 : Int32) (v4 : Int64) : P_X10_put_b5 (n + 1) σ v1 v3 v4 = if (8 : Int32) ≤ v3 then (P_X10_put_b55 σ v1 v3 v4) else (if (lg_cmp (v4 &&& (255 : Int64)) (0 : Int64)) = 0 then (P_X10_put_b55 σ v1 v3 v4) else (if (P_X10_in ((v4 &&& (255 : Int64)).toInt32) (33 : Int32) (126 : Int32)) = 0 then (((-2 : Int32), σ)) else (P_X10_put_b52n (P_X10_put_b5 n) σ v1 (v3 + (1 : Int32)) ((v4.toUInt64 >>> ((8 : Int32).toInt64.toUInt64 &&& Int64.toUInt64 63)).toInt64)))) := rfl
theorem S_X10_put_b5_e (n : Nat) (σ : T2) (v1 : Int64) (v3 : Int32) (v4 : Int64) : S_X10_put_b5 (n + 1) σ v1 v3 v4 = (((8 : Int32) ≤ v3 → (S_X10_put_b55 σ v1 v3 v4)) ∧ (¬ ((8 : Int32) ≤ v3) → (((lg_cmp (v4 &&& (255 : Int64)) (0 : Int64)) = 0 → (S_X10_put_b55 σ v1 v3 v4)) ∧ (¬ ((lg_cmp (v4 &&& (255 : Int64)) (0 : Int64)) = 0) → ((S_X10_in ((v4 &&& (255 : Int64)).toInt32) (33 : Int32) (126 : Int32)) ∧ (((P_X10_in ((v4 &&& (255 : Int64)).toInt32) (33 : Int32) (126 : Int32)) = 0 → (True)) ∧ (¬ ((P_X10_in ((v4 &&& (255 : Int64)).toInt32) (33 : Int32) (126 : Int32)) = 0) → (S_X10_put_b52n (S_X10_put_b5 n) σ v1 (v3 + (1 : Int32)) ((v4.toUInt64 >>> ((8 : Int32).toInt64.toUInt64 &&& Int64.toUInt64 63)).toInt64))))))))) := rfl
noncomputable def P_X10_put_b0 (σ : T2) (v1 : Int64) : Int32 × T2 := P_X10_put_b5 FU σ v1 (0 : Int32) v1
def S_X10_put_b0 (σ : T2) (v1 : Int64) : Prop := S_X10_put_b5 FU σ v1 (0 : Int32) v1
theorem P_X10_put_b0_e (σ : T2) (v1 : Int64) : P_X10_put_b0 σ v1 = P_X10_put_b5 FU σ v1 (0 : Int32) v1 := rfl
theorem S_X10_put_b0_e (σ : T2) (v1 : Int64) : S_X10_put_b0 σ v1 = (S_X10_put_b5 FU σ v1 (0 : Int32) v1) := rfl
noncomputable def P_X10_put (σ : T2) (p0 : Int64) : Int32 × T2 := P_X10_put_b0 σ p0
def S_X10_put (σ : T2) (p0 : Int64) : Prop := S_X10_put_b0 σ p0
set_option maxHeartbeats 400000 in
set_option maxRecDepth 100000 in
theorem b_X10_put_b86 {p : Program} {e : Env} {s : State} {m : MethodId} {args : Array Value} {below : List Frame} {meth : Method} {c : Code} (l : Launch) (D : va_G) (k : Nat → ClassId) (a : Nat → Nat) (A : Nat → Prop) (C0 : q_C p s m meth c args RX10 cX10_put 7 (some .int) wsX10_put D (tyL k) A) (R : Int32 × T2) : ∀ n : Nat, ∀ (σ : T2) (v1 : Int64) (v3 : Int32) (v6 : Int32), S_X10_put_b86 n σ v1 v3 v6 → P_X10_put_b86 n σ v1 v3 v6 = R → ∀ (H : Heap) (locs : List Loc) (ls : Array Slot), q_W D A s.heap (wX10 k a σ) H locs → lv_has ls 7 [(0, .ref (a 0)), (1, .long v1), (3, .int v3), (6, .int v6)] → W p l e { frames := 1, cells := 0, slots := 0, locals := 22 } s m args below meth c H locs 0 0 (MQ below (va_Qi (fun r u => (r, u) = R) (fun u => q_E D (tyL k) A (wX10 k a u)) A) args s 0 0 A) (F0 m 86 ls []) := by
  intro n
  induction n with
  | zero => intro σ v1 v3 v6 hs; exact False.elim hs
  | succ n ih =>
    intro σ v1 v3 v6 hs hR H locs ls hW hl
    rw [P_X10_put_b86_e] at hR
    rw [S_X10_put_b86_e] at hs
    obtain ⟨hx, hb, hr, hml, hts, hown, hlocks, hK, hA⟩ := id C0
    have hf30 := hts (.fieldLink RX10 30 "BeatFollowerModel" "pad" "[I") (by decide +kernel)
    have hf128 := hts (.fieldLink RX10 128 "BeatFollowerModel" "padMany" "I") (by decide +kernel)
    have hinX10 : ∀ w ∈ u_ws RX10 TX10 18, w ∈ wsX10_put := hin_X10_put_X10
    refine lv_iload hx hb dX10_put_86 (lv_at hl 3 rfl) ?_
    refine lv_iload_n hx hb dX10_put_88 rfl (lv_at hl 2 rfl) ?_
    refine lv_icmp_ge (tgt := 126) hx hb dX10_put_89 (by decide) (fun c_5 => ?_) (fun c_5 => ?_)
    · have hs := hs.1 c_5
      rw [if_pos c_5] at hR
      refine lv_aload_n hx hb dX10_put_126 rfl (lv_at hl 0 rfl) ?_
      refine lv_dup hx hb dX10_put_127 rfl ?_
      refine va_get (v := .int (σ 0 9)) (C := RX10) (T := TX10) (N := 18) hx hb hts hinX10 hown hK hW.1 0 rfl rfl 9 (by decide) hf128 (fun _ h9 => h9) rfl dX10_put_128 ?_
      refine lv_iload_n hx hb dX10_put_131 rfl (lv_at hl 2 rfl) ?_
      refine lv_iadd hx hb dX10_put_132 ?_
      refine q_putf (ty := .int) (wd' := wX10 k a (u2 σ 0 (upd (σ 0) 9 ((σ 0 9) + v3)))) C0 hW hinX10 tyX10 tyX10_ok nmX10 0 rfl rfl 9 (by decide) hf128 rfl (by decide +kernel) rfl rfl (Nat.le_of_ble_eq_true rfl) dX10_put_133 (fX10_s9 _ _ _) (wX10_s0 k a _ _) (fun H locs hW => ?_)
      refine lv_aload_n hx hb dX10_put_136 rfl (lv_at hl 0 rfl) ?_
      refine va_get (v := .int ((σ 0 9) + v3)) (C := RX10) (T := TX10) (N := 18) hx hb hts hinX10 hown hK hW.1 0 rfl rfl 9 (by decide) hf128 (fun _ h9 => h9) rfl dX10_put_137 ?_
      exact q_iret C0 hW hR dX10_put_140
    · have hs := hs.2 c_5
      rw [if_neg c_5] at hR
      refine lv_aload_n hx hb dX10_put_92 rfl (lv_at hl 0 rfl) ?_
      refine va_get (v := .ref (a 6)) (C := RX10) (T := TX10) (N := 18) hx hb hts hinX10 hown hK hW.1 0 rfl rfl 8 (by decide) hf30 (fun _ h9 => h9) rfl dX10_put_93 ?_
      refine lv_aload_n hx hb dX10_put_96 rfl (lv_at hl 0 rfl) ?_
      refine va_get (v := .int (σ 0 9)) (C := RX10) (T := TX10) (N := 18) hx hb hts hinX10 hown hK hW.1 0 rfl rfl 9 (by decide) hf128 (fun _ h9 => h9) rfl dX10_put_97 ?_
      refine lv_iload hx hb dX10_put_100 (lv_at hl 3 rfl) ?_
      refine lv_iadd hx hb dX10_put_102 ?_
      refine lv_lload_n hx hb dX10_put_103 rfl (lv_at hl 1 rfl) ?_
      refine lv_bipush (v := (8 : Int32)) hx hb dX10_put_104 (by decide) ?_
      refine lv_iload_n hx hb dX10_put_106 rfl (lv_at hl 2 rfl) ?_
      refine lv_iconst (v := (1 : Int32)) hx hb dX10_put_107 (by decide) ?_
      refine lv_isub hx hb dX10_put_108 ?_
      refine lv_iload hx hb dX10_put_109 (lv_at hl 3 rfl) ?_
      refine lv_isub hx hb dX10_put_111 ?_
      refine lv_imul hx hb dX10_put_112 ?_
      refine lv_lshr (v := v1 >>> (((8 : Int32) * ((v3 - (1 : Int32)) - v6)).toInt64 &&& 63)) hx hb dX10_put_113 rfl ?_
      refine lv_ldc2 (v := (255 : Int64)) hx hb hown (hts (.constantLong RX10 143 (255)) (by decide +kernel)) dX10_put_114 ?_
      refine lv_land hx hb dX10_put_117 ?_
      refine lv_l2i (v := ((v1 >>> (((8 : Int32) * ((v3 - (1 : Int32)) - v6)).toInt64 &&& 63)) &&& (255 : Int64)).toInt32) hx hb dX10_put_118 rfl ?_
      have hi6 := hs.1
      have hs := hs.2
      refine q_iast (f := σ 6) (wd' := wX10 k a (u2 σ 6 (upd (σ 6) (((σ 0 9) + v6).toNatClampNeg) (((v1 >>> (((8 : Int32) * ((v3 - (1 : Int32)) - v6)).toInt64 &&& 63)) &&& (255 : Int64)).toInt32)))) C0 hW 6 rfl rfl hi6 rfl dX10_put_119 (wX10_s6 k a _ _) (fun H locs hW => ?_)
      refine lv_iinc (v := v6 + (1 : Int32)) (lv' := [(6, .int (v6 + (1 : Int32))), (0, .ref (a 0)), (1, .long v1), (3, .int v3)]) hx hb dX10_put_120 hl (k := 3) rfl rfl (by decide) rfl (fun ls hl => ?_)
      refine lv_goto (tgt := 86) hx hb dX10_put_123 (by decide) ?_
      exact ih (u2 σ 6 (upd (σ 6) (((σ 0 9) + v6).toNatClampNeg) (((v1 >>> (((8 : Int32) * ((v3 - (1 : Int32)) - v6)).toInt64 &&& 63)) &&& (255 : Int64)).toInt32))) v1 v3 (v6 + (1 : Int32)) hs hR H locs ls hW (lv_sub hl [1, 2, 3, 0] rfl)
set_option maxHeartbeats 400000 in
set_option maxRecDepth 100000 in
theorem b_X10_put_b55 {p : Program} {e : Env} {s : State} {m : MethodId} {args : Array Value} {below : List Frame} {meth : Method} {c : Code} (l : Launch) (D : va_G) (k : Nat → ClassId) (a : Nat → Nat) (A : Nat → Prop) (C0 : q_C p s m meth c args RX10 cX10_put 7 (some .int) wsX10_put D (tyL k) A) (R : Int32 × T2) : ∀ (σ : T2) (v1 : Int64) (v3 : Int32) (v4 : Int64), S_X10_put_b55 σ v1 v3 v4 → P_X10_put_b55 σ v1 v3 v4 = R → ∀ (H : Heap) (locs : List Loc) (ls : Array Slot), q_W D A s.heap (wX10 k a σ) H locs → lv_has ls 7 [(0, .ref (a 0)), (1, .long v1), (3, .int v3), (4, .long v4)] → W p l e { frames := 1, cells := 0, slots := 0, locals := 22 } s m args below meth c H locs 0 0 (MQ below (va_Qi (fun r u => (r, u) = R) (fun u => q_E D (tyL k) A (wX10 k a u)) A) args s 0 0 A) (F0 m 55 ls []) := by
  intro σ v1 v3 v4 hs hR H locs ls hW hl
  rw [P_X10_put_b55_e] at hR
  rw [S_X10_put_b55_e] at hs
  obtain ⟨hx, hb, hr, hml, hts, hown, hlocks, hK, hA⟩ := id C0
  have hf128 := hts (.fieldLink RX10 128 "BeatFollowerModel" "padMany" "I") (by decide +kernel)
  have hinX10 : ∀ w ∈ u_ws RX10 TX10 18, w ∈ wsX10_put := hin_X10_put_X10
  refine lv_iload_n hx hb dX10_put_55 rfl (lv_at hl 2 rfl) ?_
  refine lv_if_eq (tgt := 66) hx hb dX10_put_56 (by decide) (fun c_2 => ?_) (fun c_2 => ?_)
  · have hs := hs.1 c_2
    rw [if_pos c_2] at hR
    refine lv_bipush (v := (-2 : Int32)) hx hb dX10_put_66 (by decide) ?_
    exact q_iret C0 hW hR dX10_put_68
  · have hs := hs.2 c_2
    rw [if_neg c_2] at hR
    refine lv_lload hx hb dX10_put_59 (lv_at hl 3 rfl) ?_
    refine lv_lconst (v := (0 : Int64)) hx hb dX10_put_61 (by decide) ?_
    refine W.lcmp hx hb dX10_put_62 ?_
    refine lv_if_eq (tgt := 69) hx hb dX10_put_63 (by decide) (fun c_3 => ?_) (fun c_3 => ?_)
    · have hs := hs.1 c_3
      rw [if_pos c_3] at hR
      refine lv_aload_n hx hb dX10_put_69 rfl (lv_at hl 0 rfl) ?_
      refine va_get (v := .int (σ 0 9)) (C := RX10) (T := TX10) (N := 18) hx hb hts hinX10 hown hK hW.1 0 rfl rfl 9 (by decide) hf128 (fun _ h9 => h9) rfl dX10_put_70 ?_
      refine lv_iload_n hx hb dX10_put_73 rfl (lv_at hl 2 rfl) ?_
      refine lv_iadd hx hb dX10_put_74 ?_
      refine lv_bipush (v := (80 : Int32)) hx hb dX10_put_75 (by decide) ?_
      refine lv_icmp_le (tgt := 83) hx hb dX10_put_77 (by decide) (fun c_4 => ?_) (fun c_4 => ?_)
      · have hs := hs.1 c_4
        rw [if_pos c_4] at hR
        refine lv_iconst (v := (0 : Int32)) hx hb dX10_put_83 (by decide) ?_
        refine lv_istore (lv' := [(6, .int (0 : Int32)), (0, .ref (a 0)), (1, .long v1), (3, .int v3), (4, .long v4)]) hx hb dX10_put_84 hl (by decide) rfl (fun ls hl => ?_)
        exact b_X10_put_b86 l D k a A C0 R FU σ v1 v3 (0 : Int32) hs hR H locs ls hW (lv_sub hl [1, 2, 3, 0] rfl)
      · have hs := hs.2 c_4
        rw [if_neg c_4] at hR
        refine lv_bipush (v := (-4 : Int32)) hx hb dX10_put_80 (by decide) ?_
        exact q_iret C0 hW hR dX10_put_82
    · have hs := hs.2 c_3
      rw [if_neg c_3] at hR
      refine lv_bipush (v := (-2 : Int32)) hx hb dX10_put_66 (by decide) ?_
      exact q_iret C0 hW hR dX10_put_68
set_option maxHeartbeats 400000 in
set_option maxRecDepth 100000 in
theorem b_X10_put_b52n {p : Program} {e : Env} {s : State} {m : MethodId} {args : Array Value} {below : List Frame} {meth : Method} {c : Code} (l : Launch) (D : va_G) (k : Nat → ClassId) (a : Nat → Nat) (A : Nat → Prop) (C0 : q_C p s m meth c args RX10 cX10_put 7 (some .int) wsX10_put D (tyL k) A) (R : Int32 × T2) (pk5 : T2 → Int64 → Int32 → Int64 → Int32 × T2) (sk5 : T2 → Int64 → Int32 → Int64 → Prop) (hk5 : ∀ (σ : T2) (v1 : Int64) (v3 : Int32) (v4 : Int64), sk5 σ v1 v3 v4 → pk5 σ v1 v3 v4 = R → ∀ (H : Heap) (locs : List Loc) (ls : Array Slot), q_W D A s.heap (wX10 k a σ) H locs → lv_has ls 7 [(0, .ref (a 0)), (1, .long v1), (3, .int v3), (4, .long v4)] → W p l e { frames := 1, cells := 0, slots := 0, locals := 22 } s m args below meth c H locs 0 0 (MQ below (va_Qi (fun r u => (r, u) = R) (fun u => q_E D (tyL k) A (wX10 k a u)) A) args s 0 0 A) (F0 m 5 ls [])) : ∀ (σ : T2) (v1 : Int64) (v3 : Int32) (v4 : Int64), S_X10_put_b52n sk5 σ v1 v3 v4 → P_X10_put_b52n pk5 σ v1 v3 v4 = R → ∀ (H : Heap) (locs : List Loc) (ls : Array Slot), q_W D A s.heap (wX10 k a σ) H locs → lv_has ls 7 [(0, .ref (a 0)), (1, .long v1), (3, .int v3), (4, .long v4)] → W p l e { frames := 1, cells := 0, slots := 0, locals := 22 } s m args below meth c H locs 0 0 (MQ below (va_Qi (fun r u => (r, u) = R) (fun u => q_E D (tyL k) A (wX10 k a u)) A) args s 0 0 A) (F0 m 52 ls []) := by
  intro σ v1 v3 v4 hs hR H locs ls hW hl
  rw [P_X10_put_b52n_e] at hR
  rw [S_X10_put_b52n_e] at hs
  obtain ⟨hx, hb, hr, hml, hts, hown, hlocks, hK, hA⟩ := id C0
  refine lv_goto (tgt := 5) hx hb dX10_put_52 (by decide) ?_
  exact hk5 σ v1 v3 v4 hs hR H locs ls hW (lv_sub hl [0, 1, 2, 3] rfl)
set_option maxHeartbeats 400000 in
set_option maxRecDepth 100000 in
theorem b_X10_put_b5 {p : Program} {e : Env} {s : State} {m : MethodId} {args : Array Value} {below : List Frame} {meth : Method} {c : Code} (l : Launch) (D : va_G) (k : Nat → ClassId) (a : Nat → Nat) (A : Nat → Prop) (C0 : q_C p s m meth c args RX10 cX10_put 7 (some .int) wsX10_put D (tyL k) A) (R : Int32 × T2) : ∀ n : Nat, ∀ (σ : T2) (v1 : Int64) (v3 : Int32) (v4 : Int64), S_X10_put_b5 n σ v1 v3 v4 → P_X10_put_b5 n σ v1 v3 v4 = R → ∀ (H : Heap) (locs : List Loc) (ls : Array Slot), q_W D A s.heap (wX10 k a σ) H locs → lv_has ls 7 [(0, .ref (a 0)), (1, .long v1), (3, .int v3), (4, .long v4)] → W p l e { frames := 1, cells := 0, slots := 0, locals := 22 } s m args below meth c H locs 0 0 (MQ below (va_Qi (fun r u => (r, u) = R) (fun u => q_E D (tyL k) A (wX10 k a u)) A) args s 0 0 A) (F0 m 5 ls []) := by
  intro n
  induction n with
  | zero => intro σ v1 v3 v4 hs; exact False.elim hs
  | succ n ih =>
    intro σ v1 v3 v4 hs hR H locs ls hW hl
    rw [P_X10_put_b5_e] at hR
    rw [S_X10_put_b5_e] at hs
    obtain ⟨hx, hb, hr, hml, hts, hown, hlocks, hK, hA⟩ := id C0
    refine lv_iload_n hx hb dX10_put_5 rfl (lv_at hl 2 rfl) ?_
    refine lv_bipush (v := (8 : Int32)) hx hb dX10_put_6 (by decide) ?_
    refine lv_icmp_ge (tgt := 55) hx hb dX10_put_8 (by decide) (fun c_1 => ?_) (fun c_1 => ?_)
    · have hs := hs.1 c_1
      rw [if_pos c_1] at hR
      exact b_X10_put_b55 l D k a A C0 R σ v1 v3 v4 hs hR H locs ls hW (lv_sub hl [0, 1, 2, 3] rfl)
    · have hs := hs.2 c_1
      rw [if_neg c_1] at hR
      refine lv_lload hx hb dX10_put_11 (lv_at hl 3 rfl) ?_
      refine lv_ldc2 (v := (255 : Int64)) hx hb hown (hts (.constantLong RX10 143 (255)) (by decide +kernel)) dX10_put_13 ?_
      refine lv_land hx hb dX10_put_16 ?_
      refine lv_lconst (v := (0 : Int64)) hx hb dX10_put_17 (by decide) ?_
      refine W.lcmp hx hb dX10_put_18 ?_
      refine lv_if_eq (tgt := 55) hx hb dX10_put_19 (by decide) (fun c_7 => ?_) (fun c_7 => ?_)
      · have hs := hs.1 c_7
        rw [if_pos c_7] at hR
        exact b_X10_put_b55 l D k a A C0 R σ v1 v3 v4 hs hR H locs ls hW (lv_sub hl [0, 1, 2, 3] rfl)
      · have hs := hs.2 c_7
        rw [if_neg c_7] at hR
        refine lv_lload hx hb dX10_put_22 (lv_at hl 3 rfl) ?_
        refine lv_ldc2 (v := (255 : Int64)) hx hb hown (hts (.constantLong RX10 143 (255)) (by decide +kernel)) dX10_put_24 ?_
        refine lv_land hx hb dX10_put_27 ?_
        refine lv_l2i (v := (v4 &&& (255 : Int64)).toInt32) hx hb dX10_put_28 rfl ?_
        refine lv_bipush (v := (33 : Int32)) hx hb dX10_put_29 (by decide) ?_
        refine lv_bipush (v := (126 : Int32)) hx hb dX10_put_31 (by decide) ?_
        have hs8 := hs.1
        have hs := hs.2
        refine q_Si (As := [.int ((v4 &&& (255 : Int64)).toInt32), .int (33 : Int32), .int (126 : Int32)]) (rest := []) (R := P_X10_in ((v4 &&& (255 : Int64)).toInt32) (33 : Int32) (126 : Int32)) ⟨hx, hb, hml, hown, hts⟩ (m_X10_in l ((v4 &&& (255 : Int64)).toInt32) (33 : Int32) (126 : Int32) hs8) (va_cwS 3 hts gX10_put_X10_in rfl rfl rfl hd_X10_in ⟨Nat.le_of_ble_eq_true rfl, Nat.le_of_ble_eq_true rfl⟩) hl rfl rfl (Nat.le_of_ble_eq_true rfl) dX10_put_33 ⟨Nat.le_refl 0, Nat.le_refl 0⟩ ?_
        refine lv_if_ne (tgt := 42) hx hb dX10_put_36 (by decide) (fun c_9 => ?_) (fun c_9 => ?_)
        · have hs := hs.2 c_9
          rw [if_neg c_9] at hR
          refine lv_iinc (v := v3 + (1 : Int32)) (lv' := [(3, .int (v3 + (1 : Int32))), (0, .ref (a 0)), (1, .long v1), (4, .long v4)]) hx hb dX10_put_42 hl (k := 2) rfl rfl (by decide) rfl (fun ls hl => ?_)
          refine lv_lload hx hb dX10_put_45 (lv_at hl 3 rfl) ?_
          refine lv_bipush (v := (8 : Int32)) hx hb dX10_put_47 (by decide) ?_
          refine lv_lushr (v := (v4.toUInt64 >>> ((8 : Int32).toInt64.toUInt64 &&& Int64.toUInt64 63)).toInt64) hx hb dX10_put_49 rfl ?_
          refine lv_lstore (lv' := [(4, .long ((v4.toUInt64 >>> ((8 : Int32).toInt64.toUInt64 &&& Int64.toUInt64 63)).toInt64)), (3, .int (v3 + (1 : Int32))), (0, .ref (a 0)), (1, .long v1)]) hx hb dX10_put_50 hl (by decide) rfl (fun ls hl => ?_)
          exact b_X10_put_b52n l D k a A C0 R _ _ ih σ v1 (v3 + (1 : Int32)) ((v4.toUInt64 >>> ((8 : Int32).toInt64.toUInt64 &&& Int64.toUInt64 63)).toInt64) hs hR H locs ls hW (lv_sub hl [2, 3, 1, 0] rfl)
        · have hs := hs.1 c_9
          rw [if_pos c_9] at hR
          refine lv_bipush (v := (-2 : Int32)) hx hb dX10_put_39 (by decide) ?_
          exact q_iret C0 hW hR dX10_put_41
set_option maxHeartbeats 400000 in
set_option maxRecDepth 100000 in
theorem b_X10_put_b0 {p : Program} {e : Env} {s : State} {m : MethodId} {args : Array Value} {below : List Frame} {meth : Method} {c : Code} (l : Launch) (D : va_G) (k : Nat → ClassId) (a : Nat → Nat) (A : Nat → Prop) (C0 : q_C p s m meth c args RX10 cX10_put 7 (some .int) wsX10_put D (tyL k) A) (R : Int32 × T2) : ∀ (σ : T2) (v1 : Int64), S_X10_put_b0 σ v1 → P_X10_put_b0 σ v1 = R → ∀ (H : Heap) (locs : List Loc) (ls : Array Slot), q_W D A s.heap (wX10 k a σ) H locs → lv_has ls 7 [(0, .ref (a 0)), (1, .long v1)] → W p l e { frames := 1, cells := 0, slots := 0, locals := 22 } s m args below meth c H locs 0 0 (MQ below (va_Qi (fun r u => (r, u) = R) (fun u => q_E D (tyL k) A (wX10 k a u)) A) args s 0 0 A) (F0 m 0 ls []) := by
  intro σ v1 hs hR H locs ls hW hl
  rw [P_X10_put_b0_e] at hR
  rw [S_X10_put_b0_e] at hs
  obtain ⟨hx, hb, hr, hml, hts, hown, hlocks, hK, hA⟩ := id C0
  refine lv_iconst (v := (0 : Int32)) hx hb dX10_put_0 (by decide) ?_
  refine lv_istore_n (lv' := [(3, .int (0 : Int32)), (0, .ref (a 0)), (1, .long v1)]) hx hb dX10_put_1 rfl hl (by decide) rfl (fun ls hl => ?_)
  refine lv_lload_n hx hb dX10_put_2 rfl (lv_at hl 2 rfl) ?_
  refine lv_lstore (lv' := [(4, .long v1), (3, .int (0 : Int32)), (0, .ref (a 0)), (1, .long v1)]) hx hb dX10_put_3 hl (by decide) rfl (fun ls hl => ?_)
  exact b_X10_put_b5 l D k a A C0 R FU σ v1 (0 : Int32) v1 hs hR H locs ls hW (lv_sub hl [2, 3, 1, 0] rfl)
set_option maxHeartbeats 400000 in
set_option maxRecDepth 100000 in
theorem m_X10_put (l : Launch) (D : va_G) (k : Nat → ClassId) (a : Nat → Nat) (sz : Nat) (σ : T2) (p0 : Int64) (hs : S_X10_put σ p0) : Met l yX10_put wsX10_put { frames := 1, cells := 0, slots := 0, locals := 22 } (va_Pc [.ref (a 0), .long p0] (q_B D (tyL k) (wX10 k a σ) sz)) (va_Qi (fun r u => (r, u) = P_X10_put σ p0) (fun u => q_E D (tyL k) (va_A (wX10 k a σ) sz) (wX10 k a u)) (va_A (wX10 k a σ) sz)) 0 0 (va_A (wX10 k a σ) sz) := by
  refine q_met [.ref (a 0), .long p0] (wX10 k a σ) sz (cc := cX10_put) (maxL := 7) (ret := (some .int)) (by decide) rfl (Nat.le_of_ble_eq_true rfl) ?_
  intro p e s m args below meth c ls hsz C0 hW hl hin
  subst hsz
  exact b_X10_put_b0 l D k a _ C0 _ σ p0 hs rfl s.heap [] ls hW (lv_sub hl [0, 1] rfl)
theorem hin_X10_wipe_X10 : ∀ w ∈ u_ws RX10 TX10 18, w ∈ wsX10_wipe := by decide +kernel
theorem hd_X10_wipe : yX10_wipe.cls = RX10 ∧ yX10_wipe.cls ≠ "java/lang/invoke/MethodHandle" ∧ yX10_wipe.cls ≠ "java/lang/invoke/VarHandle" ∧ (parseMethodDescriptor yX10_wipe.desc).map (fun d => d.parameters.length) = some 0 := by decide +kernel
noncomputable def P_X10_wipe_b0 (σ : T2) : Int32 × T2 := (σ 0 9, u2 σ 0 (upd (σ 0) 9 (0 : Int32)))
def S_X10_wipe_b0 (σ : T2) : Prop := True
theorem P_X10_wipe_b0_e (σ : T2) : P_X10_wipe_b0 σ = (σ 0 9, u2 σ 0 (upd (σ 0) 9 (0 : Int32))) := rfl
theorem S_X10_wipe_b0_e (σ : T2) : S_X10_wipe_b0 σ = (True) := rfl
noncomputable def P_X10_wipe (σ : T2) : Int32 × T2 := P_X10_wipe_b0 σ
def S_X10_wipe (σ : T2) : Prop := S_X10_wipe_b0 σ
set_option maxHeartbeats 400000 in
set_option maxRecDepth 100000 in
theorem b_X10_wipe_b0 {p : Program} {e : Env} {s : State} {m : MethodId} {args : Array Value} {below : List Frame} {meth : Method} {c : Code} (l : Launch) (D : va_G) (k : Nat → ClassId) (a : Nat → Nat) (A : Nat → Prop) (C0 : q_C p s m meth c args RX10 cX10_wipe 2 (some .int) wsX10_wipe D (tyL k) A) (R : Int32 × T2) : ∀ (σ : T2), S_X10_wipe_b0 σ → P_X10_wipe_b0 σ = R → ∀ (H : Heap) (locs : List Loc) (ls : Array Slot), q_W D A s.heap (wX10 k a σ) H locs → lv_has ls 2 [(0, .ref (a 0))] → W p l e { frames := 0, cells := 0, slots := 0, locals := 0 } s m args below meth c H locs 0 0 (MQ below (va_Qi (fun r u => (r, u) = R) (fun u => q_E D (tyL k) A (wX10 k a u)) A) args s 0 0 A) (F0 m 0 ls []) := by
  intro σ hs hR H locs ls hW hl
  rw [P_X10_wipe_b0_e] at hR
  rw [S_X10_wipe_b0_e] at hs
  obtain ⟨hx, hb, hr, hml, hts, hown, hlocks, hK, hA⟩ := id C0
  have hf128 := hts (.fieldLink RX10 128 "BeatFollowerModel" "padMany" "I") (by decide +kernel)
  have hinX10 : ∀ w ∈ u_ws RX10 TX10 18, w ∈ wsX10_wipe := hin_X10_wipe_X10
  refine lv_aload_n hx hb dX10_wipe_0 rfl (lv_at hl 0 rfl) ?_
  refine va_get (v := .int (σ 0 9)) (C := RX10) (T := TX10) (N := 18) hx hb hts hinX10 hown hK hW.1 0 rfl rfl 9 (by decide) hf128 (fun _ h9 => h9) rfl dX10_wipe_1 ?_
  refine lv_istore_n (lv' := [(1, .int (σ 0 9)), (0, .ref (a 0))]) hx hb dX10_wipe_4 rfl hl (by decide) rfl (fun ls hl => ?_)
  refine lv_aload_n hx hb dX10_wipe_5 rfl (lv_at hl 1 rfl) ?_
  refine lv_iconst (v := (0 : Int32)) hx hb dX10_wipe_6 (by decide) ?_
  refine q_putf (ty := .int) (wd' := wX10 k a (u2 σ 0 (upd (σ 0) 9 (0 : Int32)))) C0 hW hinX10 tyX10 tyX10_ok nmX10 0 rfl rfl 9 (by decide) hf128 rfl (by decide +kernel) rfl rfl (Nat.le_of_ble_eq_true rfl) dX10_wipe_7 (fX10_s9 _ _ _) (wX10_s0 k a _ _) (fun H locs hW => ?_)
  refine lv_iload_n hx hb dX10_wipe_10 rfl (lv_at hl 0 rfl) ?_
  exact q_iret C0 hW hR dX10_wipe_11
set_option maxHeartbeats 400000 in
set_option maxRecDepth 100000 in
theorem m_X10_wipe (l : Launch) (D : va_G) (k : Nat → ClassId) (a : Nat → Nat) (sz : Nat) (σ : T2) (hs : S_X10_wipe σ) : Met l yX10_wipe wsX10_wipe { frames := 0, cells := 0, slots := 0, locals := 0 } (va_Pc [.ref (a 0)] (q_B D (tyL k) (wX10 k a σ) sz)) (va_Qi (fun r u => (r, u) = P_X10_wipe σ) (fun u => q_E D (tyL k) (va_A (wX10 k a σ) sz) (wX10 k a u)) (va_A (wX10 k a σ) sz)) 0 0 (va_A (wX10 k a σ) sz) := by
  refine q_met [.ref (a 0)] (wX10 k a σ) sz (cc := cX10_wipe) (maxL := 2) (ret := (some .int)) (by decide) rfl (Nat.le_of_ble_eq_true rfl) ?_
  intro p e s m args below meth c ls hsz C0 hW hl hin
  subst hsz
  exact b_X10_wipe_b0 l D k a _ C0 _ σ  hs rfl s.heap [] ls hW (lv_sub hl [0] rfl)
theorem hin_X10_next_X10 : ∀ w ∈ u_ws RX10 TX10 18, w ∈ wsX10_next := by decide +kernel
theorem hd_X10_next : yX10_next.cls = RX10 ∧ yX10_next.cls ≠ "java/lang/invoke/MethodHandle" ∧ yX10_next.cls ≠ "java/lang/invoke/VarHandle" ∧ (parseMethodDescriptor yX10_next.desc).map (fun d => d.parameters.length) = some 0 := by decide +kernel
noncomputable def P_X10_next_b0 (σ : T2) : Int32 := if (σ 0 9) ≤ (σ 0 10) then ((0 : Int32)) else (σ 6 ((σ 0 10).toNatClampNeg))
def S_X10_next_b0 (σ : T2) : Prop := ((σ 0 9) ≤ (σ 0 10) → (True)) ∧ (¬ ((σ 0 9) ≤ (σ 0 10)) → ((vp_in (σ 0 10) 80) ∧ (True)))
theorem P_X10_next_b0_e (σ : T2) : P_X10_next_b0 σ = if (σ 0 9) ≤ (σ 0 10) then ((0 : Int32)) else (σ 6 ((σ 0 10).toNatClampNeg)) := rfl
theorem S_X10_next_b0_e (σ : T2) : S_X10_next_b0 σ = (((σ 0 9) ≤ (σ 0 10) → (True)) ∧ (¬ ((σ 0 9) ≤ (σ 0 10)) → ((vp_in (σ 0 10) 80) ∧ (True)))) := rfl
noncomputable def P_X10_next (σ : T2) : Int32 := P_X10_next_b0 σ
def S_X10_next (σ : T2) : Prop := S_X10_next_b0 σ
set_option maxHeartbeats 400000 in
set_option maxRecDepth 100000 in
theorem b_X10_next_b0 {p : Program} {e : Env} {s : State} {m : MethodId} {args : Array Value} {below : List Frame} {meth : Method} {c : Code} (l : Launch) (D : va_G) (k : Nat → ClassId) (a : Nat → Nat) (A : Nat → Prop) (C0 : q_C p s m meth c args RX10 cX10_next 1 (some .int) wsX10_next D (tyL k) A) (R : Int32) : ∀ (σ : T2), S_X10_next_b0 σ → P_X10_next_b0 σ = R → ∀ (H : Heap) (locs : List Loc) (ls : Array Slot), q_W D A s.heap (wX10 k a σ) s.heap [] → lv_has ls 1 [(0, .ref (a 0))] → W p l e { frames := 0, cells := 0, slots := 0, locals := 0 } s m args below meth c s.heap [] 0 0 (MQ below (vp_Si (fun r => r = R)) args s 0 0 (fun _ => False)) (F0 m 0 ls []) := by
  intro σ hs hR H locs ls hW hl
  rw [P_X10_next_b0_e] at hR
  rw [S_X10_next_b0_e] at hs
  obtain ⟨hx, hb, hr, hml, hts, hown, hlocks, hK, hA⟩ := id C0
  have hf30 := hts (.fieldLink RX10 30 "BeatFollowerModel" "pad" "[I") (by decide +kernel)
  have hf128 := hts (.fieldLink RX10 128 "BeatFollowerModel" "padMany" "I") (by decide +kernel)
  have hf145 := hts (.fieldLink RX10 145 "BeatFollowerModel" "spot" "I") (by decide +kernel)
  have hinX10 : ∀ w ∈ u_ws RX10 TX10 18, w ∈ wsX10_next := hin_X10_next_X10
  refine lv_aload_n hx hb dX10_next_0 rfl (lv_at hl 0 rfl) ?_
  refine va_get (v := .int (σ 0 10)) (C := RX10) (T := TX10) (N := 18) hx hb hts hinX10 hown hK hW.1 0 rfl rfl 10 (by decide) hf145 (fun _ h9 => h9) rfl dX10_next_1 ?_
  refine lv_aload_n hx hb dX10_next_4 rfl (lv_at hl 0 rfl) ?_
  refine va_get (v := .int (σ 0 9)) (C := RX10) (T := TX10) (N := 18) hx hb hts hinX10 hown hK hW.1 0 rfl rfl 9 (by decide) hf128 (fun _ h9 => h9) rfl dX10_next_5 ?_
  refine lv_icmp_ge (tgt := 23) hx hb dX10_next_8 (by decide) (fun c_1 => ?_) (fun c_1 => ?_)
  · have hs := hs.1 c_1
    rw [if_pos c_1] at hR
    refine lv_iconst (v := (0 : Int32)) hx hb dX10_next_23 (by decide) ?_
    exact q_iretr C0 hR dX10_next_24
  · have hs := hs.2 c_1
    rw [if_neg c_1] at hR
    refine lv_aload_n hx hb dX10_next_11 rfl (lv_at hl 0 rfl) ?_
    refine va_get (v := .ref (a 6)) (C := RX10) (T := TX10) (N := 18) hx hb hts hinX10 hown hK hW.1 0 rfl rfl 8 (by decide) hf30 (fun _ h9 => h9) rfl dX10_next_12 ?_
    refine lv_aload_n hx hb dX10_next_15 rfl (lv_at hl 0 rfl) ?_
    refine va_get (v := .int (σ 0 10)) (C := RX10) (T := TX10) (N := 18) hx hb hts hinX10 hown hK hW.1 0 rfl rfl 10 (by decide) hf145 (fun _ h9 => h9) rfl dX10_next_16 ?_
    have hi2 := hs.1
    have hs := hs.2
    refine q_iald (v := σ 6 ((σ 0 10).toNatClampNeg)) C0 hW 6 rfl rfl hi2 rfl rfl dX10_next_19 ?_
    refine lv_goto (tgt := 24) hx hb dX10_next_20 (by decide) ?_
    exact q_iretr C0 hR dX10_next_24
set_option maxHeartbeats 400000 in
set_option maxRecDepth 100000 in
theorem m_X10_next (l : Launch) (D : va_G) (k : Nat → ClassId) (a : Nat → Nat) (sz : Nat) (σ : T2) (hs : S_X10_next σ) : Met l yX10_next wsX10_next { frames := 0, cells := 0, slots := 0, locals := 0 } (va_Pc [.ref (a 0)] (q_B D (tyL k) (wX10 k a σ) sz)) (vp_Si (fun r => r = P_X10_next σ)) 0 0 (fun _ => False) := by
  refine q_met [.ref (a 0)] (wX10 k a σ) sz (cc := cX10_next) (maxL := 1) (ret := (some .int)) (by decide) rfl (Nat.le_of_ble_eq_true rfl) ?_
  intro p e s m args below meth c ls hsz C0 hW hl hin
  subst hsz
  exact b_X10_next_b0 l D k a _ C0 _ σ  hs rfl s.heap [] ls hW (lv_sub hl [0] rfl)
theorem hin_X10_takeSign_X10 : ∀ w ∈ u_ws RX10 TX10 18, w ∈ wsX10_takeSign := by decide +kernel
theorem hd_X10_takeSign : yX10_takeSign.cls = RX10 ∧ yX10_takeSign.cls ≠ "java/lang/invoke/MethodHandle" ∧ yX10_takeSign.cls ≠ "java/lang/invoke/VarHandle" ∧ (parseMethodDescriptor yX10_takeSign.desc).map (fun d => d.parameters.length) = some 1 := by decide +kernel
noncomputable def P_X10_takeSign_b41 (σ : T2) (t0 : Int32) (t1 : Int32) : T2 := u2 σ 0 (upd (σ 0) 10 (t1 + t0))
def S_X10_takeSign_b41 (σ : T2) (t0 : Int32) (t1 : Int32) : Prop := True
theorem P_X10_takeSign_b41_e (σ : T2) (t0 : Int32) (t1 : Int32) : P_X10_takeSign_b41 σ t0 t1 = u2 σ 0 (upd (σ 0) 10 (t1 + t0)) := rfl
theorem S_X10_takeSign_b41_e (σ : T2) (t0 : Int32) (t1 : Int32) : S_X10_takeSign_b41 σ t0 t1 = (True) := rfl
noncomputable def P_X10_takeSign_b21 (σ : T2) (t0 : Int32) : T2 := if t0 = 0 then (P_X10_takeSign_b41 (u2 σ 0 (upd (σ 0) 11 t0)) (1 : Int32) (σ 0 10)) else (P_X10_takeSign_b41 (u2 σ 0 (upd (σ 0) 11 t0)) (0 : Int32) (σ 0 10))
def S_X10_takeSign_b21 (σ : T2) (t0 : Int32) : Prop := (t0 = 0 ∨ t0 = 1) ∧ ((t0 = 0 → (S_X10_takeSign_b41 (u2 σ 0 (upd (σ 0) 11 t0)) (1 : Int32) (σ 0 10))) ∧ (¬ (t0 = 0) → (S_X10_takeSign_b41 (u2 σ 0 (upd (σ 0) 11 t0)) (0 : Int32) (σ 0 10))))
theorem P_X10_takeSign_b21_e (σ : T2) (t0 : Int32) : P_X10_takeSign_b21 σ t0 = if t0 = 0 then (P_X10_takeSign_b41 (u2 σ 0 (upd (σ 0) 11 t0)) (1 : Int32) (σ 0 10)) else (P_X10_takeSign_b41 (u2 σ 0 (upd (σ 0) 11 t0)) (0 : Int32) (σ 0 10)) := rfl
theorem S_X10_takeSign_b21_e (σ : T2) (t0 : Int32) : S_X10_takeSign_b21 σ t0 = ((t0 = 0 ∨ t0 = 1) ∧ ((t0 = 0 → (S_X10_takeSign_b41 (u2 σ 0 (upd (σ 0) 11 t0)) (1 : Int32) (σ 0 10))) ∧ (¬ (t0 = 0) → (S_X10_takeSign_b41 (u2 σ 0 (upd (σ 0) 11 t0)) (0 : Int32) (σ 0 10))))) := rfl
noncomputable def P_X10_takeSign_b16 (σ : T2) : T2 := P_X10_takeSign_b21 σ (1 : Int32)
def S_X10_takeSign_b16 (σ : T2) : Prop := S_X10_takeSign_b21 σ (1 : Int32)
theorem P_X10_takeSign_b16_e (σ : T2) : P_X10_takeSign_b16 σ = P_X10_takeSign_b21 σ (1 : Int32) := rfl
theorem S_X10_takeSign_b16_e (σ : T2) : S_X10_takeSign_b16 σ = (S_X10_takeSign_b21 σ (1 : Int32)) := rfl
noncomputable def P_X10_takeSign_b0 (σ : T2) (v1 : Int32) : T2 := if (σ 0 11) = 0 then (if (P_X10_next σ) = v1 then (P_X10_takeSign_b21 σ (0 : Int32)) else (P_X10_takeSign_b16 σ)) else (P_X10_takeSign_b16 σ)
def S_X10_takeSign_b0 (σ : T2) (v1 : Int32) : Prop := ((σ 0 11) = 0 → ((S_X10_next σ ) ∧ (((P_X10_next σ) = v1 → (S_X10_takeSign_b21 σ (0 : Int32))) ∧ (¬ ((P_X10_next σ) = v1) → (S_X10_takeSign_b16 σ))))) ∧ (¬ ((σ 0 11) = 0) → (S_X10_takeSign_b16 σ))
theorem P_X10_takeSign_b0_e (σ : T2) (v1 : Int32) : P_X10_takeSign_b0 σ v1 = if (σ 0 11) = 0 then (if (P_X10_next σ) = v1 then (P_X10_takeSign_b21 σ (0 : Int32)) else (P_X10_takeSign_b16 σ)) else (P_X10_takeSign_b16 σ) := rfl
theorem S_X10_takeSign_b0_e (σ : T2) (v1 : Int32) : S_X10_takeSign_b0 σ v1 = (((σ 0 11) = 0 → ((S_X10_next σ ) ∧ (((P_X10_next σ) = v1 → (S_X10_takeSign_b21 σ (0 : Int32))) ∧ (¬ ((P_X10_next σ) = v1) → (S_X10_takeSign_b16 σ))))) ∧ (¬ ((σ 0 11) = 0) → (S_X10_takeSign_b16 σ))) := rfl
noncomputable def P_X10_takeSign (σ : T2) (p0 : Int32) : T2 := P_X10_takeSign_b0 σ p0
def S_X10_takeSign (σ : T2) (p0 : Int32) : Prop := S_X10_takeSign_b0 σ p0
set_option maxHeartbeats 400000 in
set_option maxRecDepth 100000 in
theorem b_X10_takeSign_b41 {p : Program} {e : Env} {s : State} {m : MethodId} {args : Array Value} {below : List Frame} {meth : Method} {c : Code} (l : Launch) (D : va_G) (k : Nat → ClassId) (a : Nat → Nat) (A : Nat → Prop) (C0 : q_C p s m meth c args RX10 cX10_takeSign 2 none wsX10_takeSign D (tyL k) A) (R : T2) : ∀ (σ : T2) (t0 : Int32) (t1 : Int32), S_X10_takeSign_b41 σ t0 t1 → P_X10_takeSign_b41 σ t0 t1 = R → ∀ (H : Heap) (locs : List Loc) (ls : Array Slot), q_W D A s.heap (wX10 k a σ) H locs → lv_has ls 2 [] → W p l e { frames := 1, cells := 0, slots := 0, locals := 20 } s m args below meth c H locs 0 0 (MQ below (va_Qv (fun u => u = R) (fun u => q_E D (tyL k) A (wX10 k a u)) A) args s 0 0 A) (F0 m 41 ls [.int t0, .int t1, .ref (a 0)]) := by
  intro σ t0 t1 hs hR H locs ls hW hl
  rw [P_X10_takeSign_b41_e] at hR
  rw [S_X10_takeSign_b41_e] at hs
  obtain ⟨hx, hb, hr, hml, hts, hown, hlocks, hK, hA⟩ := id C0
  have hf145 := hts (.fieldLink RX10 145 "BeatFollowerModel" "spot" "I") (by decide +kernel)
  have hinX10 : ∀ w ∈ u_ws RX10 TX10 18, w ∈ wsX10_takeSign := hin_X10_takeSign_X10
  refine lv_iadd hx hb dX10_takeSign_41 ?_
  refine q_putf (ty := .int) (wd' := wX10 k a (u2 σ 0 (upd (σ 0) 10 (t1 + t0)))) C0 hW hinX10 tyX10 tyX10_ok nmX10 0 rfl rfl 10 (by decide) hf145 rfl (by decide +kernel) rfl rfl (Nat.le_of_ble_eq_true rfl) dX10_takeSign_42 (fX10_s10 _ _ _) (wX10_s0 k a _ _) (fun H locs hW => ?_)
  exact q_vret C0 hW hR dX10_takeSign_45
set_option maxHeartbeats 400000 in
set_option maxRecDepth 100000 in
theorem b_X10_takeSign_b21 {p : Program} {e : Env} {s : State} {m : MethodId} {args : Array Value} {below : List Frame} {meth : Method} {c : Code} (l : Launch) (D : va_G) (k : Nat → ClassId) (a : Nat → Nat) (A : Nat → Prop) (C0 : q_C p s m meth c args RX10 cX10_takeSign 2 none wsX10_takeSign D (tyL k) A) (R : T2) : ∀ (σ : T2) (t0 : Int32), S_X10_takeSign_b21 σ t0 → P_X10_takeSign_b21 σ t0 = R → ∀ (H : Heap) (locs : List Loc) (ls : Array Slot), q_W D A s.heap (wX10 k a σ) H locs → lv_has ls 2 [(0, .ref (a 0))] → W p l e { frames := 1, cells := 0, slots := 0, locals := 20 } s m args below meth c H locs 0 0 (MQ below (va_Qv (fun u => u = R) (fun u => q_E D (tyL k) A (wX10 k a u)) A) args s 0 0 A) (F0 m 21 ls [.int t0, .ref (a 0)]) := by
  intro σ t0 hs hR H locs ls hW hl
  rw [P_X10_takeSign_b21_e] at hR
  rw [S_X10_takeSign_b21_e] at hs
  obtain ⟨hx, hb, hr, hml, hts, hown, hlocks, hK, hA⟩ := id C0
  have hf145 := hts (.fieldLink RX10 145 "BeatFollowerModel" "spot" "I") (by decide +kernel)
  have hf148 := hts (.fieldLink RX10 148 "BeatFollowerModel" "isWrong" "Z") (by decide +kernel)
  have hinX10 : ∀ w ∈ u_ws RX10 TX10 18, w ∈ wsX10_takeSign := hin_X10_takeSign_X10
  have hz2 := hs.1
  have hs := hs.2
  refine q_putf (ty := .boolean) (wd' := wX10 k a (u2 σ 0 (upd (σ 0) 11 t0))) C0 hW hinX10 tyX10 tyX10_ok nmX10 0 rfl rfl 11 (by decide) hf148 rfl (by decide +kernel) (q_nb hz2) (q_fb hz2) (Nat.le_of_ble_eq_true rfl) dX10_takeSign_21 (fX10_s11 _ _ _) (wX10_s0 k a _ _) (fun H locs hW => ?_)
  refine lv_aload_n hx hb dX10_takeSign_24 rfl (lv_at hl 0 rfl) ?_
  refine lv_dup hx hb dX10_takeSign_25 rfl ?_
  refine va_get (v := .int (σ 0 10)) (C := RX10) (T := TX10) (N := 18) hx hb hts hinX10 hown hK hW.1 0 rfl rfl 10 (by decide) hf145 (fun _ h9 => h9) rfl dX10_takeSign_26 ?_
  refine lv_aload_n hx hb dX10_takeSign_29 rfl (lv_at hl 0 rfl) ?_
  refine va_get (v := .int t0) (C := RX10) (T := TX10) (N := 18) hx hb hts hinX10 hown hK hW.1 0 rfl rfl 11 (by decide) hf148 (fun _ h9 => h9) rfl dX10_takeSign_30 ?_
  refine lv_if_eq (tgt := 40) hx hb dX10_takeSign_33 (by decide) (fun c_3 => ?_) (fun c_3 => ?_)
  · have hs := hs.1 c_3
    rw [if_pos c_3] at hR
    refine lv_iconst (v := (1 : Int32)) hx hb dX10_takeSign_40 (by decide) ?_
    exact b_X10_takeSign_b41 l D k a A C0 R (u2 σ 0 (upd (σ 0) 11 t0)) (1 : Int32) (σ 0 10) hs hR H locs ls hW (lv_sub hl [] rfl)
  · have hs := hs.2 c_3
    rw [if_neg c_3] at hR
    refine lv_iconst (v := (0 : Int32)) hx hb dX10_takeSign_36 (by decide) ?_
    refine lv_goto (tgt := 41) hx hb dX10_takeSign_37 (by decide) ?_
    exact b_X10_takeSign_b41 l D k a A C0 R (u2 σ 0 (upd (σ 0) 11 t0)) (0 : Int32) (σ 0 10) hs hR H locs ls hW (lv_sub hl [] rfl)
set_option maxHeartbeats 400000 in
set_option maxRecDepth 100000 in
theorem b_X10_takeSign_b16 {p : Program} {e : Env} {s : State} {m : MethodId} {args : Array Value} {below : List Frame} {meth : Method} {c : Code} (l : Launch) (D : va_G) (k : Nat → ClassId) (a : Nat → Nat) (A : Nat → Prop) (C0 : q_C p s m meth c args RX10 cX10_takeSign 2 none wsX10_takeSign D (tyL k) A) (R : T2) : ∀ (σ : T2), S_X10_takeSign_b16 σ → P_X10_takeSign_b16 σ = R → ∀ (H : Heap) (locs : List Loc) (ls : Array Slot), q_W D A s.heap (wX10 k a σ) H locs → lv_has ls 2 [(0, .ref (a 0))] → W p l e { frames := 1, cells := 0, slots := 0, locals := 20 } s m args below meth c H locs 0 0 (MQ below (va_Qv (fun u => u = R) (fun u => q_E D (tyL k) A (wX10 k a u)) A) args s 0 0 A) (F0 m 16 ls [.ref (a 0)]) := by
  intro σ hs hR H locs ls hW hl
  rw [P_X10_takeSign_b16_e] at hR
  rw [S_X10_takeSign_b16_e] at hs
  obtain ⟨hx, hb, hr, hml, hts, hown, hlocks, hK, hA⟩ := id C0
  refine lv_iconst (v := (1 : Int32)) hx hb dX10_takeSign_16 (by decide) ?_
  refine lv_goto (tgt := 21) hx hb dX10_takeSign_17 (by decide) ?_
  exact b_X10_takeSign_b21 l D k a A C0 R σ (1 : Int32) hs hR H locs ls hW (lv_sub hl [0] rfl)
set_option maxHeartbeats 400000 in
set_option maxRecDepth 100000 in
theorem b_X10_takeSign_b0 {p : Program} {e : Env} {s : State} {m : MethodId} {args : Array Value} {below : List Frame} {meth : Method} {c : Code} (l : Launch) (D : va_G) (k : Nat → ClassId) (a : Nat → Nat) (A : Nat → Prop) (C0 : q_C p s m meth c args RX10 cX10_takeSign 2 none wsX10_takeSign D (tyL k) A) (R : T2) : ∀ (σ : T2) (v1 : Int32), S_X10_takeSign_b0 σ v1 → P_X10_takeSign_b0 σ v1 = R → ∀ (H : Heap) (locs : List Loc) (ls : Array Slot), q_W D A s.heap (wX10 k a σ) H locs → lv_has ls 2 [(0, .ref (a 0)), (1, .int v1)] → W p l e { frames := 1, cells := 0, slots := 0, locals := 20 } s m args below meth c H locs 0 0 (MQ below (va_Qv (fun u => u = R) (fun u => q_E D (tyL k) A (wX10 k a u)) A) args s 0 0 A) (F0 m 0 ls []) := by
  intro σ v1 hs hR H locs ls hW hl
  rw [P_X10_takeSign_b0_e] at hR
  rw [S_X10_takeSign_b0_e] at hs
  obtain ⟨hx, hb, hr, hml, hts, hown, hlocks, hK, hA⟩ := id C0
  have hf148 := hts (.fieldLink RX10 148 "BeatFollowerModel" "isWrong" "Z") (by decide +kernel)
  have hinX10 : ∀ w ∈ u_ws RX10 TX10 18, w ∈ wsX10_takeSign := hin_X10_takeSign_X10
  refine lv_aload_n hx hb dX10_takeSign_0 rfl (lv_at hl 0 rfl) ?_
  refine lv_aload_n hx hb dX10_takeSign_1 rfl (lv_at hl 0 rfl) ?_
  refine va_get (v := .int (σ 0 11)) (C := RX10) (T := TX10) (N := 18) hx hb hts hinX10 hown hK hW.1 0 rfl rfl 11 (by decide) hf148 (fun _ h9 => h9) rfl dX10_takeSign_2 ?_
  refine lv_if_ne (tgt := 16) hx hb dX10_takeSign_5 (by decide) (fun c_1 => ?_) (fun c_1 => ?_)
  · have hs := hs.2 c_1
    rw [if_neg c_1] at hR
    exact b_X10_takeSign_b16 l D k a A C0 R σ hs hR H locs ls hW (lv_sub hl [0] rfl)
  · have hs := hs.1 c_1
    rw [if_pos c_1] at hR
    refine lv_aload_n hx hb dX10_takeSign_8 rfl (lv_at hl 0 rfl) ?_
    have hs4 := hs.1
    have hs := hs.2
    refine q_Vi (As := []) (rest := [.ref (a 0)]) (R := P_X10_next σ) [0, 1, 2, 3, 4, 5, 6, 7, 8] [0, 1, 2, 3] 0 10 C0 hW (m_X10_next l D k a _ σ  hs4) (cwV 0 hts gX10_takeSign_X10_next rfl rfl rfl hd_X10_next ⟨Nat.le_of_ble_eq_true rfl, Nat.le_of_ble_eq_true rfl⟩) (by decide) (wX10_pl k a _) rfl (wX10_rec k a _) rfl hl rfl rfl (Nat.le_of_ble_eq_true rfl) dX10_takeSign_9 ⟨Nat.le_refl 0, Nat.le_refl 0⟩ ?_
    refine lv_iload_n hx hb dX10_takeSign_12 rfl (lv_at hl 1 rfl) ?_
    refine lv_icmp_eq (tgt := 20) hx hb dX10_takeSign_13 (by decide) (fun c_5 => ?_) (fun c_5 => ?_)
    · have hs := hs.1 c_5
      rw [if_pos c_5] at hR
      refine lv_iconst (v := (0 : Int32)) hx hb dX10_takeSign_20 (by decide) ?_
      exact b_X10_takeSign_b21 l D k a A C0 R σ (0 : Int32) hs hR H locs ls hW (lv_sub hl [0] rfl)
    · have hs := hs.2 c_5
      rw [if_neg c_5] at hR
      exact b_X10_takeSign_b16 l D k a A C0 R σ hs hR H locs ls hW (lv_sub hl [0] rfl)
set_option maxHeartbeats 400000 in
set_option maxRecDepth 100000 in
theorem m_X10_takeSign (l : Launch) (D : va_G) (k : Nat → ClassId) (a : Nat → Nat) (sz : Nat) (σ : T2) (p0 : Int32) (hs : S_X10_takeSign σ p0) : Met l yX10_takeSign wsX10_takeSign { frames := 1, cells := 0, slots := 0, locals := 20 } (va_Pc [.ref (a 0), .int p0] (q_B D (tyL k) (wX10 k a σ) sz)) (va_Qv (fun u => u = P_X10_takeSign σ p0) (fun u => q_E D (tyL k) (va_A (wX10 k a σ) sz) (wX10 k a u)) (va_A (wX10 k a σ) sz)) 0 0 (va_A (wX10 k a σ) sz) := by
  refine q_met [.ref (a 0), .int p0] (wX10 k a σ) sz (cc := cX10_takeSign) (maxL := 2) (ret := none) (by decide) rfl (Nat.le_of_ble_eq_true rfl) ?_
  intro p e s m args below meth c ls hsz C0 hW hl hin
  subst hsz
  exact b_X10_takeSign_b0 l D k a _ C0 _ σ p0 hs rfl s.heap [] ls hW (lv_sub hl [0, 1] rfl)
theorem hin_X10_takeNumber_X10 : ∀ w ∈ u_ws RX10 TX10 18, w ∈ wsX10_takeNumber := by decide +kernel
theorem hd_X10_takeNumber : yX10_takeNumber.cls = RX10 ∧ yX10_takeNumber.cls ≠ "java/lang/invoke/MethodHandle" ∧ yX10_takeNumber.cls ≠ "java/lang/invoke/VarHandle" ∧ (parseMethodDescriptor yX10_takeNumber.desc).map (fun d => d.parameters.length) = some 2 := by decide +kernel
noncomputable def P_X10_takeNumber_b193 (σ : T2) (t0 : Int32) : T2 := u2 σ 0 (upd (σ 0) 11 t0)
def S_X10_takeNumber_b193 (σ : T2) (t0 : Int32) : Prop := (t0 = 0 ∨ t0 = 1) ∧ (True)
theorem P_X10_takeNumber_b193_e (σ : T2) (t0 : Int32) : P_X10_takeNumber_b193 σ t0 = u2 σ 0 (upd (σ 0) 11 t0) := rfl
theorem S_X10_takeNumber_b193_e (σ : T2) (t0 : Int32) : S_X10_takeNumber_b193 σ t0 = ((t0 = 0 ∨ t0 = 1) ∧ (True)) := rfl
noncomputable def P_X10_takeNumber_b188 (σ : T2) : T2 := P_X10_takeNumber_b193 σ (1 : Int32)
def S_X10_takeNumber_b188 (σ : T2) : Prop := S_X10_takeNumber_b193 σ (1 : Int32)
theorem P_X10_takeNumber_b188_e (σ : T2) : P_X10_takeNumber_b188 σ = P_X10_takeNumber_b193 σ (1 : Int32) := rfl
theorem S_X10_takeNumber_b188_e (σ : T2) : S_X10_takeNumber_b188 σ = (S_X10_takeNumber_b193 σ (1 : Int32)) := rfl
noncomputable def P_X10_takeNumber_b172 (σ : T2) (v1 : Int32) : T2 := if (σ 0 11) = 0 then (if v1 ≤ (σ 0 12) then (P_X10_takeNumber_b193 σ (0 : Int32)) else (P_X10_takeNumber_b188 σ)) else (P_X10_takeNumber_b188 σ)
def S_X10_takeNumber_b172 (σ : T2) (v1 : Int32) : Prop := ((σ 0 11) = 0 → ((v1 ≤ (σ 0 12) → (S_X10_takeNumber_b193 σ (0 : Int32))) ∧ (¬ (v1 ≤ (σ 0 12)) → (S_X10_takeNumber_b188 σ)))) ∧ (¬ ((σ 0 11) = 0) → (S_X10_takeNumber_b188 σ))
theorem P_X10_takeNumber_b172_e (σ : T2) (v1 : Int32) : P_X10_takeNumber_b172 σ v1 = if (σ 0 11) = 0 then (if v1 ≤ (σ 0 12) then (P_X10_takeNumber_b193 σ (0 : Int32)) else (P_X10_takeNumber_b188 σ)) else (P_X10_takeNumber_b188 σ) := rfl
theorem S_X10_takeNumber_b172_e (σ : T2) (v1 : Int32) : S_X10_takeNumber_b172 σ v1 = (((σ 0 11) = 0 → ((v1 ≤ (σ 0 12) → (S_X10_takeNumber_b193 σ (0 : Int32))) ∧ (¬ (v1 ≤ (σ 0 12)) → (S_X10_takeNumber_b188 σ)))) ∧ (¬ ((σ 0 11) = 0) → (S_X10_takeNumber_b188 σ))) := rfl
noncomputable def P_X10_takeNumber_b165 (pk59 : T2 → Int32 → Int32 → T2) (σ : T2) (v1 : Int32) (v2 : Int32) (t0 : Int32) (t1 : Int32) : T2 := pk59 (u2 σ 0 (upd (σ 0) 10 (t1 + t0))) v1 v2
def S_X10_takeNumber_b165 (sk59 : T2 → Int32 → Int32 → Prop) (σ : T2) (v1 : Int32) (v2 : Int32) (t0 : Int32) (t1 : Int32) : Prop := sk59 (u2 σ 0 (upd (σ 0) 10 (t1 + t0))) v1 v2
theorem P_X10_takeNumber_b165_e (pk59 : T2 → Int32 → Int32 → T2) (σ : T2) (v1 : Int32) (v2 : Int32) (t0 : Int32) (t1 : Int32) : P_X10_takeNumber_b165 pk59 σ v1 v2 t0 t1 = pk59 (u2 σ 0 (upd (σ 0) 10 (t1 + t0))) v1 v2 := rfl
theorem S_X10_takeNumber_b165_e (sk59 : T2 → Int32 → Int32 → Prop) (σ : T2) (v1 : Int32) (v2 : Int32) (t0 : Int32) (t1 : Int32) : S_X10_takeNumber_b165 sk59 σ v1 v2 t0 t1 = (sk59 (u2 σ 0 (upd (σ 0) 10 (t1 + t0))) v1 v2) := rfl
noncomputable def P_X10_takeNumber_b145 (pk59 : T2 → Int32 → Int32 → T2) (σ : T2) (v1 : Int32) (v2 : Int32) (t0 : Int32) : T2 := if (σ 0 11) = 0 then (P_X10_takeNumber_b165 pk59 (u2 σ 0 (upd (σ 0) 12 t0)) v1 v2 (1 : Int32) (σ 0 10)) else (P_X10_takeNumber_b165 pk59 (u2 σ 0 (upd (σ 0) 12 t0)) v1 v2 (0 : Int32) (σ 0 10))
def S_X10_takeNumber_b145 (sk59 : T2 → Int32 → Int32 → Prop) (σ : T2) (v1 : Int32) (v2 : Int32) (t0 : Int32) : Prop := ((σ 0 11) = 0 → (S_X10_takeNumber_b165 sk59 (u2 σ 0 (upd (σ 0) 12 t0)) v1 v2 (1 : Int32) (σ 0 10))) ∧ (¬ ((σ 0 11) = 0) → (S_X10_takeNumber_b165 sk59 (u2 σ 0 (upd (σ 0) 12 t0)) v1 v2 (0 : Int32) (σ 0 10)))
theorem P_X10_takeNumber_b145_e (pk59 : T2 → Int32 → Int32 → T2) (σ : T2) (v1 : Int32) (v2 : Int32) (t0 : Int32) : P_X10_takeNumber_b145 pk59 σ v1 v2 t0 = if (σ 0 11) = 0 then (P_X10_takeNumber_b165 pk59 (u2 σ 0 (upd (σ 0) 12 t0)) v1 v2 (1 : Int32) (σ 0 10)) else (P_X10_takeNumber_b165 pk59 (u2 σ 0 (upd (σ 0) 12 t0)) v1 v2 (0 : Int32) (σ 0 10)) := rfl
theorem S_X10_takeNumber_b145_e (sk59 : T2 → Int32 → Int32 → Prop) (σ : T2) (v1 : Int32) (v2 : Int32) (t0 : Int32) : S_X10_takeNumber_b145 sk59 σ v1 v2 t0 = (((σ 0 11) = 0 → (S_X10_takeNumber_b165 sk59 (u2 σ 0 (upd (σ 0) 12 t0)) v1 v2 (1 : Int32) (σ 0 10))) ∧ (¬ ((σ 0 11) = 0) → (S_X10_takeNumber_b165 sk59 (u2 σ 0 (upd (σ 0) 12 t0)) v1 v2 (0 : Int32) (σ 0 10)))) := rfl
noncomputable def P_X10_takeNumber_b112 (pk59 : T2 → Int32 → Int32 → T2) (σ : T2) (v1 : Int32) (v2 : Int32) (t0 : Int32) : T2 := if t0 = 0 then (P_X10_takeNumber_b145 pk59 (u2 σ 0 (upd (σ 0) 11 t0)) v1 v2 ((((10 : Int32) * (σ 0 12)) + (P_X10_next (u2 σ 0 (upd (σ 0) 11 t0)))) - (48 : Int32))) else (P_X10_takeNumber_b145 pk59 (u2 σ 0 (upd (σ 0) 11 t0)) v1 v2 (σ 0 12))
def S_X10_takeNumber_b112 (sk59 : T2 → Int32 → Int32 → Prop) (σ : T2) (v1 : Int32) (v2 : Int32) (t0 : Int32) : Prop := (t0 = 0 ∨ t0 = 1) ∧ ((t0 = 0 → ((S_X10_next (u2 σ 0 (upd (σ 0) 11 t0)) ) ∧ (S_X10_takeNumber_b145 sk59 (u2 σ 0 (upd (σ 0) 11 t0)) v1 v2 ((((10 : Int32) * (σ 0 12)) + (P_X10_next (u2 σ 0 (upd (σ 0) 11 t0)))) - (48 : Int32))))) ∧ (¬ (t0 = 0) → (S_X10_takeNumber_b145 sk59 (u2 σ 0 (upd (σ 0) 11 t0)) v1 v2 (σ 0 12))))
theorem P_X10_takeNumber_b112_e (pk59 : T2 → Int32 → Int32 → T2) (σ : T2) (v1 : Int32) (v2 : Int32) (t0 : Int32) : P_X10_takeNumber_b112 pk59 σ v1 v2 t0 = if t0 = 0 then (P_X10_takeNumber_b145 pk59 (u2 σ 0 (upd (σ 0) 11 t0)) v1 v2 ((((10 : Int32) * (σ 0 12)) + (P_X10_next (u2 σ 0 (upd (σ 0) 11 t0)))) - (48 : Int32))) else (P_X10_takeNumber_b145 pk59 (u2 σ 0 (upd (σ 0) 11 t0)) v1 v2 (σ 0 12)) := rfl
theorem S_X10_takeNumber_b112_e (sk59 : T2 → Int32 → Int32 → Prop) (σ : T2) (v1 : Int32) (v2 : Int32) (t0 : Int32) : S_X10_takeNumber_b112 sk59 σ v1 v2 t0 = ((t0 = 0 ∨ t0 = 1) ∧ ((t0 = 0 → ((S_X10_next (u2 σ 0 (upd (σ 0) 11 t0)) ) ∧ (S_X10_takeNumber_b145 sk59 (u2 σ 0 (upd (σ 0) 11 t0)) v1 v2 ((((10 : Int32) * (σ 0 12)) + (P_X10_next (u2 σ 0 (upd (σ 0) 11 t0)))) - (48 : Int32))))) ∧ (¬ (t0 = 0) → (S_X10_takeNumber_b145 sk59 (u2 σ 0 (upd (σ 0) 11 t0)) v1 v2 (σ 0 12))))) := rfl
noncomputable def P_X10_takeNumber_b59 (n : Nat) : T2 → Int32 → Int32 → T2 := Nat.rec (motive := fun _ => T2 → Int32 → Int32 → T2) (fun _ _ _ => (fun _ _ => 0)) (fun _ pk59 => fun σ v1 v2 => if (σ 0 11) = 0 then (if (σ 0 12) ≤ 0 then (P_X10_takeNumber_b172 σ v1) else (if (P_X10_in (P_X10_next σ) (48 : Int32) (57 : Int32)) = 0 then (P_X10_takeNumber_b172 σ v1) else (if ((((10 : Int32) * (σ 0 12)) + (P_X10_next σ)) - (48 : Int32)) ≤ v2 then (P_X10_takeNumber_b112 pk59 σ v1 v2 (0 : Int32)) else (P_X10_takeNumber_b112 pk59 σ v1 v2 (1 : Int32))))) else (P_X10_takeNumber_b172 σ v1)) n
def S_X10_takeNumber_b59 (n : Nat) : T2 → Int32 → Int32 → Prop := Nat.rec (motive := fun _ => T2 → Int32 → Int32 → Prop) (fun _ _ _ => False) (fun _ sk59 => fun σ v1 v2 => ((σ 0 11) = 0 → (((σ 0 12) ≤ 0 → (S_X10_takeNumber_b172 σ v1)) ∧ (¬ ((σ 0 12) ≤ 0) → ((S_X10_next σ ) ∧ ((S_X10_in (P_X10_next σ) (48 : Int32) (57 : Int32)) ∧ (((P_X10_in (P_X10_next σ) (48 : Int32) (57 : Int32)) = 0 → (S_X10_takeNumber_b172 σ v1)) ∧ (¬ ((P_X10_in (P_X10_next σ) (48 : Int32) (57 : Int32)) = 0) → ((S_X10_next σ ) ∧ ((((((10 : Int32) * (σ 0 12)) + (P_X10_next σ)) - (48 : Int32)) ≤ v2 → (S_X10_takeNumber_b112 sk59 σ v1 v2 (0 : Int32))) ∧ (¬ (((((10 : Int32) * (σ 0 12)) + (P_X10_next σ)) - (48 : Int32)) ≤ v2) → (S_X10_takeNumber_b112 sk59 σ v1 v2 (1 : Int32)))))))))))) ∧ (¬ ((σ 0 11) = 0) → (S_X10_takeNumber_b172 σ v1))) n
theorem P_X10_takeNumber_b59_e (n : Nat) (σ : T2) (v1 : Int32) (v2 : Int32) : P_X10_takeNumber_b59 (n + 1) σ v1 v2 = if (σ 0 11) = 0 then (if (σ 0 12) ≤ 0 then (P_X10_takeNumber_b172 σ v1) else (if (P_X10_in (P_X10_next σ) (48 : Int32) (57 : Int32)) = 0 then (P_X10_takeNumber_b172 σ v1) else (if ((((10 : Int32) * (σ 0 12)) + (P_X10_next σ)) - (48 : Int32)) ≤ v2 then (P_X10_takeNumber_b112 (P_X10_takeNumber_b59 n) σ v1 v2 (0 : Int32)) else (P_X10_takeNumber_b112 (P_X10_takeNumber_b59 n) σ v1 v2 (1 : Int32))))) else (P_X10_takeNumber_b172 σ v1) := rfl
theorem S_X10_takeNumber_b59_e (n : Nat) (σ : T2) (v1 : Int32) (v2 : Int32) : S_X10_takeNumber_b59 (n + 1) σ v1 v2 = (((σ 0 11) = 0 → (((σ 0 12) ≤ 0 → (S_X10_takeNumber_b172 σ v1)) ∧ (¬ ((σ 0 12) ≤ 0) → ((S_X10_next σ ) ∧ ((S_X10_in (P_X10_next σ) (48 : Int32) (57 : Int32)) ∧ (((P_X10_in (P_X10_next σ) (48 : Int32) (57 : Int32)) = 0 → (S_X10_takeNumber_b172 σ v1)) ∧ (¬ ((P_X10_in (P_X10_next σ) (48 : Int32) (57 : Int32)) = 0) → ((S_X10_next σ ) ∧ ((((((10 : Int32) * (σ 0 12)) + (P_X10_next σ)) - (48 : Int32)) ≤ v2 → (S_X10_takeNumber_b112 (S_X10_takeNumber_b59 n) σ v1 v2 (0 : Int32))) ∧ (¬ (((((10 : Int32) * (σ 0 12)) + (P_X10_next σ)) - (48 : Int32)) ≤ v2) → (S_X10_takeNumber_b112 (S_X10_takeNumber_b59 n) σ v1 v2 (1 : Int32)))))))))))) ∧ (¬ ((σ 0 11) = 0) → (S_X10_takeNumber_b172 σ v1))) := rfl
noncomputable def P_X10_takeNumber_b27 (σ : T2) (v1 : Int32) (v2 : Int32) (t0 : Int32) : T2 := if t0 = 0 then (P_X10_takeNumber_b59 FU (u2 σ 0 (upd (upd (upd (σ 0) 11 t0) 12 ((P_X10_next (u2 σ 0 (upd (σ 0) 11 t0))) - (48 : Int32))) 10 ((σ 0 10) + (1 : Int32)))) v1 v2) else (u2 σ 0 (upd (σ 0) 11 t0))
def S_X10_takeNumber_b27 (σ : T2) (v1 : Int32) (v2 : Int32) (t0 : Int32) : Prop := (t0 = 0 ∨ t0 = 1) ∧ ((t0 = 0 → ((S_X10_next (u2 σ 0 (upd (σ 0) 11 t0)) ) ∧ (S_X10_takeNumber_b59 FU (u2 σ 0 (upd (upd (upd (σ 0) 11 t0) 12 ((P_X10_next (u2 σ 0 (upd (σ 0) 11 t0))) - (48 : Int32))) 10 ((σ 0 10) + (1 : Int32)))) v1 v2))) ∧ (¬ (t0 = 0) → (True)))
theorem P_X10_takeNumber_b27_e (σ : T2) (v1 : Int32) (v2 : Int32) (t0 : Int32) : P_X10_takeNumber_b27 σ v1 v2 t0 = if t0 = 0 then (P_X10_takeNumber_b59 FU (u2 σ 0 (upd (upd (upd (σ 0) 11 t0) 12 ((P_X10_next (u2 σ 0 (upd (σ 0) 11 t0))) - (48 : Int32))) 10 ((σ 0 10) + (1 : Int32)))) v1 v2) else (u2 σ 0 (upd (σ 0) 11 t0)) := rfl
theorem S_X10_takeNumber_b27_e (σ : T2) (v1 : Int32) (v2 : Int32) (t0 : Int32) : S_X10_takeNumber_b27 σ v1 v2 t0 = ((t0 = 0 ∨ t0 = 1) ∧ ((t0 = 0 → ((S_X10_next (u2 σ 0 (upd (σ 0) 11 t0)) ) ∧ (S_X10_takeNumber_b59 FU (u2 σ 0 (upd (upd (upd (σ 0) 11 t0) 12 ((P_X10_next (u2 σ 0 (upd (σ 0) 11 t0))) - (48 : Int32))) 10 ((σ 0 10) + (1 : Int32)))) v1 v2))) ∧ (¬ (t0 = 0) → (True)))) := rfl
noncomputable def P_X10_takeNumber_b22 (σ : T2) (v1 : Int32) (v2 : Int32) : T2 := P_X10_takeNumber_b27 σ v1 v2 (1 : Int32)
def S_X10_takeNumber_b22 (σ : T2) (v1 : Int32) (v2 : Int32) : Prop := S_X10_takeNumber_b27 σ v1 v2 (1 : Int32)
theorem P_X10_takeNumber_b22_e (σ : T2) (v1 : Int32) (v2 : Int32) : P_X10_takeNumber_b22 σ v1 v2 = P_X10_takeNumber_b27 σ v1 v2 (1 : Int32) := rfl
theorem S_X10_takeNumber_b22_e (σ : T2) (v1 : Int32) (v2 : Int32) : S_X10_takeNumber_b22 σ v1 v2 = (S_X10_takeNumber_b27 σ v1 v2 (1 : Int32)) := rfl
noncomputable def P_X10_takeNumber_b0 (σ : T2) (v1 : Int32) (v2 : Int32) : T2 := if (σ 0 11) = 0 then (if (P_X10_in (P_X10_next σ) (48 : Int32) (57 : Int32)) = 0 then (P_X10_takeNumber_b22 σ v1 v2) else (P_X10_takeNumber_b27 σ v1 v2 (0 : Int32))) else (P_X10_takeNumber_b22 σ v1 v2)
def S_X10_takeNumber_b0 (σ : T2) (v1 : Int32) (v2 : Int32) : Prop := ((σ 0 11) = 0 → ((S_X10_next σ ) ∧ ((S_X10_in (P_X10_next σ) (48 : Int32) (57 : Int32)) ∧ (((P_X10_in (P_X10_next σ) (48 : Int32) (57 : Int32)) = 0 → (S_X10_takeNumber_b22 σ v1 v2)) ∧ (¬ ((P_X10_in (P_X10_next σ) (48 : Int32) (57 : Int32)) = 0) → (S_X10_takeNumber_b27 σ v1 v2 (0 : Int32))))))) ∧ (¬ ((σ 0 11) = 0) → (S_X10_takeNumber_b22 σ v1 v2))
theorem P_X10_takeNumber_b0_e (σ : T2) (v1 : Int32) (v2 : Int32) : P_X10_takeNumber_b0 σ v1 v2 = if (σ 0 11) = 0 then (if (P_X10_in (P_X10_next σ) (48 : Int32) (57 : Int32)) = 0 then (P_X10_takeNumber_b22 σ v1 v2) else (P_X10_takeNumber_b27 σ v1 v2 (0 : Int32))) else (P_X10_takeNumber_b22 σ v1 v2) := rfl
theorem S_X10_takeNumber_b0_e (σ : T2) (v1 : Int32) (v2 : Int32) : S_X10_takeNumber_b0 σ v1 v2 = (((σ 0 11) = 0 → ((S_X10_next σ ) ∧ ((S_X10_in (P_X10_next σ) (48 : Int32) (57 : Int32)) ∧ (((P_X10_in (P_X10_next σ) (48 : Int32) (57 : Int32)) = 0 → (S_X10_takeNumber_b22 σ v1 v2)) ∧ (¬ ((P_X10_in (P_X10_next σ) (48 : Int32) (57 : Int32)) = 0) → (S_X10_takeNumber_b27 σ v1 v2 (0 : Int32))))))) ∧ (¬ ((σ 0 11) = 0) → (S_X10_takeNumber_b22 σ v1 v2))) := rfl
noncomputable def P_X10_takeNumber (σ : T2) (p0 : Int32) (p1 : Int32) : T2 := P_X10_takeNumber_b0 σ p0 p1
def S_X10_takeNumber (σ : T2) (p0 : Int32) (p1 : Int32) : Prop := S_X10_takeNumber_b0 σ p0 p1
set_option maxHeartbeats 400000 in
set_option maxRecDepth 100000 in
theorem b_X10_takeNumber_b193 {p : Program} {e : Env} {s : State} {m : MethodId} {args : Array Value} {below : List Frame} {meth : Method} {c : Code} (l : Launch) (D : va_G) (k : Nat → ClassId) (a : Nat → Nat) (A : Nat → Prop) (C0 : q_C p s m meth c args RX10 cX10_takeNumber 3 none wsX10_takeNumber D (tyL k) A) (R : T2) : ∀ (σ : T2) (t0 : Int32), S_X10_takeNumber_b193 σ t0 → P_X10_takeNumber_b193 σ t0 = R → ∀ (H : Heap) (locs : List Loc) (ls : Array Slot), q_W D A s.heap (wX10 k a σ) H locs → lv_has ls 3 [] → W p l e { frames := 1, cells := 0, slots := 0, locals := 22 } s m args below meth c H locs 0 0 (MQ below (va_Qv (fun u => u = R) (fun u => q_E D (tyL k) A (wX10 k a u)) A) args s 0 0 A) (F0 m 193 ls [.int t0, .ref (a 0)]) := by
  intro σ t0 hs hR H locs ls hW hl
  rw [P_X10_takeNumber_b193_e] at hR
  rw [S_X10_takeNumber_b193_e] at hs
  obtain ⟨hx, hb, hr, hml, hts, hown, hlocks, hK, hA⟩ := id C0
  have hf148 := hts (.fieldLink RX10 148 "BeatFollowerModel" "isWrong" "Z") (by decide +kernel)
  have hinX10 : ∀ w ∈ u_ws RX10 TX10 18, w ∈ wsX10_takeNumber := hin_X10_takeNumber_X10
  have hz7 := hs.1
  have hs := hs.2
  refine q_putf (ty := .boolean) (wd' := wX10 k a (u2 σ 0 (upd (σ 0) 11 t0))) C0 hW hinX10 tyX10 tyX10_ok nmX10 0 rfl rfl 11 (by decide) hf148 rfl (by decide +kernel) (q_nb hz7) (q_fb hz7) (Nat.le_of_ble_eq_true rfl) dX10_takeNumber_193 (fX10_s11 _ _ _) (wX10_s0 k a _ _) (fun H locs hW => ?_)
  exact q_vret C0 hW hR dX10_takeNumber_196
set_option maxHeartbeats 400000 in
set_option maxRecDepth 100000 in
theorem b_X10_takeNumber_b188 {p : Program} {e : Env} {s : State} {m : MethodId} {args : Array Value} {below : List Frame} {meth : Method} {c : Code} (l : Launch) (D : va_G) (k : Nat → ClassId) (a : Nat → Nat) (A : Nat → Prop) (C0 : q_C p s m meth c args RX10 cX10_takeNumber 3 none wsX10_takeNumber D (tyL k) A) (R : T2) : ∀ (σ : T2), S_X10_takeNumber_b188 σ → P_X10_takeNumber_b188 σ = R → ∀ (H : Heap) (locs : List Loc) (ls : Array Slot), q_W D A s.heap (wX10 k a σ) H locs → lv_has ls 3 [] → W p l e { frames := 1, cells := 0, slots := 0, locals := 22 } s m args below meth c H locs 0 0 (MQ below (va_Qv (fun u => u = R) (fun u => q_E D (tyL k) A (wX10 k a u)) A) args s 0 0 A) (F0 m 188 ls [.ref (a 0)]) := by
  intro σ hs hR H locs ls hW hl
  rw [P_X10_takeNumber_b188_e] at hR
  rw [S_X10_takeNumber_b188_e] at hs
  obtain ⟨hx, hb, hr, hml, hts, hown, hlocks, hK, hA⟩ := id C0
  refine lv_iconst (v := (1 : Int32)) hx hb dX10_takeNumber_188 (by decide) ?_
  refine lv_goto (tgt := 193) hx hb dX10_takeNumber_189 (by decide) ?_
  exact b_X10_takeNumber_b193 l D k a A C0 R σ (1 : Int32) hs hR H locs ls hW (lv_sub hl [] rfl)
set_option maxHeartbeats 400000 in
set_option maxRecDepth 100000 in
theorem b_X10_takeNumber_b172 {p : Program} {e : Env} {s : State} {m : MethodId} {args : Array Value} {below : List Frame} {meth : Method} {c : Code} (l : Launch) (D : va_G) (k : Nat → ClassId) (a : Nat → Nat) (A : Nat → Prop) (C0 : q_C p s m meth c args RX10 cX10_takeNumber 3 none wsX10_takeNumber D (tyL k) A) (R : T2) : ∀ (σ : T2) (v1 : Int32), S_X10_takeNumber_b172 σ v1 → P_X10_takeNumber_b172 σ v1 = R → ∀ (H : Heap) (locs : List Loc) (ls : Array Slot), q_W D A s.heap (wX10 k a σ) H locs → lv_has ls 3 [(0, .ref (a 0)), (1, .int v1)] → W p l e { frames := 1, cells := 0, slots := 0, locals := 22 } s m args below meth c H locs 0 0 (MQ below (va_Qv (fun u => u = R) (fun u => q_E D (tyL k) A (wX10 k a u)) A) args s 0 0 A) (F0 m 172 ls []) := by
  intro σ v1 hs hR H locs ls hW hl
  rw [P_X10_takeNumber_b172_e] at hR
  rw [S_X10_takeNumber_b172_e] at hs
  obtain ⟨hx, hb, hr, hml, hts, hown, hlocks, hK, hA⟩ := id C0
  have hf148 := hts (.fieldLink RX10 148 "BeatFollowerModel" "isWrong" "Z") (by decide +kernel)
  have hf155 := hts (.fieldLink RX10 155 "BeatFollowerModel" "taken" "I") (by decide +kernel)
  have hinX10 : ∀ w ∈ u_ws RX10 TX10 18, w ∈ wsX10_takeNumber := hin_X10_takeNumber_X10
  refine lv_aload_n hx hb dX10_takeNumber_172 rfl (lv_at hl 0 rfl) ?_
  refine lv_aload_n hx hb dX10_takeNumber_173 rfl (lv_at hl 0 rfl) ?_
  refine va_get (v := .int (σ 0 11)) (C := RX10) (T := TX10) (N := 18) hx hb hts hinX10 hown hK hW.1 0 rfl rfl 11 (by decide) hf148 (fun _ h9 => h9) rfl dX10_takeNumber_174 ?_
  refine lv_if_ne (tgt := 188) hx hb dX10_takeNumber_177 (by decide) (fun c_6 => ?_) (fun c_6 => ?_)
  · have hs := hs.2 c_6
    rw [if_neg c_6] at hR
    exact b_X10_takeNumber_b188 l D k a A C0 R σ hs hR H locs ls hW (lv_sub hl [] rfl)
  · have hs := hs.1 c_6
    rw [if_pos c_6] at hR
    refine lv_aload_n hx hb dX10_takeNumber_180 rfl (lv_at hl 0 rfl) ?_
    refine va_get (v := .int (σ 0 12)) (C := RX10) (T := TX10) (N := 18) hx hb hts hinX10 hown hK hW.1 0 rfl rfl 12 (by decide) hf155 (fun _ h9 => h9) rfl dX10_takeNumber_181 ?_
    refine lv_iload_n hx hb dX10_takeNumber_184 rfl (lv_at hl 1 rfl) ?_
    refine lv_icmp_ge (tgt := 192) hx hb dX10_takeNumber_185 (by decide) (fun c_8 => ?_) (fun c_8 => ?_)
    · have hs := hs.1 c_8
      rw [if_pos c_8] at hR
      refine lv_iconst (v := (0 : Int32)) hx hb dX10_takeNumber_192 (by decide) ?_
      exact b_X10_takeNumber_b193 l D k a A C0 R σ (0 : Int32) hs hR H locs ls hW (lv_sub hl [] rfl)
    · have hs := hs.2 c_8
      rw [if_neg c_8] at hR
      exact b_X10_takeNumber_b188 l D k a A C0 R σ hs hR H locs ls hW (lv_sub hl [] rfl)
set_option maxHeartbeats 400000 in
set_option maxRecDepth 100000 in
theorem b_X10_takeNumber_b165 {p : Program} {e : Env} {s : State} {m : MethodId} {args : Array Value} {below : List Frame} {meth : Method} {c : Code} (l : Launch) (D : va_G) (k : Nat → ClassId) (a : Nat → Nat) (A : Nat → Prop) (C0 : q_C p s m meth c args RX10 cX10_takeNumber 3 none wsX10_takeNumber D (tyL k) A) (R : T2) (pk59 : T2 → Int32 → Int32 → T2) (sk59 : T2 → Int32 → Int32 → Prop) (hk59 : ∀ (σ : T2) (v1 : Int32) (v2 : Int32), sk59 σ v1 v2 → pk59 σ v1 v2 = R → ∀ (H : Heap) (locs : List Loc) (ls : Array Slot), q_W D A s.heap (wX10 k a σ) H locs → lv_has ls 3 [(0, .ref (a 0)), (1, .int v1), (2, .int v2)] → W p l e { frames := 1, cells := 0, slots := 0, locals := 22 } s m args below meth c H locs 0 0 (MQ below (va_Qv (fun u => u = R) (fun u => q_E D (tyL k) A (wX10 k a u)) A) args s 0 0 A) (F0 m 59 ls [])) : ∀ (σ : T2) (v1 : Int32) (v2 : Int32) (t0 : Int32) (t1 : Int32), S_X10_takeNumber_b165 sk59 σ v1 v2 t0 t1 → P_X10_takeNumber_b165 pk59 σ v1 v2 t0 t1 = R → ∀ (H : Heap) (locs : List Loc) (ls : Array Slot), q_W D A s.heap (wX10 k a σ) H locs → lv_has ls 3 [(0, .ref (a 0)), (1, .int v1), (2, .int v2)] → W p l e { frames := 1, cells := 0, slots := 0, locals := 22 } s m args below meth c H locs 0 0 (MQ below (va_Qv (fun u => u = R) (fun u => q_E D (tyL k) A (wX10 k a u)) A) args s 0 0 A) (F0 m 165 ls [.int t0, .int t1, .ref (a 0)]) := by
  intro σ v1 v2 t0 t1 hs hR H locs ls hW hl
  rw [P_X10_takeNumber_b165_e] at hR
  rw [S_X10_takeNumber_b165_e] at hs
  obtain ⟨hx, hb, hr, hml, hts, hown, hlocks, hK, hA⟩ := id C0
  have hf145 := hts (.fieldLink RX10 145 "BeatFollowerModel" "spot" "I") (by decide +kernel)
  have hinX10 : ∀ w ∈ u_ws RX10 TX10 18, w ∈ wsX10_takeNumber := hin_X10_takeNumber_X10
  refine lv_iadd hx hb dX10_takeNumber_165 ?_
  refine q_putf (ty := .int) (wd' := wX10 k a (u2 σ 0 (upd (σ 0) 10 (t1 + t0)))) C0 hW hinX10 tyX10 tyX10_ok nmX10 0 rfl rfl 10 (by decide) hf145 rfl (by decide +kernel) rfl rfl (Nat.le_of_ble_eq_true rfl) dX10_takeNumber_166 (fX10_s10 _ _ _) (wX10_s0 k a _ _) (fun H locs hW => ?_)
  refine lv_goto (tgt := 59) hx hb dX10_takeNumber_169 (by decide) ?_
  exact hk59 (u2 σ 0 (upd (σ 0) 10 (t1 + t0))) v1 v2 hs hR H locs ls hW (lv_sub hl [0, 1, 2] rfl)
set_option maxHeartbeats 400000 in
set_option maxRecDepth 100000 in
theorem b_X10_takeNumber_b145 {p : Program} {e : Env} {s : State} {m : MethodId} {args : Array Value} {below : List Frame} {meth : Method} {c : Code} (l : Launch) (D : va_G) (k : Nat → ClassId) (a : Nat → Nat) (A : Nat → Prop) (C0 : q_C p s m meth c args RX10 cX10_takeNumber 3 none wsX10_takeNumber D (tyL k) A) (R : T2) (pk59 : T2 → Int32 → Int32 → T2) (sk59 : T2 → Int32 → Int32 → Prop) (hk59 : ∀ (σ : T2) (v1 : Int32) (v2 : Int32), sk59 σ v1 v2 → pk59 σ v1 v2 = R → ∀ (H : Heap) (locs : List Loc) (ls : Array Slot), q_W D A s.heap (wX10 k a σ) H locs → lv_has ls 3 [(0, .ref (a 0)), (1, .int v1), (2, .int v2)] → W p l e { frames := 1, cells := 0, slots := 0, locals := 22 } s m args below meth c H locs 0 0 (MQ below (va_Qv (fun u => u = R) (fun u => q_E D (tyL k) A (wX10 k a u)) A) args s 0 0 A) (F0 m 59 ls [])) : ∀ (σ : T2) (v1 : Int32) (v2 : Int32) (t0 : Int32), S_X10_takeNumber_b145 sk59 σ v1 v2 t0 → P_X10_takeNumber_b145 pk59 σ v1 v2 t0 = R → ∀ (H : Heap) (locs : List Loc) (ls : Array Slot), q_W D A s.heap (wX10 k a σ) H locs → lv_has ls 3 [(0, .ref (a 0)), (1, .int v1), (2, .int v2)] → W p l e { frames := 1, cells := 0, slots := 0, locals := 22 } s m args below meth c H locs 0 0 (MQ below (va_Qv (fun u => u = R) (fun u => q_E D (tyL k) A (wX10 k a u)) A) args s 0 0 A) (F0 m 145 ls [.int t0, .ref (a 0)]) := by
  intro σ v1 v2 t0 hs hR H locs ls hW hl
  rw [P_X10_takeNumber_b145_e] at hR
  rw [S_X10_takeNumber_b145_e] at hs
  obtain ⟨hx, hb, hr, hml, hts, hown, hlocks, hK, hA⟩ := id C0
  have hf145 := hts (.fieldLink RX10 145 "BeatFollowerModel" "spot" "I") (by decide +kernel)
  have hf148 := hts (.fieldLink RX10 148 "BeatFollowerModel" "isWrong" "Z") (by decide +kernel)
  have hf155 := hts (.fieldLink RX10 155 "BeatFollowerModel" "taken" "I") (by decide +kernel)
  have hinX10 : ∀ w ∈ u_ws RX10 TX10 18, w ∈ wsX10_takeNumber := hin_X10_takeNumber_X10
  refine q_putf (ty := .int) (wd' := wX10 k a (u2 σ 0 (upd (σ 0) 12 t0))) C0 hW hinX10 tyX10 tyX10_ok nmX10 0 rfl rfl 12 (by decide) hf155 rfl (by decide +kernel) rfl rfl (Nat.le_of_ble_eq_true rfl) dX10_takeNumber_145 (fX10_s12 _ _ _) (wX10_s0 k a _ _) (fun H locs hW => ?_)
  refine lv_aload_n hx hb dX10_takeNumber_148 rfl (lv_at hl 0 rfl) ?_
  refine lv_dup hx hb dX10_takeNumber_149 rfl ?_
  refine va_get (v := .int (σ 0 10)) (C := RX10) (T := TX10) (N := 18) hx hb hts hinX10 hown hK hW.1 0 rfl rfl 10 (by decide) hf145 (fun _ h9 => h9) rfl dX10_takeNumber_150 ?_
  refine lv_aload_n hx hb dX10_takeNumber_153 rfl (lv_at hl 0 rfl) ?_
  refine va_get (v := .int (σ 0 11)) (C := RX10) (T := TX10) (N := 18) hx hb hts hinX10 hown hK hW.1 0 rfl rfl 11 (by decide) hf148 (fun _ h9 => h9) rfl dX10_takeNumber_154 ?_
  refine lv_if_eq (tgt := 164) hx hb dX10_takeNumber_157 (by decide) (fun c_18 => ?_) (fun c_18 => ?_)
  · have hs := hs.1 c_18
    rw [if_pos c_18] at hR
    refine lv_iconst (v := (1 : Int32)) hx hb dX10_takeNumber_164 (by decide) ?_
    exact b_X10_takeNumber_b165 l D k a A C0 R pk59 sk59 hk59 (u2 σ 0 (upd (σ 0) 12 t0)) v1 v2 (1 : Int32) (σ 0 10) hs hR H locs ls hW (lv_sub hl [0, 1, 2] rfl)
  · have hs := hs.2 c_18
    rw [if_neg c_18] at hR
    refine lv_iconst (v := (0 : Int32)) hx hb dX10_takeNumber_160 (by decide) ?_
    refine lv_goto (tgt := 165) hx hb dX10_takeNumber_161 (by decide) ?_
    exact b_X10_takeNumber_b165 l D k a A C0 R pk59 sk59 hk59 (u2 σ 0 (upd (σ 0) 12 t0)) v1 v2 (0 : Int32) (σ 0 10) hs hR H locs ls hW (lv_sub hl [0, 1, 2] rfl)
set_option maxHeartbeats 400000 in
set_option maxRecDepth 100000 in
theorem b_X10_takeNumber_b112 {p : Program} {e : Env} {s : State} {m : MethodId} {args : Array Value} {below : List Frame} {meth : Method} {c : Code} (l : Launch) (D : va_G) (k : Nat → ClassId) (a : Nat → Nat) (A : Nat → Prop) (C0 : q_C p s m meth c args RX10 cX10_takeNumber 3 none wsX10_takeNumber D (tyL k) A) (R : T2) (pk59 : T2 → Int32 → Int32 → T2) (sk59 : T2 → Int32 → Int32 → Prop) (hk59 : ∀ (σ : T2) (v1 : Int32) (v2 : Int32), sk59 σ v1 v2 → pk59 σ v1 v2 = R → ∀ (H : Heap) (locs : List Loc) (ls : Array Slot), q_W D A s.heap (wX10 k a σ) H locs → lv_has ls 3 [(0, .ref (a 0)), (1, .int v1), (2, .int v2)] → W p l e { frames := 1, cells := 0, slots := 0, locals := 22 } s m args below meth c H locs 0 0 (MQ below (va_Qv (fun u => u = R) (fun u => q_E D (tyL k) A (wX10 k a u)) A) args s 0 0 A) (F0 m 59 ls [])) : ∀ (σ : T2) (v1 : Int32) (v2 : Int32) (t0 : Int32), S_X10_takeNumber_b112 sk59 σ v1 v2 t0 → P_X10_takeNumber_b112 pk59 σ v1 v2 t0 = R → ∀ (H : Heap) (locs : List Loc) (ls : Array Slot), q_W D A s.heap (wX10 k a σ) H locs → lv_has ls 3 [(0, .ref (a 0)), (1, .int v1), (2, .int v2)] → W p l e { frames := 1, cells := 0, slots := 0, locals := 22 } s m args below meth c H locs 0 0 (MQ below (va_Qv (fun u => u = R) (fun u => q_E D (tyL k) A (wX10 k a u)) A) args s 0 0 A) (F0 m 112 ls [.int t0, .ref (a 0)]) := by
  intro σ v1 v2 t0 hs hR H locs ls hW hl
  rw [P_X10_takeNumber_b112_e] at hR
  rw [S_X10_takeNumber_b112_e] at hs
  obtain ⟨hx, hb, hr, hml, hts, hown, hlocks, hK, hA⟩ := id C0
  have hf148 := hts (.fieldLink RX10 148 "BeatFollowerModel" "isWrong" "Z") (by decide +kernel)
  have hf155 := hts (.fieldLink RX10 155 "BeatFollowerModel" "taken" "I") (by decide +kernel)
  have hinX10 : ∀ w ∈ u_ws RX10 TX10 18, w ∈ wsX10_takeNumber := hin_X10_takeNumber_X10
  have hz15 := hs.1
  have hs := hs.2
  refine q_putf (ty := .boolean) (wd' := wX10 k a (u2 σ 0 (upd (σ 0) 11 t0))) C0 hW hinX10 tyX10 tyX10_ok nmX10 0 rfl rfl 11 (by decide) hf148 rfl (by decide +kernel) (q_nb hz15) (q_fb hz15) (Nat.le_of_ble_eq_true rfl) dX10_takeNumber_112 (fX10_s11 _ _ _) (wX10_s0 k a _ _) (fun H locs hW => ?_)
  refine lv_aload_n hx hb dX10_takeNumber_115 rfl (lv_at hl 0 rfl) ?_
  refine lv_aload_n hx hb dX10_takeNumber_116 rfl (lv_at hl 0 rfl) ?_
  refine va_get (v := .int t0) (C := RX10) (T := TX10) (N := 18) hx hb hts hinX10 hown hK hW.1 0 rfl rfl 11 (by decide) hf148 (fun _ h9 => h9) rfl dX10_takeNumber_117 ?_
  refine lv_if_eq (tgt := 130) hx hb dX10_takeNumber_120 (by decide) (fun c_16 => ?_) (fun c_16 => ?_)
  · have hs := hs.1 c_16
    rw [if_pos c_16] at hR
    refine lv_bipush (v := (10 : Int32)) hx hb dX10_takeNumber_130 (by decide) ?_
    refine lv_aload_n hx hb dX10_takeNumber_132 rfl (lv_at hl 0 rfl) ?_
    refine va_get (v := .int (σ 0 12)) (C := RX10) (T := TX10) (N := 18) hx hb hts hinX10 hown hK hW.1 0 rfl rfl 12 (by decide) hf155 (fun _ h9 => h9) rfl dX10_takeNumber_133 ?_
    refine lv_imul hx hb dX10_takeNumber_136 ?_
    refine lv_aload_n hx hb dX10_takeNumber_137 rfl (lv_at hl 0 rfl) ?_
    have hs17 := hs.1
    have hs := hs.2
    refine q_Vi (As := []) (rest := [.int ((10 : Int32) * (σ 0 12)), .ref (a 0)]) (R := P_X10_next (u2 σ 0 (upd (σ 0) 11 t0))) [0, 1, 2, 3, 4, 5, 6, 7, 8] [0, 1, 2, 3] 0 10 C0 hW (m_X10_next l D k a _ (u2 σ 0 (upd (σ 0) 11 t0))  hs17) (cwV 0 hts gX10_takeNumber_X10_next rfl rfl rfl hd_X10_next ⟨Nat.le_of_ble_eq_true rfl, Nat.le_of_ble_eq_true rfl⟩) (by decide) (wX10_pl k a _) rfl (wX10_rec k a _) rfl hl rfl rfl (Nat.le_of_ble_eq_true rfl) dX10_takeNumber_138 ⟨Nat.le_refl 0, Nat.le_refl 0⟩ ?_
    refine lv_iadd hx hb dX10_takeNumber_141 ?_
    refine lv_bipush (v := (48 : Int32)) hx hb dX10_takeNumber_142 (by decide) ?_
    refine lv_isub hx hb dX10_takeNumber_144 ?_
    exact b_X10_takeNumber_b145 l D k a A C0 R pk59 sk59 hk59 (u2 σ 0 (upd (σ 0) 11 t0)) v1 v2 ((((10 : Int32) * (σ 0 12)) + (P_X10_next (u2 σ 0 (upd (σ 0) 11 t0)))) - (48 : Int32)) hs hR H locs ls hW (lv_sub hl [0, 1, 2] rfl)
  · have hs := hs.2 c_16
    rw [if_neg c_16] at hR
    refine lv_aload_n hx hb dX10_takeNumber_123 rfl (lv_at hl 0 rfl) ?_
    refine va_get (v := .int (σ 0 12)) (C := RX10) (T := TX10) (N := 18) hx hb hts hinX10 hown hK hW.1 0 rfl rfl 12 (by decide) hf155 (fun _ h9 => h9) rfl dX10_takeNumber_124 ?_
    refine lv_goto (tgt := 145) hx hb dX10_takeNumber_127 (by decide) ?_
    exact b_X10_takeNumber_b145 l D k a A C0 R pk59 sk59 hk59 (u2 σ 0 (upd (σ 0) 11 t0)) v1 v2 (σ 0 12) hs hR H locs ls hW (lv_sub hl [0, 1, 2] rfl)
set_option maxHeartbeats 400000 in
set_option maxRecDepth 100000 in
theorem b_X10_takeNumber_b59 {p : Program} {e : Env} {s : State} {m : MethodId} {args : Array Value} {below : List Frame} {meth : Method} {c : Code} (l : Launch) (D : va_G) (k : Nat → ClassId) (a : Nat → Nat) (A : Nat → Prop) (C0 : q_C p s m meth c args RX10 cX10_takeNumber 3 none wsX10_takeNumber D (tyL k) A) (R : T2) : ∀ n : Nat, ∀ (σ : T2) (v1 : Int32) (v2 : Int32), S_X10_takeNumber_b59 n σ v1 v2 → P_X10_takeNumber_b59 n σ v1 v2 = R → ∀ (H : Heap) (locs : List Loc) (ls : Array Slot), q_W D A s.heap (wX10 k a σ) H locs → lv_has ls 3 [(0, .ref (a 0)), (1, .int v1), (2, .int v2)] → W p l e { frames := 1, cells := 0, slots := 0, locals := 22 } s m args below meth c H locs 0 0 (MQ below (va_Qv (fun u => u = R) (fun u => q_E D (tyL k) A (wX10 k a u)) A) args s 0 0 A) (F0 m 59 ls []) := by
  intro n
  induction n with
  | zero => intro σ v1 v2 hs; exact False.elim hs
  | succ n ih =>
    intro σ v1 v2 hs hR H locs ls hW hl
    rw [P_X10_takeNumber_b59_e] at hR
    rw [S_X10_takeNumber_b59_e] at hs
    obtain ⟨hx, hb, hr, hml, hts, hown, hlocks, hK, hA⟩ := id C0
    have hf148 := hts (.fieldLink RX10 148 "BeatFollowerModel" "isWrong" "Z") (by decide +kernel)
    have hf155 := hts (.fieldLink RX10 155 "BeatFollowerModel" "taken" "I") (by decide +kernel)
    have hinX10 : ∀ w ∈ u_ws RX10 TX10 18, w ∈ wsX10_takeNumber := hin_X10_takeNumber_X10
    refine lv_aload_n hx hb dX10_takeNumber_59 rfl (lv_at hl 0 rfl) ?_
    refine va_get (v := .int (σ 0 11)) (C := RX10) (T := TX10) (N := 18) hx hb hts hinX10 hown hK hW.1 0 rfl rfl 11 (by decide) hf148 (fun _ h9 => h9) rfl dX10_takeNumber_60 ?_
    refine lv_if_ne (tgt := 172) hx hb dX10_takeNumber_63 (by decide) (fun c_5 => ?_) (fun c_5 => ?_)
    · have hs := hs.2 c_5
      rw [if_neg c_5] at hR
      exact b_X10_takeNumber_b172 l D k a A C0 R σ v1 hs hR H locs ls hW (lv_sub hl [0, 1] rfl)
    · have hs := hs.1 c_5
      rw [if_pos c_5] at hR
      refine lv_aload_n hx hb dX10_takeNumber_66 rfl (lv_at hl 0 rfl) ?_
      refine va_get (v := .int (σ 0 12)) (C := RX10) (T := TX10) (N := 18) hx hb hts hinX10 hown hK hW.1 0 rfl rfl 12 (by decide) hf155 (fun _ h9 => h9) rfl dX10_takeNumber_67 ?_
      refine lv_if_le (tgt := 172) hx hb dX10_takeNumber_70 (by decide) (fun c_9 => ?_) (fun c_9 => ?_)
      · have hs := hs.1 c_9
        rw [if_pos c_9] at hR
        exact b_X10_takeNumber_b172 l D k a A C0 R σ v1 hs hR H locs ls hW (lv_sub hl [0, 1] rfl)
      · have hs := hs.2 c_9
        rw [if_neg c_9] at hR
        refine lv_aload_n hx hb dX10_takeNumber_73 rfl (lv_at hl 0 rfl) ?_
        have hs10 := hs.1
        have hs := hs.2
        refine q_Vi (As := []) (rest := []) (R := P_X10_next σ) [0, 1, 2, 3, 4, 5, 6, 7, 8] [0, 1, 2, 3] 0 10 C0 hW (m_X10_next l D k a _ σ  hs10) (cwV 0 hts gX10_takeNumber_X10_next rfl rfl rfl hd_X10_next ⟨Nat.le_of_ble_eq_true rfl, Nat.le_of_ble_eq_true rfl⟩) (by decide) (wX10_pl k a _) rfl (wX10_rec k a _) rfl hl rfl rfl (Nat.le_of_ble_eq_true rfl) dX10_takeNumber_74 ⟨Nat.le_refl 0, Nat.le_refl 0⟩ ?_
        refine lv_bipush (v := (48 : Int32)) hx hb dX10_takeNumber_77 (by decide) ?_
        refine lv_bipush (v := (57 : Int32)) hx hb dX10_takeNumber_79 (by decide) ?_
        have hs11 := hs.1
        have hs := hs.2
        refine q_Si (As := [.int (P_X10_next σ), .int (48 : Int32), .int (57 : Int32)]) (rest := []) (R := P_X10_in (P_X10_next σ) (48 : Int32) (57 : Int32)) ⟨hx, hb, hml, hown, hts⟩ (m_X10_in l (P_X10_next σ) (48 : Int32) (57 : Int32) hs11) (va_cwS 3 hts gX10_takeNumber_X10_in rfl rfl rfl hd_X10_in ⟨Nat.le_of_ble_eq_true rfl, Nat.le_of_ble_eq_true rfl⟩) hl rfl rfl (Nat.le_of_ble_eq_true rfl) dX10_takeNumber_81 ⟨Nat.le_refl 0, Nat.le_refl 0⟩ ?_
        refine lv_if_eq (tgt := 172) hx hb dX10_takeNumber_84 (by decide) (fun c_12 => ?_) (fun c_12 => ?_)
        · have hs := hs.1 c_12
          rw [if_pos c_12] at hR
          exact b_X10_takeNumber_b172 l D k a A C0 R σ v1 hs hR H locs ls hW (lv_sub hl [0, 1] rfl)
        · have hs := hs.2 c_12
          rw [if_neg c_12] at hR
          refine lv_aload_n hx hb dX10_takeNumber_87 rfl (lv_at hl 0 rfl) ?_
          refine lv_bipush (v := (10 : Int32)) hx hb dX10_takeNumber_88 (by decide) ?_
          refine lv_aload_n hx hb dX10_takeNumber_90 rfl (lv_at hl 0 rfl) ?_
          refine va_get (v := .int (σ 0 12)) (C := RX10) (T := TX10) (N := 18) hx hb hts hinX10 hown hK hW.1 0 rfl rfl 12 (by decide) hf155 (fun _ h9 => h9) rfl dX10_takeNumber_91 ?_
          refine lv_imul hx hb dX10_takeNumber_94 ?_
          refine lv_aload_n hx hb dX10_takeNumber_95 rfl (lv_at hl 0 rfl) ?_
          have hs13 := hs.1
          have hs := hs.2
          refine q_Vi (As := []) (rest := [.int ((10 : Int32) * (σ 0 12)), .ref (a 0)]) (R := P_X10_next σ) [0, 1, 2, 3, 4, 5, 6, 7, 8] [0, 1, 2, 3] 0 10 C0 hW (m_X10_next l D k a _ σ  hs13) (cwV 0 hts gX10_takeNumber_X10_next rfl rfl rfl hd_X10_next ⟨Nat.le_of_ble_eq_true rfl, Nat.le_of_ble_eq_true rfl⟩) (by decide) (wX10_pl k a _) rfl (wX10_rec k a _) rfl hl rfl rfl (Nat.le_of_ble_eq_true rfl) dX10_takeNumber_96 ⟨Nat.le_refl 0, Nat.le_refl 0⟩ ?_
          refine lv_iadd hx hb dX10_takeNumber_99 ?_
          refine lv_bipush (v := (48 : Int32)) hx hb dX10_takeNumber_100 (by decide) ?_
          refine lv_isub hx hb dX10_takeNumber_102 ?_
          refine lv_iload_n hx hb dX10_takeNumber_103 rfl (lv_at hl 2 rfl) ?_
          refine lv_icmp_le (tgt := 111) hx hb dX10_takeNumber_104 (by decide) (fun c_14 => ?_) (fun c_14 => ?_)
          · have hs := hs.1 c_14
            rw [if_pos c_14] at hR
            refine lv_iconst (v := (0 : Int32)) hx hb dX10_takeNumber_111 (by decide) ?_
            exact b_X10_takeNumber_b112 l D k a A C0 R _ _ ih σ v1 v2 (0 : Int32) hs hR H locs ls hW (lv_sub hl [0, 1, 2] rfl)
          · have hs := hs.2 c_14
            rw [if_neg c_14] at hR
            refine lv_iconst (v := (1 : Int32)) hx hb dX10_takeNumber_107 (by decide) ?_
            refine lv_goto (tgt := 112) hx hb dX10_takeNumber_108 (by decide) ?_
            exact b_X10_takeNumber_b112 l D k a A C0 R _ _ ih σ v1 v2 (1 : Int32) hs hR H locs ls hW (lv_sub hl [0, 1, 2] rfl)
set_option maxHeartbeats 400000 in
set_option maxRecDepth 100000 in
theorem b_X10_takeNumber_b27 {p : Program} {e : Env} {s : State} {m : MethodId} {args : Array Value} {below : List Frame} {meth : Method} {c : Code} (l : Launch) (D : va_G) (k : Nat → ClassId) (a : Nat → Nat) (A : Nat → Prop) (C0 : q_C p s m meth c args RX10 cX10_takeNumber 3 none wsX10_takeNumber D (tyL k) A) (R : T2) : ∀ (σ : T2) (v1 : Int32) (v2 : Int32) (t0 : Int32), S_X10_takeNumber_b27 σ v1 v2 t0 → P_X10_takeNumber_b27 σ v1 v2 t0 = R → ∀ (H : Heap) (locs : List Loc) (ls : Array Slot), q_W D A s.heap (wX10 k a σ) H locs → lv_has ls 3 [(0, .ref (a 0)), (1, .int v1), (2, .int v2)] → W p l e { frames := 1, cells := 0, slots := 0, locals := 22 } s m args below meth c H locs 0 0 (MQ below (va_Qv (fun u => u = R) (fun u => q_E D (tyL k) A (wX10 k a u)) A) args s 0 0 A) (F0 m 27 ls [.int t0, .ref (a 0)]) := by
  intro σ v1 v2 t0 hs hR H locs ls hW hl
  rw [P_X10_takeNumber_b27_e] at hR
  rw [S_X10_takeNumber_b27_e] at hs
  obtain ⟨hx, hb, hr, hml, hts, hown, hlocks, hK, hA⟩ := id C0
  have hf145 := hts (.fieldLink RX10 145 "BeatFollowerModel" "spot" "I") (by decide +kernel)
  have hf148 := hts (.fieldLink RX10 148 "BeatFollowerModel" "isWrong" "Z") (by decide +kernel)
  have hf155 := hts (.fieldLink RX10 155 "BeatFollowerModel" "taken" "I") (by decide +kernel)
  have hinX10 : ∀ w ∈ u_ws RX10 TX10 18, w ∈ wsX10_takeNumber := hin_X10_takeNumber_X10
  have hz2 := hs.1
  have hs := hs.2
  refine q_putf (ty := .boolean) (wd' := wX10 k a (u2 σ 0 (upd (σ 0) 11 t0))) C0 hW hinX10 tyX10 tyX10_ok nmX10 0 rfl rfl 11 (by decide) hf148 rfl (by decide +kernel) (q_nb hz2) (q_fb hz2) (Nat.le_of_ble_eq_true rfl) dX10_takeNumber_27 (fX10_s11 _ _ _) (wX10_s0 k a _ _) (fun H locs hW => ?_)
  refine lv_aload_n hx hb dX10_takeNumber_30 rfl (lv_at hl 0 rfl) ?_
  refine va_get (v := .int t0) (C := RX10) (T := TX10) (N := 18) hx hb hts hinX10 hown hK hW.1 0 rfl rfl 11 (by decide) hf148 (fun _ h9 => h9) rfl dX10_takeNumber_31 ?_
  refine lv_if_eq (tgt := 38) hx hb dX10_takeNumber_34 (by decide) (fun c_3 => ?_) (fun c_3 => ?_)
  · have hs := hs.1 c_3
    rw [if_pos c_3] at hR
    refine lv_aload_n hx hb dX10_takeNumber_38 rfl (lv_at hl 0 rfl) ?_
    refine lv_aload_n hx hb dX10_takeNumber_39 rfl (lv_at hl 0 rfl) ?_
    have hs4 := hs.1
    have hs := hs.2
    refine q_Vi (As := []) (rest := [.ref (a 0)]) (R := P_X10_next (u2 σ 0 (upd (σ 0) 11 t0))) [0, 1, 2, 3, 4, 5, 6, 7, 8] [0, 1, 2, 3] 0 10 C0 hW (m_X10_next l D k a _ (u2 σ 0 (upd (σ 0) 11 t0))  hs4) (cwV 0 hts gX10_takeNumber_X10_next rfl rfl rfl hd_X10_next ⟨Nat.le_of_ble_eq_true rfl, Nat.le_of_ble_eq_true rfl⟩) (by decide) (wX10_pl k a _) rfl (wX10_rec k a _) rfl hl rfl rfl (Nat.le_of_ble_eq_true rfl) dX10_takeNumber_40 ⟨Nat.le_refl 0, Nat.le_refl 0⟩ ?_
    refine lv_bipush (v := (48 : Int32)) hx hb dX10_takeNumber_43 (by decide) ?_
    refine lv_isub hx hb dX10_takeNumber_45 ?_
    refine q_putf (ty := .int) (wd' := wX10 k a (u2 σ 0 (upd (upd (σ 0) 11 t0) 12 ((P_X10_next (u2 σ 0 (upd (σ 0) 11 t0))) - (48 : Int32))))) C0 hW hinX10 tyX10 tyX10_ok nmX10 0 rfl rfl 12 (by decide) hf155 rfl (by decide +kernel) rfl rfl (Nat.le_of_ble_eq_true rfl) dX10_takeNumber_46 (fX10_s12 _ _ _) ((wX10_s0 k a _ _).trans (congrArg (wX10 k a) (u2_same _ _ _ _))) (fun H locs hW => ?_)
    refine lv_aload_n hx hb dX10_takeNumber_49 rfl (lv_at hl 0 rfl) ?_
    refine lv_dup hx hb dX10_takeNumber_50 rfl ?_
    refine va_get (v := .int (σ 0 10)) (C := RX10) (T := TX10) (N := 18) hx hb hts hinX10 hown hK hW.1 0 rfl rfl 10 (by decide) hf145 (fun _ h9 => h9) rfl dX10_takeNumber_51 ?_
    refine lv_iconst (v := (1 : Int32)) hx hb dX10_takeNumber_54 (by decide) ?_
    refine lv_iadd hx hb dX10_takeNumber_55 ?_
    refine q_putf (ty := .int) (wd' := wX10 k a (u2 σ 0 (upd (upd (upd (σ 0) 11 t0) 12 ((P_X10_next (u2 σ 0 (upd (σ 0) 11 t0))) - (48 : Int32))) 10 ((σ 0 10) + (1 : Int32))))) C0 hW hinX10 tyX10 tyX10_ok nmX10 0 rfl rfl 10 (by decide) hf145 rfl (by decide +kernel) rfl rfl (Nat.le_of_ble_eq_true rfl) dX10_takeNumber_56 (fX10_s10 _ _ _) ((wX10_s0 k a _ _).trans (congrArg (wX10 k a) (u2_same _ _ _ _))) (fun H locs hW => ?_)
    exact b_X10_takeNumber_b59 l D k a A C0 R FU (u2 σ 0 (upd (upd (upd (σ 0) 11 t0) 12 ((P_X10_next (u2 σ 0 (upd (σ 0) 11 t0))) - (48 : Int32))) 10 ((σ 0 10) + (1 : Int32)))) v1 v2 hs hR H locs ls hW (lv_sub hl [0, 1, 2] rfl)
  · have hs := hs.2 c_3
    rw [if_neg c_3] at hR
    exact q_vret C0 hW hR dX10_takeNumber_37
set_option maxHeartbeats 400000 in
set_option maxRecDepth 100000 in
theorem b_X10_takeNumber_b22 {p : Program} {e : Env} {s : State} {m : MethodId} {args : Array Value} {below : List Frame} {meth : Method} {c : Code} (l : Launch) (D : va_G) (k : Nat → ClassId) (a : Nat → Nat) (A : Nat → Prop) (C0 : q_C p s m meth c args RX10 cX10_takeNumber 3 none wsX10_takeNumber D (tyL k) A) (R : T2) : ∀ (σ : T2) (v1 : Int32) (v2 : Int32), S_X10_takeNumber_b22 σ v1 v2 → P_X10_takeNumber_b22 σ v1 v2 = R → ∀ (H : Heap) (locs : List Loc) (ls : Array Slot), q_W D A s.heap (wX10 k a σ) H locs → lv_has ls 3 [(0, .ref (a 0)), (1, .int v1), (2, .int v2)] → W p l e { frames := 1, cells := 0, slots := 0, locals := 22 } s m args below meth c H locs 0 0 (MQ below (va_Qv (fun u => u = R) (fun u => q_E D (tyL k) A (wX10 k a u)) A) args s 0 0 A) (F0 m 22 ls [.ref (a 0)]) := by
  intro σ v1 v2 hs hR H locs ls hW hl
  rw [P_X10_takeNumber_b22_e] at hR
  rw [S_X10_takeNumber_b22_e] at hs
  obtain ⟨hx, hb, hr, hml, hts, hown, hlocks, hK, hA⟩ := id C0
  refine lv_iconst (v := (1 : Int32)) hx hb dX10_takeNumber_22 (by decide) ?_
  refine lv_goto (tgt := 27) hx hb dX10_takeNumber_23 (by decide) ?_
  exact b_X10_takeNumber_b27 l D k a A C0 R σ v1 v2 (1 : Int32) hs hR H locs ls hW (lv_sub hl [0, 1, 2] rfl)
set_option maxHeartbeats 400000 in
set_option maxRecDepth 100000 in
theorem b_X10_takeNumber_b0 {p : Program} {e : Env} {s : State} {m : MethodId} {args : Array Value} {below : List Frame} {meth : Method} {c : Code} (l : Launch) (D : va_G) (k : Nat → ClassId) (a : Nat → Nat) (A : Nat → Prop) (C0 : q_C p s m meth c args RX10 cX10_takeNumber 3 none wsX10_takeNumber D (tyL k) A) (R : T2) : ∀ (σ : T2) (v1 : Int32) (v2 : Int32), S_X10_takeNumber_b0 σ v1 v2 → P_X10_takeNumber_b0 σ v1 v2 = R → ∀ (H : Heap) (locs : List Loc) (ls : Array Slot), q_W D A s.heap (wX10 k a σ) H locs → lv_has ls 3 [(0, .ref (a 0)), (1, .int v1), (2, .int v2)] → W p l e { frames := 1, cells := 0, slots := 0, locals := 22 } s m args below meth c H locs 0 0 (MQ below (va_Qv (fun u => u = R) (fun u => q_E D (tyL k) A (wX10 k a u)) A) args s 0 0 A) (F0 m 0 ls []) := by
  intro σ v1 v2 hs hR H locs ls hW hl
  rw [P_X10_takeNumber_b0_e] at hR
  rw [S_X10_takeNumber_b0_e] at hs
  obtain ⟨hx, hb, hr, hml, hts, hown, hlocks, hK, hA⟩ := id C0
  have hf148 := hts (.fieldLink RX10 148 "BeatFollowerModel" "isWrong" "Z") (by decide +kernel)
  have hinX10 : ∀ w ∈ u_ws RX10 TX10 18, w ∈ wsX10_takeNumber := hin_X10_takeNumber_X10
  refine lv_aload_n hx hb dX10_takeNumber_0 rfl (lv_at hl 0 rfl) ?_
  refine lv_aload_n hx hb dX10_takeNumber_1 rfl (lv_at hl 0 rfl) ?_
  refine va_get (v := .int (σ 0 11)) (C := RX10) (T := TX10) (N := 18) hx hb hts hinX10 hown hK hW.1 0 rfl rfl 11 (by decide) hf148 (fun _ h9 => h9) rfl dX10_takeNumber_2 ?_
  refine lv_if_ne (tgt := 22) hx hb dX10_takeNumber_5 (by decide) (fun c_1 => ?_) (fun c_1 => ?_)
  · have hs := hs.2 c_1
    rw [if_neg c_1] at hR
    exact b_X10_takeNumber_b22 l D k a A C0 R σ v1 v2 hs hR H locs ls hW (lv_sub hl [0, 1, 2] rfl)
  · have hs := hs.1 c_1
    rw [if_pos c_1] at hR
    refine lv_aload_n hx hb dX10_takeNumber_8 rfl (lv_at hl 0 rfl) ?_
    have hs19 := hs.1
    have hs := hs.2
    refine q_Vi (As := []) (rest := [.ref (a 0)]) (R := P_X10_next σ) [0, 1, 2, 3, 4, 5, 6, 7, 8] [0, 1, 2, 3] 0 10 C0 hW (m_X10_next l D k a _ σ  hs19) (cwV 0 hts gX10_takeNumber_X10_next rfl rfl rfl hd_X10_next ⟨Nat.le_of_ble_eq_true rfl, Nat.le_of_ble_eq_true rfl⟩) (by decide) (wX10_pl k a _) rfl (wX10_rec k a _) rfl hl rfl rfl (Nat.le_of_ble_eq_true rfl) dX10_takeNumber_9 ⟨Nat.le_refl 0, Nat.le_refl 0⟩ ?_
    refine lv_bipush (v := (48 : Int32)) hx hb dX10_takeNumber_12 (by decide) ?_
    refine lv_bipush (v := (57 : Int32)) hx hb dX10_takeNumber_14 (by decide) ?_
    have hs20 := hs.1
    have hs := hs.2
    refine q_Si (As := [.int (P_X10_next σ), .int (48 : Int32), .int (57 : Int32)]) (rest := [.ref (a 0)]) (R := P_X10_in (P_X10_next σ) (48 : Int32) (57 : Int32)) ⟨hx, hb, hml, hown, hts⟩ (m_X10_in l (P_X10_next σ) (48 : Int32) (57 : Int32) hs20) (va_cwS 3 hts gX10_takeNumber_X10_in rfl rfl rfl hd_X10_in ⟨Nat.le_of_ble_eq_true rfl, Nat.le_of_ble_eq_true rfl⟩) hl rfl rfl (Nat.le_of_ble_eq_true rfl) dX10_takeNumber_16 ⟨Nat.le_refl 0, Nat.le_refl 0⟩ ?_
    refine lv_if_ne (tgt := 26) hx hb dX10_takeNumber_19 (by decide) (fun c_21 => ?_) (fun c_21 => ?_)
    · have hs := hs.2 c_21
      rw [if_neg c_21] at hR
      refine lv_iconst (v := (0 : Int32)) hx hb dX10_takeNumber_26 (by decide) ?_
      exact b_X10_takeNumber_b27 l D k a A C0 R σ v1 v2 (0 : Int32) hs hR H locs ls hW (lv_sub hl [0, 1, 2] rfl)
    · have hs := hs.1 c_21
      rw [if_pos c_21] at hR
      exact b_X10_takeNumber_b22 l D k a A C0 R σ v1 v2 hs hR H locs ls hW (lv_sub hl [0, 1, 2] rfl)
set_option maxHeartbeats 400000 in
set_option maxRecDepth 100000 in
theorem m_X10_takeNumber (l : Launch) (D : va_G) (k : Nat → ClassId) (a : Nat → Nat) (sz : Nat) (σ : T2) (p0 : Int32) (p1 : Int32) (hs : S_X10_takeNumber σ p0 p1) : Met l yX10_takeNumber wsX10_takeNumber { frames := 1, cells := 0, slots := 0, locals := 22 } (va_Pc [.ref (a 0), .int p0, .int p1] (q_B D (tyL k) (wX10 k a σ) sz)) (va_Qv (fun u => u = P_X10_takeNumber σ p0 p1) (fun u => q_E D (tyL k) (va_A (wX10 k a σ) sz) (wX10 k a u)) (va_A (wX10 k a σ) sz)) 0 0 (va_A (wX10 k a σ) sz) := by
  refine q_met [.ref (a 0), .int p0, .int p1] (wX10 k a σ) sz (cc := cX10_takeNumber) (maxL := 3) (ret := none) (by decide) rfl (Nat.le_of_ble_eq_true rfl) ?_
  intro p e s m args below meth c ls hsz C0 hW hl hin
  subst hsz
  exact b_X10_takeNumber_b0 l D k a _ C0 _ σ p0 p1 hs rfl s.heap [] ls hW (lv_sub hl [0, 1, 2] rfl)
theorem hin_X10_enterBeat_X10 : ∀ w ∈ u_ws RX10 TX10 18, w ∈ wsX10_enterBeat := by decide +kernel
theorem hd_X10_enterBeat : yX10_enterBeat.cls = RX10 ∧ yX10_enterBeat.cls ≠ "java/lang/invoke/MethodHandle" ∧ yX10_enterBeat.cls ≠ "java/lang/invoke/VarHandle" ∧ (parseMethodDescriptor yX10_enterBeat.desc).map (fun d => d.parameters.length) = some 1 := by decide +kernel
noncomputable def P_X10_enterBeat_b37 (σ : T2) : T2 := u2 σ 0 (upd (upd (upd (σ 0) 13 ((σ 0 13) + (1 : Int32))) 14 (0 : Int32)) 15 (0 : Int32))
def S_X10_enterBeat_b37 (σ : T2) : Prop := True
theorem P_X10_enterBeat_b37_e (σ : T2) : P_X10_enterBeat_b37 σ = u2 σ 0 (upd (upd (upd (σ 0) 13 ((σ 0 13) + (1 : Int32))) 14 (0 : Int32)) 15 (0 : Int32)) := rfl
theorem S_X10_enterBeat_b37_e (σ : T2) : S_X10_enterBeat_b37 σ = (True) := rfl
noncomputable def P_X10_enterBeat_b0 (σ : T2) (v1 : Int32) : T2 := if (65 : Int32) ≤ (σ 0 13) then (P_X10_enterBeat_b37 σ) else (P_X10_enterBeat_b37 (u2 (u2 σ 7 (upd (σ 7) ((σ 0 13).toNatClampNeg) (v1 + (σ 0 14)))) 8 (upd (σ 8) ((σ 0 13).toNatClampNeg) (σ 0 15))))
def S_X10_enterBeat_b0 (σ : T2) (v1 : Int32) : Prop := ((65 : Int32) ≤ (σ 0 13) → (S_X10_enterBeat_b37 σ)) ∧ (¬ ((65 : Int32) ≤ (σ 0 13)) → ((vp_in (σ 0 13) 65) ∧ ((vp_in (σ 0 13) 65) ∧ (S_X10_enterBeat_b37 (u2 (u2 σ 7 (upd (σ 7) ((σ 0 13).toNatClampNeg) (v1 + (σ 0 14)))) 8 (upd (σ 8) ((σ 0 13).toNatClampNeg) (σ 0 15)))))))
theorem P_X10_enterBeat_b0_e (σ : T2) (v1 : Int32) : P_X10_enterBeat_b0 σ v1 = if (65 : Int32) ≤ (σ 0 13) then (P_X10_enterBeat_b37 σ) else (P_X10_enterBeat_b37 (u2 (u2 σ 7 (upd (σ 7) ((σ 0 13).toNatClampNeg) (v1 + (σ 0 14)))) 8 (upd (σ 8) ((σ 0 13).toNatClampNeg) (σ 0 15)))) := rfl
theorem S_X10_enterBeat_b0_e (σ : T2) (v1 : Int32) : S_X10_enterBeat_b0 σ v1 = (((65 : Int32) ≤ (σ 0 13) → (S_X10_enterBeat_b37 σ)) ∧ (¬ ((65 : Int32) ≤ (σ 0 13)) → ((vp_in (σ 0 13) 65) ∧ ((vp_in (σ 0 13) 65) ∧ (S_X10_enterBeat_b37 (u2 (u2 σ 7 (upd (σ 7) ((σ 0 13).toNatClampNeg) (v1 + (σ 0 14)))) 8 (upd (σ 8) ((σ 0 13).toNatClampNeg) (σ 0 15)))))))) := rfl
noncomputable def P_X10_enterBeat (σ : T2) (p0 : Int32) : T2 := P_X10_enterBeat_b0 σ p0
def S_X10_enterBeat (σ : T2) (p0 : Int32) : Prop := S_X10_enterBeat_b0 σ p0
set_option maxHeartbeats 400000 in
set_option maxRecDepth 100000 in
theorem b_X10_enterBeat_b37 {p : Program} {e : Env} {s : State} {m : MethodId} {args : Array Value} {below : List Frame} {meth : Method} {c : Code} (l : Launch) (D : va_G) (k : Nat → ClassId) (a : Nat → Nat) (A : Nat → Prop) (C0 : q_C p s m meth c args RX10 cX10_enterBeat 2 none wsX10_enterBeat D (tyL k) A) (R : T2) : ∀ (σ : T2), S_X10_enterBeat_b37 σ → P_X10_enterBeat_b37 σ = R → ∀ (H : Heap) (locs : List Loc) (ls : Array Slot), q_W D A s.heap (wX10 k a σ) H locs → lv_has ls 2 [(0, .ref (a 0))] → W p l e { frames := 0, cells := 0, slots := 0, locals := 0 } s m args below meth c H locs 0 0 (MQ below (va_Qv (fun u => u = R) (fun u => q_E D (tyL k) A (wX10 k a u)) A) args s 0 0 A) (F0 m 37 ls []) := by
  intro σ hs hR H locs ls hW hl
  rw [P_X10_enterBeat_b37_e] at hR
  rw [S_X10_enterBeat_b37_e] at hs
  obtain ⟨hx, hb, hr, hml, hts, hown, hlocks, hK, hA⟩ := id C0
  have hf158 := hts (.fieldLink RX10 158 "BeatFollowerModel" "beats" "I") (by decide +kernel)
  have hf161 := hts (.fieldLink RX10 161 "BeatFollowerModel" "laid" "I") (by decide +kernel)
  have hf164 := hts (.fieldLink RX10 164 "BeatFollowerModel" "missed" "I") (by decide +kernel)
  have hinX10 : ∀ w ∈ u_ws RX10 TX10 18, w ∈ wsX10_enterBeat := hin_X10_enterBeat_X10
  refine lv_aload_n hx hb dX10_enterBeat_37 rfl (lv_at hl 0 rfl) ?_
  refine lv_dup hx hb dX10_enterBeat_38 rfl ?_
  refine va_get (v := .int (σ 0 13)) (C := RX10) (T := TX10) (N := 18) hx hb hts hinX10 hown hK hW.1 0 rfl rfl 13 (by decide) hf158 (fun _ h9 => h9) rfl dX10_enterBeat_39 ?_
  refine lv_iconst (v := (1 : Int32)) hx hb dX10_enterBeat_42 (by decide) ?_
  refine lv_iadd hx hb dX10_enterBeat_43 ?_
  refine q_putf (ty := .int) (wd' := wX10 k a (u2 σ 0 (upd (σ 0) 13 ((σ 0 13) + (1 : Int32))))) C0 hW hinX10 tyX10 tyX10_ok nmX10 0 rfl rfl 13 (by decide) hf158 rfl (by decide +kernel) rfl rfl (Nat.le_of_ble_eq_true rfl) dX10_enterBeat_44 (fX10_s13 _ _ _) (wX10_s0 k a _ _) (fun H locs hW => ?_)
  refine lv_aload_n hx hb dX10_enterBeat_47 rfl (lv_at hl 0 rfl) ?_
  refine lv_iconst (v := (0 : Int32)) hx hb dX10_enterBeat_48 (by decide) ?_
  refine q_putf (ty := .int) (wd' := wX10 k a (u2 σ 0 (upd (upd (σ 0) 13 ((σ 0 13) + (1 : Int32))) 14 (0 : Int32)))) C0 hW hinX10 tyX10 tyX10_ok nmX10 0 rfl rfl 14 (by decide) hf161 rfl (by decide +kernel) rfl rfl (Nat.le_of_ble_eq_true rfl) dX10_enterBeat_49 (fX10_s14 _ _ _) ((wX10_s0 k a _ _).trans (congrArg (wX10 k a) (u2_same _ _ _ _))) (fun H locs hW => ?_)
  refine lv_aload_n hx hb dX10_enterBeat_52 rfl (lv_at hl 0 rfl) ?_
  refine lv_iconst (v := (0 : Int32)) hx hb dX10_enterBeat_53 (by decide) ?_
  refine q_putf (ty := .int) (wd' := wX10 k a (u2 σ 0 (upd (upd (upd (σ 0) 13 ((σ 0 13) + (1 : Int32))) 14 (0 : Int32)) 15 (0 : Int32)))) C0 hW hinX10 tyX10 tyX10_ok nmX10 0 rfl rfl 15 (by decide) hf164 rfl (by decide +kernel) rfl rfl (Nat.le_of_ble_eq_true rfl) dX10_enterBeat_54 (fX10_s15 _ _ _) ((wX10_s0 k a _ _).trans (congrArg (wX10 k a) (u2_same _ _ _ _))) (fun H locs hW => ?_)
  exact q_vret C0 hW hR dX10_enterBeat_57
set_option maxHeartbeats 400000 in
set_option maxRecDepth 100000 in
theorem b_X10_enterBeat_b0 {p : Program} {e : Env} {s : State} {m : MethodId} {args : Array Value} {below : List Frame} {meth : Method} {c : Code} (l : Launch) (D : va_G) (k : Nat → ClassId) (a : Nat → Nat) (A : Nat → Prop) (C0 : q_C p s m meth c args RX10 cX10_enterBeat 2 none wsX10_enterBeat D (tyL k) A) (R : T2) : ∀ (σ : T2) (v1 : Int32), S_X10_enterBeat_b0 σ v1 → P_X10_enterBeat_b0 σ v1 = R → ∀ (H : Heap) (locs : List Loc) (ls : Array Slot), q_W D A s.heap (wX10 k a σ) H locs → lv_has ls 2 [(0, .ref (a 0)), (1, .int v1)] → W p l e { frames := 0, cells := 0, slots := 0, locals := 0 } s m args below meth c H locs 0 0 (MQ below (va_Qv (fun u => u = R) (fun u => q_E D (tyL k) A (wX10 k a u)) A) args s 0 0 A) (F0 m 0 ls []) := by
  intro σ v1 hs hR H locs ls hW hl
  rw [P_X10_enterBeat_b0_e] at hR
  rw [S_X10_enterBeat_b0_e] at hs
  obtain ⟨hx, hb, hr, hml, hts, hown, hlocks, hK, hA⟩ := id C0
  have hf33 := hts (.fieldLink RX10 33 "BeatFollowerModel" "afters" "[I") (by decide +kernel)
  have hf36 := hts (.fieldLink RX10 36 "BeatFollowerModel" "misses" "[I") (by decide +kernel)
  have hf158 := hts (.fieldLink RX10 158 "BeatFollowerModel" "beats" "I") (by decide +kernel)
  have hf161 := hts (.fieldLink RX10 161 "BeatFollowerModel" "laid" "I") (by decide +kernel)
  have hf164 := hts (.fieldLink RX10 164 "BeatFollowerModel" "missed" "I") (by decide +kernel)
  have hinX10 : ∀ w ∈ u_ws RX10 TX10 18, w ∈ wsX10_enterBeat := hin_X10_enterBeat_X10
  refine lv_aload_n hx hb dX10_enterBeat_0 rfl (lv_at hl 0 rfl) ?_
  refine va_get (v := .int (σ 0 13)) (C := RX10) (T := TX10) (N := 18) hx hb hts hinX10 hown hK hW.1 0 rfl rfl 13 (by decide) hf158 (fun _ h9 => h9) rfl dX10_enterBeat_1 ?_
  refine lv_bipush (v := (65 : Int32)) hx hb dX10_enterBeat_4 (by decide) ?_
  refine lv_icmp_ge (tgt := 37) hx hb dX10_enterBeat_6 (by decide) (fun c_1 => ?_) (fun c_1 => ?_)
  · have hs := hs.1 c_1
    rw [if_pos c_1] at hR
    exact b_X10_enterBeat_b37 l D k a A C0 R σ hs hR H locs ls hW (lv_sub hl [0] rfl)
  · have hs := hs.2 c_1
    rw [if_neg c_1] at hR
    refine lv_aload_n hx hb dX10_enterBeat_9 rfl (lv_at hl 0 rfl) ?_
    refine va_get (v := .ref (a 7)) (C := RX10) (T := TX10) (N := 18) hx hb hts hinX10 hown hK hW.1 0 rfl rfl 16 (by decide) hf33 (fun _ h9 => h9) rfl dX10_enterBeat_10 ?_
    refine lv_aload_n hx hb dX10_enterBeat_13 rfl (lv_at hl 0 rfl) ?_
    refine va_get (v := .int (σ 0 13)) (C := RX10) (T := TX10) (N := 18) hx hb hts hinX10 hown hK hW.1 0 rfl rfl 13 (by decide) hf158 (fun _ h9 => h9) rfl dX10_enterBeat_14 ?_
    refine lv_iload_n hx hb dX10_enterBeat_17 rfl (lv_at hl 1 rfl) ?_
    refine lv_aload_n hx hb dX10_enterBeat_18 rfl (lv_at hl 0 rfl) ?_
    refine va_get (v := .int (σ 0 14)) (C := RX10) (T := TX10) (N := 18) hx hb hts hinX10 hown hK hW.1 0 rfl rfl 14 (by decide) hf161 (fun _ h9 => h9) rfl dX10_enterBeat_19 ?_
    refine lv_iadd hx hb dX10_enterBeat_22 ?_
    have hi2 := hs.1
    have hs := hs.2
    refine q_iast (f := σ 7) (wd' := wX10 k a (u2 σ 7 (upd (σ 7) ((σ 0 13).toNatClampNeg) (v1 + (σ 0 14))))) C0 hW 7 rfl rfl hi2 rfl dX10_enterBeat_23 (wX10_s7 k a _ _) (fun H locs hW => ?_)
    refine lv_aload_n hx hb dX10_enterBeat_24 rfl (lv_at hl 0 rfl) ?_
    refine va_get (v := .ref (a 8)) (C := RX10) (T := TX10) (N := 18) hx hb hts hinX10 hown hK hW.1 0 rfl rfl 17 (by decide) hf36 (fun _ h9 => h9) rfl dX10_enterBeat_25 ?_
    refine lv_aload_n hx hb dX10_enterBeat_28 rfl (lv_at hl 0 rfl) ?_
    refine va_get (v := .int (σ 0 13)) (C := RX10) (T := TX10) (N := 18) hx hb hts hinX10 hown hK hW.1 0 rfl rfl 13 (by decide) hf158 (fun _ h9 => h9) rfl dX10_enterBeat_29 ?_
    refine lv_aload_n hx hb dX10_enterBeat_32 rfl (lv_at hl 0 rfl) ?_
    refine va_get (v := .int (σ 0 15)) (C := RX10) (T := TX10) (N := 18) hx hb hts hinX10 hown hK hW.1 0 rfl rfl 15 (by decide) hf164 (fun _ h9 => h9) rfl dX10_enterBeat_33 ?_
    have hi3 := hs.1
    have hs := hs.2
    refine q_iast (f := σ 8) (wd' := wX10 k a (u2 (u2 σ 7 (upd (σ 7) ((σ 0 13).toNatClampNeg) (v1 + (σ 0 14)))) 8 (upd (σ 8) ((σ 0 13).toNatClampNeg) (σ 0 15)))) C0 hW 8 rfl rfl hi3 rfl dX10_enterBeat_36 (wX10_s8 k a _ _) (fun H locs hW => ?_)
    exact b_X10_enterBeat_b37 l D k a A C0 R (u2 (u2 σ 7 (upd (σ 7) ((σ 0 13).toNatClampNeg) (v1 + (σ 0 14)))) 8 (upd (σ 8) ((σ 0 13).toNatClampNeg) (σ 0 15))) hs hR H locs ls hW (lv_sub hl [0] rfl)
set_option maxHeartbeats 400000 in
set_option maxRecDepth 100000 in
theorem m_X10_enterBeat (l : Launch) (D : va_G) (k : Nat → ClassId) (a : Nat → Nat) (sz : Nat) (σ : T2) (p0 : Int32) (hs : S_X10_enterBeat σ p0) : Met l yX10_enterBeat wsX10_enterBeat { frames := 0, cells := 0, slots := 0, locals := 0 } (va_Pc [.ref (a 0), .int p0] (q_B D (tyL k) (wX10 k a σ) sz)) (va_Qv (fun u => u = P_X10_enterBeat σ p0) (fun u => q_E D (tyL k) (va_A (wX10 k a σ) sz) (wX10 k a u)) (va_A (wX10 k a σ) sz)) 0 0 (va_A (wX10 k a σ) sz) := by
  refine q_met [.ref (a 0), .int p0] (wX10 k a σ) sz (cc := cX10_enterBeat) (maxL := 2) (ret := none) (by decide) rfl (Nat.le_of_ble_eq_true rfl) ?_
  intro p e s m args below meth c ls hsz C0 hW hl hin
  subst hsz
  exact b_X10_enterBeat_b0 l D k a _ C0 _ σ p0 hs rfl s.heap [] ls hW (lv_sub hl [0, 1] rfl)
theorem hin_X10_takeBeats_X10 : ∀ w ∈ u_ws RX10 TX10 18, w ∈ wsX10_takeBeats := by decide +kernel
theorem hd_X10_takeBeats : yX10_takeBeats.cls = RX10 ∧ yX10_takeBeats.cls ≠ "java/lang/invoke/MethodHandle" ∧ yX10_takeBeats.cls ≠ "java/lang/invoke/VarHandle" ∧ (parseMethodDescriptor yX10_takeBeats.desc).map (fun d => d.parameters.length) = some 0 := by decide +kernel
noncomputable def P_X10_takeBeats_b58c (pk16 : T2 → T2) (σ : T2) : T2 := pk16 σ
def S_X10_takeBeats_b58c (sk16 : T2 → Prop) (σ : T2) : Prop := sk16 σ
theorem P_X10_takeBeats_b58c_e (pk16 : T2 → T2) (σ : T2) : P_X10_takeBeats_b58c pk16 σ = pk16 σ := rfl
theorem S_X10_takeBeats_b58c_e (sk16 : T2 → Prop) (σ : T2) : S_X10_takeBeats_b58c sk16 σ = (sk16 σ) := rfl
noncomputable def P_X10_takeBeats_b50c (pk16 : T2 → T2) (σ : T2) : T2 := P_X10_takeBeats_b58c pk16 (P_X10_enterBeat σ (σ 0 12))
def S_X10_takeBeats_b50c (sk16 : T2 → Prop) (σ : T2) : Prop := (S_X10_enterBeat σ (σ 0 12)) ∧ (S_X10_takeBeats_b58c sk16 (P_X10_enterBeat σ (σ 0 12)))
theorem P_X10_takeBeats_b50c_e (pk16 : T2 → T2) (σ : T2) : P_X10_takeBeats_b50c pk16 σ = P_X10_takeBeats_b58c pk16 (P_X10_enterBeat σ (σ 0 12)) := rfl
theorem S_X10_takeBeats_b50c_e (sk16 : T2 → Prop) (σ : T2) : S_X10_takeBeats_b50c sk16 σ = ((S_X10_enterBeat σ (σ 0 12)) ∧ (S_X10_takeBeats_b58c sk16 (P_X10_enterBeat σ (σ 0 12)))) := rfl
noncomputable def P_X10_takeBeats_b16 (n : Nat) : T2 → T2 := Nat.rec (motive := fun _ => T2 → T2) (fun _ => (fun _ _ => 0)) (fun _ pk16 => fun σ => if (σ 0 11) = 0 then (if (P_X10_next σ) = (44 : Int32) then (P_X10_takeBeats_b50c pk16 (P_X10_takeNumber (u2 σ 0 (upd (σ 0) 10 ((σ 0 10) + (1 : Int32)))) (1 : Int32) (999 : Int32))) else (σ)) else (σ)) n
def S_X10_takeBeats_b16 (n : Nat) : T2 → Prop := Nat.rec (motive := fun _ => T2 → Prop) (fun _ => False) (fun _ sk16 => fun σ => ((σ 0 11) = 0 → ((S_X10_next σ ) ∧ (((P_X10_next σ) = (44 : Int32) → ((S_X10_takeNumber (u2 σ 0 (upd (σ 0) 10 ((σ 0 10) + (1 : Int32)))) (1 : Int32) (999 : Int32)) ∧ (S_X10_takeBeats_b50c sk16 (P_X10_takeNumber (u2 σ 0 (upd (σ 0) 10 ((σ 0 10) + (1 : Int32)))) (1 : Int32) (999 : Int32))))) ∧ (¬ ((P_X10_next σ) = (44 : Int32)) → (True))))) ∧ (¬ ((σ 0 11) = 0) → (True))) n
theorem P_X10_takeBeats_b16_e (n : Nat) (σ : T2) : P_X10_takeBeats_b16 (n + 1) σ = if (σ 0 11) = 0 then (if (P_X10_next σ) = (44 : Int32) then (P_X10_takeBeats_b50c (P_X10_takeBeats_b16 n) (P_X10_takeNumber (u2 σ 0 (upd (σ 0) 10 ((σ 0 10) + (1 : Int32)))) (1 : Int32) (999 : Int32))) else (σ)) else (σ) := rfl
theorem S_X10_takeBeats_b16_e (n : Nat) (σ : T2) : S_X10_takeBeats_b16 (n + 1) σ = (((σ 0 11) = 0 → ((S_X10_next σ ) ∧ (((P_X10_next σ) = (44 : Int32) → ((S_X10_takeNumber (u2 σ 0 (upd (σ 0) 10 ((σ 0 10) + (1 : Int32)))) (1 : Int32) (999 : Int32)) ∧ (S_X10_takeBeats_b50c (S_X10_takeBeats_b16 n) (P_X10_takeNumber (u2 σ 0 (upd (σ 0) 10 ((σ 0 10) + (1 : Int32)))) (1 : Int32) (999 : Int32))))) ∧ (¬ ((P_X10_next σ) = (44 : Int32)) → (True))))) ∧ (¬ ((σ 0 11) = 0) → (True))) := rfl
noncomputable def P_X10_takeBeats_b8c (σ : T2) : T2 := P_X10_takeBeats_b16 FU (P_X10_enterBeat σ (σ 0 12))
def S_X10_takeBeats_b8c (σ : T2) : Prop := (S_X10_enterBeat σ (σ 0 12)) ∧ (S_X10_takeBeats_b16 FU (P_X10_enterBeat σ (σ 0 12)))
theorem P_X10_takeBeats_b8c_e (σ : T2) : P_X10_takeBeats_b8c σ = P_X10_takeBeats_b16 FU (P_X10_enterBeat σ (σ 0 12)) := rfl
theorem S_X10_takeBeats_b8c_e (σ : T2) : S_X10_takeBeats_b8c σ = ((S_X10_enterBeat σ (σ 0 12)) ∧ (S_X10_takeBeats_b16 FU (P_X10_enterBeat σ (σ 0 12)))) := rfl
noncomputable def P_X10_takeBeats_b0 (σ : T2) : T2 := P_X10_takeBeats_b8c (P_X10_takeNumber σ (1 : Int32) (999 : Int32))
def S_X10_takeBeats_b0 (σ : T2) : Prop := (S_X10_takeNumber σ (1 : Int32) (999 : Int32)) ∧ (S_X10_takeBeats_b8c (P_X10_takeNumber σ (1 : Int32) (999 : Int32)))
theorem P_X10_takeBeats_b0_e (σ : T2) : P_X10_takeBeats_b0 σ = P_X10_takeBeats_b8c (P_X10_takeNumber σ (1 : Int32) (999 : Int32)) := rfl
theorem S_X10_takeBeats_b0_e (σ : T2) : S_X10_takeBeats_b0 σ = ((S_X10_takeNumber σ (1 : Int32) (999 : Int32)) ∧ (S_X10_takeBeats_b8c (P_X10_takeNumber σ (1 : Int32) (999 : Int32)))) := rfl
noncomputable def P_X10_takeBeats (σ : T2) : T2 := P_X10_takeBeats_b0 σ
def S_X10_takeBeats (σ : T2) : Prop := S_X10_takeBeats_b0 σ
set_option maxHeartbeats 400000 in
set_option maxRecDepth 100000 in
theorem b_X10_takeBeats_b58c {p : Program} {e : Env} {s : State} {m : MethodId} {args : Array Value} {below : List Frame} {meth : Method} {c : Code} (l : Launch) (D : va_G) (k : Nat → ClassId) (a : Nat → Nat) (A : Nat → Prop) (C0 : q_C p s m meth c args RX10 cX10_takeBeats 1 none wsX10_takeBeats D (tyL k) A) (R : T2) (pk16 : T2 → T2) (sk16 : T2 → Prop) (hk16 : ∀ (σ : T2), sk16 σ → pk16 σ = R → ∀ (H : Heap) (locs : List Loc) (ls : Array Slot), q_W D A s.heap (wX10 k a σ) H locs → lv_has ls 1 [(0, .ref (a 0))] → W p l e { frames := 2, cells := 0, slots := 0, locals := 44 } s m args below meth c H locs 0 0 (MQ below (va_Qv (fun u => u = R) (fun u => q_E D (tyL k) A (wX10 k a u)) A) args s 0 0 A) (F0 m 16 ls [])) : ∀ (σ : T2), S_X10_takeBeats_b58c sk16 σ → P_X10_takeBeats_b58c pk16 σ = R → ∀ (H : Heap) (locs : List Loc) (ls : Array Slot), q_W D A s.heap (wX10 k a σ) H locs → lv_has ls 1 [(0, .ref (a 0))] → W p l e { frames := 2, cells := 0, slots := 0, locals := 44 } s m args below meth c H locs 0 0 (MQ below (va_Qv (fun u => u = R) (fun u => q_E D (tyL k) A (wX10 k a u)) A) args s 0 0 A) (F0 m 58 ls []) := by
  intro σ hs hR H locs ls hW hl
  rw [P_X10_takeBeats_b58c_e] at hR
  rw [S_X10_takeBeats_b58c_e] at hs
  obtain ⟨hx, hb, hr, hml, hts, hown, hlocks, hK, hA⟩ := id C0
  refine lv_goto (tgt := 16) hx hb dX10_takeBeats_58 (by decide) ?_
  exact hk16 σ hs hR H locs ls hW (lv_sub hl [0] rfl)
set_option maxHeartbeats 400000 in
set_option maxRecDepth 100000 in
theorem b_X10_takeBeats_b50c {p : Program} {e : Env} {s : State} {m : MethodId} {args : Array Value} {below : List Frame} {meth : Method} {c : Code} (l : Launch) (D : va_G) (k : Nat → ClassId) (a : Nat → Nat) (A : Nat → Prop) (C0 : q_C p s m meth c args RX10 cX10_takeBeats 1 none wsX10_takeBeats D (tyL k) A) (R : T2) (pk16 : T2 → T2) (sk16 : T2 → Prop) (hk16 : ∀ (σ : T2), sk16 σ → pk16 σ = R → ∀ (H : Heap) (locs : List Loc) (ls : Array Slot), q_W D A s.heap (wX10 k a σ) H locs → lv_has ls 1 [(0, .ref (a 0))] → W p l e { frames := 2, cells := 0, slots := 0, locals := 44 } s m args below meth c H locs 0 0 (MQ below (va_Qv (fun u => u = R) (fun u => q_E D (tyL k) A (wX10 k a u)) A) args s 0 0 A) (F0 m 16 ls [])) : ∀ (σ : T2), S_X10_takeBeats_b50c sk16 σ → P_X10_takeBeats_b50c pk16 σ = R → ∀ (H : Heap) (locs : List Loc) (ls : Array Slot), q_W D A s.heap (wX10 k a σ) H locs → lv_has ls 1 [(0, .ref (a 0))] → W p l e { frames := 2, cells := 0, slots := 0, locals := 44 } s m args below meth c H locs 0 0 (MQ below (va_Qv (fun u => u = R) (fun u => q_E D (tyL k) A (wX10 k a u)) A) args s 0 0 A) (F0 m 50 ls []) := by
  intro σ hs hR H locs ls hW hl
  rw [P_X10_takeBeats_b50c_e] at hR
  rw [S_X10_takeBeats_b50c_e] at hs
  obtain ⟨hx, hb, hr, hml, hts, hown, hlocks, hK, hA⟩ := id C0
  have hf155 := hts (.fieldLink RX10 155 "BeatFollowerModel" "taken" "I") (by decide +kernel)
  have hinX10 : ∀ w ∈ u_ws RX10 TX10 18, w ∈ wsX10_takeBeats := hin_X10_takeBeats_X10
  refine lv_aload_n hx hb dX10_takeBeats_50 rfl (lv_at hl 0 rfl) ?_
  refine lv_aload_n hx hb dX10_takeBeats_51 rfl (lv_at hl 0 rfl) ?_
  refine va_get (v := .int (σ 0 12)) (C := RX10) (T := TX10) (N := 18) hx hb hts hinX10 hown hK hW.1 0 rfl rfl 12 (by decide) hf155 (fun _ h9 => h9) rfl dX10_takeBeats_52 ?_
  have hs7 := hs.1
  have hs := hs.2
  refine q_Vv (As := [.int (σ 0 12)]) (rest := []) (wf := wX10 k a) (R := P_X10_enterBeat σ (σ 0 12)) (wd' := wX10 k a (P_X10_enterBeat σ (σ 0 12))) [0, 1, 2, 3, 4, 5, 6, 7, 8] [0, 1, 2, 3] 0 10 C0 hW (m_X10_enterBeat l D k a H.size σ (σ 0 12) hs7) (cwV 1 hts gX10_takeBeats_X10_enterBeat rfl rfl rfl hd_X10_enterBeat ⟨Nat.le_of_ble_eq_true rfl, Nat.le_of_ble_eq_true rfl⟩) (by decide) (wX10_pl k a _) rfl (wX10_rec k a _) rfl (wX10_fst k a _ _) (wX10_put k a _ _) hl rfl rfl (Nat.le_of_ble_eq_true rfl) dX10_takeBeats_55 ⟨Nat.le_refl 0, Nat.le_refl 0⟩ (fun H locs hW => ?_)
  exact b_X10_takeBeats_b58c l D k a A C0 R pk16 sk16 hk16 (P_X10_enterBeat σ (σ 0 12)) hs hR H locs ls hW (lv_sub hl [0] rfl)
set_option maxHeartbeats 400000 in
set_option maxRecDepth 100000 in
theorem b_X10_takeBeats_b16 {p : Program} {e : Env} {s : State} {m : MethodId} {args : Array Value} {below : List Frame} {meth : Method} {c : Code} (l : Launch) (D : va_G) (k : Nat → ClassId) (a : Nat → Nat) (A : Nat → Prop) (C0 : q_C p s m meth c args RX10 cX10_takeBeats 1 none wsX10_takeBeats D (tyL k) A) (R : T2) : ∀ n : Nat, ∀ (σ : T2), S_X10_takeBeats_b16 n σ → P_X10_takeBeats_b16 n σ = R → ∀ (H : Heap) (locs : List Loc) (ls : Array Slot), q_W D A s.heap (wX10 k a σ) H locs → lv_has ls 1 [(0, .ref (a 0))] → W p l e { frames := 2, cells := 0, slots := 0, locals := 44 } s m args below meth c H locs 0 0 (MQ below (va_Qv (fun u => u = R) (fun u => q_E D (tyL k) A (wX10 k a u)) A) args s 0 0 A) (F0 m 16 ls []) := by
  intro n
  induction n with
  | zero => intro σ hs; exact False.elim hs
  | succ n ih =>
    intro σ hs hR H locs ls hW hl
    rw [P_X10_takeBeats_b16_e] at hR
    rw [S_X10_takeBeats_b16_e] at hs
    obtain ⟨hx, hb, hr, hml, hts, hown, hlocks, hK, hA⟩ := id C0
    have hf145 := hts (.fieldLink RX10 145 "BeatFollowerModel" "spot" "I") (by decide +kernel)
    have hf148 := hts (.fieldLink RX10 148 "BeatFollowerModel" "isWrong" "Z") (by decide +kernel)
    have hinX10 : ∀ w ∈ u_ws RX10 TX10 18, w ∈ wsX10_takeBeats := hin_X10_takeBeats_X10
    refine lv_aload_n hx hb dX10_takeBeats_16 rfl (lv_at hl 0 rfl) ?_
    refine va_get (v := .int (σ 0 11)) (C := RX10) (T := TX10) (N := 18) hx hb hts hinX10 hown hK hW.1 0 rfl rfl 11 (by decide) hf148 (fun _ h9 => h9) rfl dX10_takeBeats_17 ?_
    refine lv_if_ne (tgt := 61) hx hb dX10_takeBeats_20 (by decide) (fun c_3 => ?_) (fun c_3 => ?_)
    · have hs := hs.2 c_3
      rw [if_neg c_3] at hR
      exact q_vret C0 hW hR dX10_takeBeats_61
    · have hs := hs.1 c_3
      rw [if_pos c_3] at hR
      refine lv_aload_n hx hb dX10_takeBeats_23 rfl (lv_at hl 0 rfl) ?_
      have hs4 := hs.1
      have hs := hs.2
      refine q_Vi (As := []) (rest := []) (R := P_X10_next σ) [0, 1, 2, 3, 4, 5, 6, 7, 8] [0, 1, 2, 3] 0 10 C0 hW (m_X10_next l D k a _ σ  hs4) (cwV 0 hts gX10_takeBeats_X10_next rfl rfl rfl hd_X10_next ⟨Nat.le_of_ble_eq_true rfl, Nat.le_of_ble_eq_true rfl⟩) (by decide) (wX10_pl k a _) rfl (wX10_rec k a _) rfl hl rfl rfl (Nat.le_of_ble_eq_true rfl) dX10_takeBeats_24 ⟨Nat.le_refl 0, Nat.le_refl 0⟩ ?_
      refine lv_bipush (v := (44 : Int32)) hx hb dX10_takeBeats_27 (by decide) ?_
      refine lv_icmp_ne (tgt := 61) hx hb dX10_takeBeats_29 (by decide) (fun c_5 => ?_) (fun c_5 => ?_)
      · have hs := hs.2 c_5
        rw [if_neg c_5] at hR
        exact q_vret C0 hW hR dX10_takeBeats_61
      · have hs := hs.1 c_5
        rw [if_pos c_5] at hR
        refine lv_aload_n hx hb dX10_takeBeats_32 rfl (lv_at hl 0 rfl) ?_
        refine lv_dup hx hb dX10_takeBeats_33 rfl ?_
        refine va_get (v := .int (σ 0 10)) (C := RX10) (T := TX10) (N := 18) hx hb hts hinX10 hown hK hW.1 0 rfl rfl 10 (by decide) hf145 (fun _ h9 => h9) rfl dX10_takeBeats_34 ?_
        refine lv_iconst (v := (1 : Int32)) hx hb dX10_takeBeats_37 (by decide) ?_
        refine lv_iadd hx hb dX10_takeBeats_38 ?_
        refine q_putf (ty := .int) (wd' := wX10 k a (u2 σ 0 (upd (σ 0) 10 ((σ 0 10) + (1 : Int32))))) C0 hW hinX10 tyX10 tyX10_ok nmX10 0 rfl rfl 10 (by decide) hf145 rfl (by decide +kernel) rfl rfl (Nat.le_of_ble_eq_true rfl) dX10_takeBeats_39 (fX10_s10 _ _ _) (wX10_s0 k a _ _) (fun H locs hW => ?_)
        refine lv_aload_n hx hb dX10_takeBeats_42 rfl (lv_at hl 0 rfl) ?_
        refine lv_iconst (v := (1 : Int32)) hx hb dX10_takeBeats_43 (by decide) ?_
        refine lv_sipush (v := (999 : Int32)) hx hb dX10_takeBeats_44 (by decide) ?_
        have hs6 := hs.1
        have hs := hs.2
        refine q_Vv (As := [.int (1 : Int32), .int (999 : Int32)]) (rest := []) (wf := wX10 k a) (R := P_X10_takeNumber (u2 σ 0 (upd (σ 0) 10 ((σ 0 10) + (1 : Int32)))) (1 : Int32) (999 : Int32)) (wd' := wX10 k a (P_X10_takeNumber (u2 σ 0 (upd (σ 0) 10 ((σ 0 10) + (1 : Int32)))) (1 : Int32) (999 : Int32))) [0, 1, 2, 3, 4, 5, 6, 7, 8] [0, 1, 2, 3] 0 10 C0 hW (m_X10_takeNumber l D k a H.size (u2 σ 0 (upd (σ 0) 10 ((σ 0 10) + (1 : Int32)))) (1 : Int32) (999 : Int32) hs6) (cwV 2 hts gX10_takeBeats_X10_takeNumber rfl rfl rfl hd_X10_takeNumber ⟨Nat.le_of_ble_eq_true rfl, Nat.le_of_ble_eq_true rfl⟩) (by decide) (wX10_pl k a _) rfl (wX10_rec k a _) rfl (wX10_fst k a _ _) (wX10_put k a _ _) hl rfl rfl (Nat.le_of_ble_eq_true rfl) dX10_takeBeats_47 ⟨Nat.le_refl 0, Nat.le_refl 0⟩ (fun H locs hW => ?_)
        exact b_X10_takeBeats_b50c l D k a A C0 R _ _ ih (P_X10_takeNumber (u2 σ 0 (upd (σ 0) 10 ((σ 0 10) + (1 : Int32)))) (1 : Int32) (999 : Int32)) hs hR H locs ls hW (lv_sub hl [0] rfl)
set_option maxHeartbeats 400000 in
set_option maxRecDepth 100000 in
theorem b_X10_takeBeats_b8c {p : Program} {e : Env} {s : State} {m : MethodId} {args : Array Value} {below : List Frame} {meth : Method} {c : Code} (l : Launch) (D : va_G) (k : Nat → ClassId) (a : Nat → Nat) (A : Nat → Prop) (C0 : q_C p s m meth c args RX10 cX10_takeBeats 1 none wsX10_takeBeats D (tyL k) A) (R : T2) : ∀ (σ : T2), S_X10_takeBeats_b8c σ → P_X10_takeBeats_b8c σ = R → ∀ (H : Heap) (locs : List Loc) (ls : Array Slot), q_W D A s.heap (wX10 k a σ) H locs → lv_has ls 1 [(0, .ref (a 0))] → W p l e { frames := 2, cells := 0, slots := 0, locals := 44 } s m args below meth c H locs 0 0 (MQ below (va_Qv (fun u => u = R) (fun u => q_E D (tyL k) A (wX10 k a u)) A) args s 0 0 A) (F0 m 8 ls []) := by
  intro σ hs hR H locs ls hW hl
  rw [P_X10_takeBeats_b8c_e] at hR
  rw [S_X10_takeBeats_b8c_e] at hs
  obtain ⟨hx, hb, hr, hml, hts, hown, hlocks, hK, hA⟩ := id C0
  have hf155 := hts (.fieldLink RX10 155 "BeatFollowerModel" "taken" "I") (by decide +kernel)
  have hinX10 : ∀ w ∈ u_ws RX10 TX10 18, w ∈ wsX10_takeBeats := hin_X10_takeBeats_X10
  refine lv_aload_n hx hb dX10_takeBeats_8 rfl (lv_at hl 0 rfl) ?_
  refine lv_aload_n hx hb dX10_takeBeats_9 rfl (lv_at hl 0 rfl) ?_
  refine va_get (v := .int (σ 0 12)) (C := RX10) (T := TX10) (N := 18) hx hb hts hinX10 hown hK hW.1 0 rfl rfl 12 (by decide) hf155 (fun _ h9 => h9) rfl dX10_takeBeats_10 ?_
  have hs2 := hs.1
  have hs := hs.2
  refine q_Vv (As := [.int (σ 0 12)]) (rest := []) (wf := wX10 k a) (R := P_X10_enterBeat σ (σ 0 12)) (wd' := wX10 k a (P_X10_enterBeat σ (σ 0 12))) [0, 1, 2, 3, 4, 5, 6, 7, 8] [0, 1, 2, 3] 0 10 C0 hW (m_X10_enterBeat l D k a H.size σ (σ 0 12) hs2) (cwV 1 hts gX10_takeBeats_X10_enterBeat rfl rfl rfl hd_X10_enterBeat ⟨Nat.le_of_ble_eq_true rfl, Nat.le_of_ble_eq_true rfl⟩) (by decide) (wX10_pl k a _) rfl (wX10_rec k a _) rfl (wX10_fst k a _ _) (wX10_put k a _ _) hl rfl rfl (Nat.le_of_ble_eq_true rfl) dX10_takeBeats_13 ⟨Nat.le_refl 0, Nat.le_refl 0⟩ (fun H locs hW => ?_)
  exact b_X10_takeBeats_b16 l D k a A C0 R FU (P_X10_enterBeat σ (σ 0 12)) hs hR H locs ls hW (lv_sub hl [0] rfl)
set_option maxHeartbeats 400000 in
set_option maxRecDepth 100000 in
theorem b_X10_takeBeats_b0 {p : Program} {e : Env} {s : State} {m : MethodId} {args : Array Value} {below : List Frame} {meth : Method} {c : Code} (l : Launch) (D : va_G) (k : Nat → ClassId) (a : Nat → Nat) (A : Nat → Prop) (C0 : q_C p s m meth c args RX10 cX10_takeBeats 1 none wsX10_takeBeats D (tyL k) A) (R : T2) : ∀ (σ : T2), S_X10_takeBeats_b0 σ → P_X10_takeBeats_b0 σ = R → ∀ (H : Heap) (locs : List Loc) (ls : Array Slot), q_W D A s.heap (wX10 k a σ) H locs → lv_has ls 1 [(0, .ref (a 0))] → W p l e { frames := 2, cells := 0, slots := 0, locals := 44 } s m args below meth c H locs 0 0 (MQ below (va_Qv (fun u => u = R) (fun u => q_E D (tyL k) A (wX10 k a u)) A) args s 0 0 A) (F0 m 0 ls []) := by
  intro σ hs hR H locs ls hW hl
  rw [P_X10_takeBeats_b0_e] at hR
  rw [S_X10_takeBeats_b0_e] at hs
  obtain ⟨hx, hb, hr, hml, hts, hown, hlocks, hK, hA⟩ := id C0
  refine lv_aload_n hx hb dX10_takeBeats_0 rfl (lv_at hl 0 rfl) ?_
  refine lv_iconst (v := (1 : Int32)) hx hb dX10_takeBeats_1 (by decide) ?_
  refine lv_sipush (v := (999 : Int32)) hx hb dX10_takeBeats_2 (by decide) ?_
  have hs1 := hs.1
  have hs := hs.2
  refine q_Vv (As := [.int (1 : Int32), .int (999 : Int32)]) (rest := []) (wf := wX10 k a) (R := P_X10_takeNumber σ (1 : Int32) (999 : Int32)) (wd' := wX10 k a (P_X10_takeNumber σ (1 : Int32) (999 : Int32))) [0, 1, 2, 3, 4, 5, 6, 7, 8] [0, 1, 2, 3] 0 10 C0 hW (m_X10_takeNumber l D k a H.size σ (1 : Int32) (999 : Int32) hs1) (cwV 2 hts gX10_takeBeats_X10_takeNumber rfl rfl rfl hd_X10_takeNumber ⟨Nat.le_of_ble_eq_true rfl, Nat.le_of_ble_eq_true rfl⟩) (by decide) (wX10_pl k a _) rfl (wX10_rec k a _) rfl (wX10_fst k a _ _) (wX10_put k a _ _) hl rfl rfl (Nat.le_of_ble_eq_true rfl) dX10_takeBeats_5 ⟨Nat.le_refl 0, Nat.le_refl 0⟩ (fun H locs hW => ?_)
  exact b_X10_takeBeats_b8c l D k a A C0 R (P_X10_takeNumber σ (1 : Int32) (999 : Int32)) hs hR H locs ls hW (lv_sub hl [0] rfl)
set_option maxHeartbeats 400000 in
set_option maxRecDepth 100000 in
theorem m_X10_takeBeats (l : Launch) (D : va_G) (k : Nat → ClassId) (a : Nat → Nat) (sz : Nat) (σ : T2) (hs : S_X10_takeBeats σ) : Met l yX10_takeBeats wsX10_takeBeats { frames := 2, cells := 0, slots := 0, locals := 44 } (va_Pc [.ref (a 0)] (q_B D (tyL k) (wX10 k a σ) sz)) (va_Qv (fun u => u = P_X10_takeBeats σ) (fun u => q_E D (tyL k) (va_A (wX10 k a σ) sz) (wX10 k a u)) (va_A (wX10 k a σ) sz)) 0 0 (va_A (wX10 k a σ) sz) := by
  refine q_met [.ref (a 0)] (wX10 k a σ) sz (cc := cX10_takeBeats) (maxL := 1) (ret := none) (by decide) rfl (Nat.le_of_ble_eq_true rfl) ?_
  intro p e s m args below meth c ls hsz C0 hW hl hin
  subst hsz
  exact b_X10_takeBeats_b0 l D k a _ C0 _ σ  hs rfl s.heap [] ls hW (lv_sub hl [0] rfl)
theorem hin_X10_takeRow_X10 : ∀ w ∈ u_ws RX10 TX10 18, w ∈ wsX10_takeRow := by decide +kernel
theorem hd_X10_takeRow : yX10_takeRow.cls = RX10 ∧ yX10_takeRow.cls ≠ "java/lang/invoke/MethodHandle" ∧ yX10_takeRow.cls ≠ "java/lang/invoke/VarHandle" ∧ (parseMethodDescriptor yX10_takeRow.desc).map (fun d => d.parameters.length) = some 0 := by decide +kernel
noncomputable def P_X10_takeRow_b48c (pk28 : T2 → Int32 → Int32 → T2) (σ : T2) (v1 : Int32) (v2 : Int32) : T2 := pk28 σ v1 (v2 + (1 : Int32))
def S_X10_takeRow_b48c (sk28 : T2 → Int32 → Int32 → Prop) (σ : T2) (v1 : Int32) (v2 : Int32) : Prop := sk28 σ v1 (v2 + (1 : Int32))
theorem P_X10_takeRow_b48c_e (pk28 : T2 → Int32 → Int32 → T2) (σ : T2) (v1 : Int32) (v2 : Int32) : P_X10_takeRow_b48c pk28 σ v1 v2 = pk28 σ v1 (v2 + (1 : Int32)) := rfl
theorem S_X10_takeRow_b48c_e (sk28 : T2 → Int32 → Int32 → Prop) (σ : T2) (v1 : Int32) (v2 : Int32) : S_X10_takeRow_b48c sk28 σ v1 v2 = (sk28 σ v1 (v2 + (1 : Int32))) := rfl
noncomputable def P_X10_takeRow_b28 (n : Nat) : T2 → Int32 → Int32 → T2 := Nat.rec (motive := fun _ => T2 → Int32 → Int32 → T2) (fun _ _ _ => (fun _ _ => 0)) (fun _ pk28 => fun σ v1 v2 => if (σ 0 12) ≤ v2 then (σ) else (if (σ 0 11) = 0 then (P_X10_takeRow_b48c pk28 (P_X10_enterBeat σ v1) v1 v2) else (σ))) n
def S_X10_takeRow_b28 (n : Nat) : T2 → Int32 → Int32 → Prop := Nat.rec (motive := fun _ => T2 → Int32 → Int32 → Prop) (fun _ _ _ => False) (fun _ sk28 => fun σ v1 v2 => ((σ 0 12) ≤ v2 → (True)) ∧ (¬ ((σ 0 12) ≤ v2) → (((σ 0 11) = 0 → ((S_X10_enterBeat σ v1) ∧ (S_X10_takeRow_b48c sk28 (P_X10_enterBeat σ v1) v1 v2))) ∧ (¬ ((σ 0 11) = 0) → (True))))) n
theorem P_X10_takeRow_b28_e (n : Nat) (σ : T2) (v1 : Int32) (v2 : Int32) : P_X10_takeRow_b28 (n + 1) σ v1 v2 = if (σ 0 12) ≤ v2 then (σ) else (if (σ 0 11) = 0 then (P_X10_takeRow_b48c (P_X10_takeRow_b28 n) (P_X10_enterBeat σ v1) v1 v2) else (σ)) := rfl
theorem S_X10_takeRow_b28_e (n : Nat) (σ : T2) (v1 : Int32) (v2 : Int32) : S_X10_takeRow_b28 (n + 1) σ v1 v2 = (((σ 0 12) ≤ v2 → (True)) ∧ (¬ ((σ 0 12) ≤ v2) → (((σ 0 11) = 0 → ((S_X10_enterBeat σ v1) ∧ (S_X10_takeRow_b48c (S_X10_takeRow_b28 n) (P_X10_enterBeat σ v1) v1 v2))) ∧ (¬ ((σ 0 11) = 0) → (True))))) := rfl
noncomputable def P_X10_takeRow_b26c (σ : T2) (v1 : Int32) : T2 := P_X10_takeRow_b28 FU σ v1 (0 : Int32)
def S_X10_takeRow_b26c (σ : T2) (v1 : Int32) : Prop := S_X10_takeRow_b28 FU σ v1 (0 : Int32)
theorem P_X10_takeRow_b26c_e (σ : T2) (v1 : Int32) : P_X10_takeRow_b26c σ v1 = P_X10_takeRow_b28 FU σ v1 (0 : Int32) := rfl
theorem S_X10_takeRow_b26c_e (σ : T2) (v1 : Int32) : S_X10_takeRow_b26c σ v1 = (S_X10_takeRow_b28 FU σ v1 (0 : Int32)) := rfl
noncomputable def P_X10_takeRow_b19c (σ : T2) (v1 : Int32) : T2 := P_X10_takeRow_b26c (P_X10_takeNumber σ (2 : Int32) (40 : Int32)) v1
def S_X10_takeRow_b19c (σ : T2) (v1 : Int32) : Prop := (S_X10_takeNumber σ (2 : Int32) (40 : Int32)) ∧ (S_X10_takeRow_b26c (P_X10_takeNumber σ (2 : Int32) (40 : Int32)) v1)
theorem P_X10_takeRow_b19c_e (σ : T2) (v1 : Int32) : P_X10_takeRow_b19c σ v1 = P_X10_takeRow_b26c (P_X10_takeNumber σ (2 : Int32) (40 : Int32)) v1 := rfl
theorem S_X10_takeRow_b19c_e (σ : T2) (v1 : Int32) : S_X10_takeRow_b19c σ v1 = ((S_X10_takeNumber σ (2 : Int32) (40 : Int32)) ∧ (S_X10_takeRow_b26c (P_X10_takeNumber σ (2 : Int32) (40 : Int32)) v1)) := rfl
noncomputable def P_X10_takeRow_b8c (σ : T2) : T2 := P_X10_takeRow_b19c (P_X10_takeSign σ (42 : Int32)) (σ 0 12)
def S_X10_takeRow_b8c (σ : T2) : Prop := (S_X10_takeSign σ (42 : Int32)) ∧ (S_X10_takeRow_b19c (P_X10_takeSign σ (42 : Int32)) (σ 0 12))
theorem P_X10_takeRow_b8c_e (σ : T2) : P_X10_takeRow_b8c σ = P_X10_takeRow_b19c (P_X10_takeSign σ (42 : Int32)) (σ 0 12) := rfl
theorem S_X10_takeRow_b8c_e (σ : T2) : S_X10_takeRow_b8c σ = ((S_X10_takeSign σ (42 : Int32)) ∧ (S_X10_takeRow_b19c (P_X10_takeSign σ (42 : Int32)) (σ 0 12))) := rfl
noncomputable def P_X10_takeRow_b0 (σ : T2) : T2 := P_X10_takeRow_b8c (P_X10_takeNumber σ (1 : Int32) (999 : Int32))
def S_X10_takeRow_b0 (σ : T2) : Prop := (S_X10_takeNumber σ (1 : Int32) (999 : Int32)) ∧ (S_X10_takeRow_b8c (P_X10_takeNumber σ (1 : Int32) (999 : Int32)))
theorem P_X10_takeRow_b0_e (σ : T2) : P_X10_takeRow_b0 σ = P_X10_takeRow_b8c (P_X10_takeNumber σ (1 : Int32) (999 : Int32)) := rfl
theorem S_X10_takeRow_b0_e (σ : T2) : S_X10_takeRow_b0 σ = ((S_X10_takeNumber σ (1 : Int32) (999 : Int32)) ∧ (S_X10_takeRow_b8c (P_X10_takeNumber σ (1 : Int32) (999 : Int32)))) := rfl
noncomputable def P_X10_takeRow (σ : T2) : T2 := P_X10_takeRow_b0 σ
def S_X10_takeRow (σ : T2) : Prop := S_X10_takeRow_b0 σ
set_option maxHeartbeats 400000 in
set_option maxRecDepth 100000 in
theorem b_X10_takeRow_b48c {p : Program} {e : Env} {s : State} {m : MethodId} {args : Array Value} {below : List Frame} {meth : Method} {c : Code} (l : Launch) (D : va_G) (k : Nat → ClassId) (a : Nat → Nat) (A : Nat → Prop) (C0 : q_C p s m meth c args RX10 cX10_takeRow 3 none wsX10_takeRow D (tyL k) A) (R : T2) (pk28 : T2 → Int32 → Int32 → T2) (sk28 : T2 → Int32 → Int32 → Prop) (hk28 : ∀ (σ : T2) (v1 : Int32) (v2 : Int32), sk28 σ v1 v2 → pk28 σ v1 v2 = R → ∀ (H : Heap) (locs : List Loc) (ls : Array Slot), q_W D A s.heap (wX10 k a σ) H locs → lv_has ls 3 [(0, .ref (a 0)), (1, .int v1), (2, .int v2)] → W p l e { frames := 2, cells := 0, slots := 0, locals := 44 } s m args below meth c H locs 0 0 (MQ below (va_Qv (fun u => u = R) (fun u => q_E D (tyL k) A (wX10 k a u)) A) args s 0 0 A) (F0 m 28 ls [])) : ∀ (σ : T2) (v1 : Int32) (v2 : Int32), S_X10_takeRow_b48c sk28 σ v1 v2 → P_X10_takeRow_b48c pk28 σ v1 v2 = R → ∀ (H : Heap) (locs : List Loc) (ls : Array Slot), q_W D A s.heap (wX10 k a σ) H locs → lv_has ls 3 [(0, .ref (a 0)), (1, .int v1), (2, .int v2)] → W p l e { frames := 2, cells := 0, slots := 0, locals := 44 } s m args below meth c H locs 0 0 (MQ below (va_Qv (fun u => u = R) (fun u => q_E D (tyL k) A (wX10 k a u)) A) args s 0 0 A) (F0 m 48 ls []) := by
  intro σ v1 v2 hs hR H locs ls hW hl
  rw [P_X10_takeRow_b48c_e] at hR
  rw [S_X10_takeRow_b48c_e] at hs
  obtain ⟨hx, hb, hr, hml, hts, hown, hlocks, hK, hA⟩ := id C0
  refine lv_iinc (v := v2 + (1 : Int32)) (lv' := [(2, .int (v2 + (1 : Int32))), (0, .ref (a 0)), (1, .int v1)]) hx hb dX10_takeRow_48 hl (k := 2) rfl rfl (by decide) rfl (fun ls hl => ?_)
  refine lv_goto (tgt := 28) hx hb dX10_takeRow_51 (by decide) ?_
  exact hk28 σ v1 (v2 + (1 : Int32)) hs hR H locs ls hW (lv_sub hl [1, 2, 0] rfl)
set_option maxHeartbeats 400000 in
set_option maxRecDepth 100000 in
theorem b_X10_takeRow_b28 {p : Program} {e : Env} {s : State} {m : MethodId} {args : Array Value} {below : List Frame} {meth : Method} {c : Code} (l : Launch) (D : va_G) (k : Nat → ClassId) (a : Nat → Nat) (A : Nat → Prop) (C0 : q_C p s m meth c args RX10 cX10_takeRow 3 none wsX10_takeRow D (tyL k) A) (R : T2) : ∀ n : Nat, ∀ (σ : T2) (v1 : Int32) (v2 : Int32), S_X10_takeRow_b28 n σ v1 v2 → P_X10_takeRow_b28 n σ v1 v2 = R → ∀ (H : Heap) (locs : List Loc) (ls : Array Slot), q_W D A s.heap (wX10 k a σ) H locs → lv_has ls 3 [(0, .ref (a 0)), (1, .int v1), (2, .int v2)] → W p l e { frames := 2, cells := 0, slots := 0, locals := 44 } s m args below meth c H locs 0 0 (MQ below (va_Qv (fun u => u = R) (fun u => q_E D (tyL k) A (wX10 k a u)) A) args s 0 0 A) (F0 m 28 ls []) := by
  intro n
  induction n with
  | zero => intro σ v1 v2 hs; exact False.elim hs
  | succ n ih =>
    intro σ v1 v2 hs hR H locs ls hW hl
    rw [P_X10_takeRow_b28_e] at hR
    rw [S_X10_takeRow_b28_e] at hs
    obtain ⟨hx, hb, hr, hml, hts, hown, hlocks, hK, hA⟩ := id C0
    have hf148 := hts (.fieldLink RX10 148 "BeatFollowerModel" "isWrong" "Z") (by decide +kernel)
    have hf155 := hts (.fieldLink RX10 155 "BeatFollowerModel" "taken" "I") (by decide +kernel)
    have hinX10 : ∀ w ∈ u_ws RX10 TX10 18, w ∈ wsX10_takeRow := hin_X10_takeRow_X10
    refine lv_iload_n hx hb dX10_takeRow_28 rfl (lv_at hl 2 rfl) ?_
    refine lv_aload_n hx hb dX10_takeRow_29 rfl (lv_at hl 0 rfl) ?_
    refine va_get (v := .int (σ 0 12)) (C := RX10) (T := TX10) (N := 18) hx hb hts hinX10 hown hK hW.1 0 rfl rfl 12 (by decide) hf155 (fun _ h9 => h9) rfl dX10_takeRow_30 ?_
    refine lv_icmp_ge (tgt := 54) hx hb dX10_takeRow_33 (by decide) (fun c_4 => ?_) (fun c_4 => ?_)
    · have hs := hs.1 c_4
      rw [if_pos c_4] at hR
      exact q_vret C0 hW hR dX10_takeRow_54
    · have hs := hs.2 c_4
      rw [if_neg c_4] at hR
      refine lv_aload_n hx hb dX10_takeRow_36 rfl (lv_at hl 0 rfl) ?_
      refine va_get (v := .int (σ 0 11)) (C := RX10) (T := TX10) (N := 18) hx hb hts hinX10 hown hK hW.1 0 rfl rfl 11 (by decide) hf148 (fun _ h9 => h9) rfl dX10_takeRow_37 ?_
      refine lv_if_ne (tgt := 54) hx hb dX10_takeRow_40 (by decide) (fun c_5 => ?_) (fun c_5 => ?_)
      · have hs := hs.2 c_5
        rw [if_neg c_5] at hR
        exact q_vret C0 hW hR dX10_takeRow_54
      · have hs := hs.1 c_5
        rw [if_pos c_5] at hR
        refine lv_aload_n hx hb dX10_takeRow_43 rfl (lv_at hl 0 rfl) ?_
        refine lv_iload_n hx hb dX10_takeRow_44 rfl (lv_at hl 1 rfl) ?_
        have hs6 := hs.1
        have hs := hs.2
        refine q_Vv (As := [.int v1]) (rest := []) (wf := wX10 k a) (R := P_X10_enterBeat σ v1) (wd' := wX10 k a (P_X10_enterBeat σ v1)) [0, 1, 2, 3, 4, 5, 6, 7, 8] [0, 1, 2, 3] 0 10 C0 hW (m_X10_enterBeat l D k a H.size σ v1 hs6) (cwV 1 hts gX10_takeRow_X10_enterBeat rfl rfl rfl hd_X10_enterBeat ⟨Nat.le_of_ble_eq_true rfl, Nat.le_of_ble_eq_true rfl⟩) (by decide) (wX10_pl k a _) rfl (wX10_rec k a _) rfl (wX10_fst k a _ _) (wX10_put k a _ _) hl rfl rfl (Nat.le_of_ble_eq_true rfl) dX10_takeRow_45 ⟨Nat.le_refl 0, Nat.le_refl 0⟩ (fun H locs hW => ?_)
        exact b_X10_takeRow_b48c l D k a A C0 R _ _ ih (P_X10_enterBeat σ v1) v1 v2 hs hR H locs ls hW (lv_sub hl [0, 1, 2] rfl)
set_option maxHeartbeats 400000 in
set_option maxRecDepth 100000 in
theorem b_X10_takeRow_b26c {p : Program} {e : Env} {s : State} {m : MethodId} {args : Array Value} {below : List Frame} {meth : Method} {c : Code} (l : Launch) (D : va_G) (k : Nat → ClassId) (a : Nat → Nat) (A : Nat → Prop) (C0 : q_C p s m meth c args RX10 cX10_takeRow 3 none wsX10_takeRow D (tyL k) A) (R : T2) : ∀ (σ : T2) (v1 : Int32), S_X10_takeRow_b26c σ v1 → P_X10_takeRow_b26c σ v1 = R → ∀ (H : Heap) (locs : List Loc) (ls : Array Slot), q_W D A s.heap (wX10 k a σ) H locs → lv_has ls 3 [(0, .ref (a 0)), (1, .int v1)] → W p l e { frames := 2, cells := 0, slots := 0, locals := 44 } s m args below meth c H locs 0 0 (MQ below (va_Qv (fun u => u = R) (fun u => q_E D (tyL k) A (wX10 k a u)) A) args s 0 0 A) (F0 m 26 ls []) := by
  intro σ v1 hs hR H locs ls hW hl
  rw [P_X10_takeRow_b26c_e] at hR
  rw [S_X10_takeRow_b26c_e] at hs
  obtain ⟨hx, hb, hr, hml, hts, hown, hlocks, hK, hA⟩ := id C0
  refine lv_iconst (v := (0 : Int32)) hx hb dX10_takeRow_26 (by decide) ?_
  refine lv_istore_n (lv' := [(2, .int (0 : Int32)), (0, .ref (a 0)), (1, .int v1)]) hx hb dX10_takeRow_27 rfl hl (by decide) rfl (fun ls hl => ?_)
  exact b_X10_takeRow_b28 l D k a A C0 R FU σ v1 (0 : Int32) hs hR H locs ls hW (lv_sub hl [1, 2, 0] rfl)
set_option maxHeartbeats 400000 in
set_option maxRecDepth 100000 in
theorem b_X10_takeRow_b19c {p : Program} {e : Env} {s : State} {m : MethodId} {args : Array Value} {below : List Frame} {meth : Method} {c : Code} (l : Launch) (D : va_G) (k : Nat → ClassId) (a : Nat → Nat) (A : Nat → Prop) (C0 : q_C p s m meth c args RX10 cX10_takeRow 3 none wsX10_takeRow D (tyL k) A) (R : T2) : ∀ (σ : T2) (v1 : Int32), S_X10_takeRow_b19c σ v1 → P_X10_takeRow_b19c σ v1 = R → ∀ (H : Heap) (locs : List Loc) (ls : Array Slot), q_W D A s.heap (wX10 k a σ) H locs → lv_has ls 3 [(0, .ref (a 0)), (1, .int v1)] → W p l e { frames := 2, cells := 0, slots := 0, locals := 44 } s m args below meth c H locs 0 0 (MQ below (va_Qv (fun u => u = R) (fun u => q_E D (tyL k) A (wX10 k a u)) A) args s 0 0 A) (F0 m 19 ls []) := by
  intro σ v1 hs hR H locs ls hW hl
  rw [P_X10_takeRow_b19c_e] at hR
  rw [S_X10_takeRow_b19c_e] at hs
  obtain ⟨hx, hb, hr, hml, hts, hown, hlocks, hK, hA⟩ := id C0
  refine lv_aload_n hx hb dX10_takeRow_19 rfl (lv_at hl 0 rfl) ?_
  refine lv_iconst (v := (2 : Int32)) hx hb dX10_takeRow_20 (by decide) ?_
  refine lv_bipush (v := (40 : Int32)) hx hb dX10_takeRow_21 (by decide) ?_
  have hs3 := hs.1
  have hs := hs.2
  refine q_Vv (As := [.int (2 : Int32), .int (40 : Int32)]) (rest := []) (wf := wX10 k a) (R := P_X10_takeNumber σ (2 : Int32) (40 : Int32)) (wd' := wX10 k a (P_X10_takeNumber σ (2 : Int32) (40 : Int32))) [0, 1, 2, 3, 4, 5, 6, 7, 8] [0, 1, 2, 3] 0 10 C0 hW (m_X10_takeNumber l D k a H.size σ (2 : Int32) (40 : Int32) hs3) (cwV 2 hts gX10_takeRow_X10_takeNumber rfl rfl rfl hd_X10_takeNumber ⟨Nat.le_of_ble_eq_true rfl, Nat.le_of_ble_eq_true rfl⟩) (by decide) (wX10_pl k a _) rfl (wX10_rec k a _) rfl (wX10_fst k a _ _) (wX10_put k a _ _) hl rfl rfl (Nat.le_of_ble_eq_true rfl) dX10_takeRow_23 ⟨Nat.le_refl 0, Nat.le_refl 0⟩ (fun H locs hW => ?_)
  exact b_X10_takeRow_b26c l D k a A C0 R (P_X10_takeNumber σ (2 : Int32) (40 : Int32)) v1 hs hR H locs ls hW (lv_sub hl [0, 1] rfl)
set_option maxHeartbeats 400000 in
set_option maxRecDepth 100000 in
theorem b_X10_takeRow_b8c {p : Program} {e : Env} {s : State} {m : MethodId} {args : Array Value} {below : List Frame} {meth : Method} {c : Code} (l : Launch) (D : va_G) (k : Nat → ClassId) (a : Nat → Nat) (A : Nat → Prop) (C0 : q_C p s m meth c args RX10 cX10_takeRow 3 none wsX10_takeRow D (tyL k) A) (R : T2) : ∀ (σ : T2), S_X10_takeRow_b8c σ → P_X10_takeRow_b8c σ = R → ∀ (H : Heap) (locs : List Loc) (ls : Array Slot), q_W D A s.heap (wX10 k a σ) H locs → lv_has ls 3 [(0, .ref (a 0))] → W p l e { frames := 2, cells := 0, slots := 0, locals := 44 } s m args below meth c H locs 0 0 (MQ below (va_Qv (fun u => u = R) (fun u => q_E D (tyL k) A (wX10 k a u)) A) args s 0 0 A) (F0 m 8 ls []) := by
  intro σ hs hR H locs ls hW hl
  rw [P_X10_takeRow_b8c_e] at hR
  rw [S_X10_takeRow_b8c_e] at hs
  obtain ⟨hx, hb, hr, hml, hts, hown, hlocks, hK, hA⟩ := id C0
  have hf155 := hts (.fieldLink RX10 155 "BeatFollowerModel" "taken" "I") (by decide +kernel)
  have hinX10 : ∀ w ∈ u_ws RX10 TX10 18, w ∈ wsX10_takeRow := hin_X10_takeRow_X10
  refine lv_aload_n hx hb dX10_takeRow_8 rfl (lv_at hl 0 rfl) ?_
  refine va_get (v := .int (σ 0 12)) (C := RX10) (T := TX10) (N := 18) hx hb hts hinX10 hown hK hW.1 0 rfl rfl 12 (by decide) hf155 (fun _ h9 => h9) rfl dX10_takeRow_9 ?_
  refine lv_istore_n (lv' := [(1, .int (σ 0 12)), (0, .ref (a 0))]) hx hb dX10_takeRow_12 rfl hl (by decide) rfl (fun ls hl => ?_)
  refine lv_aload_n hx hb dX10_takeRow_13 rfl (lv_at hl 1 rfl) ?_
  refine lv_bipush (v := (42 : Int32)) hx hb dX10_takeRow_14 (by decide) ?_
  have hs2 := hs.1
  have hs := hs.2
  refine q_Vv (As := [.int (42 : Int32)]) (rest := []) (wf := wX10 k a) (R := P_X10_takeSign σ (42 : Int32)) (wd' := wX10 k a (P_X10_takeSign σ (42 : Int32))) [0, 1, 2, 3, 4, 5, 6, 7, 8] [0, 1, 2, 3] 0 10 C0 hW (m_X10_takeSign l D k a H.size σ (42 : Int32) hs2) (cwV 1 hts gX10_takeRow_X10_takeSign rfl rfl rfl hd_X10_takeSign ⟨Nat.le_of_ble_eq_true rfl, Nat.le_of_ble_eq_true rfl⟩) (by decide) (wX10_pl k a _) rfl (wX10_rec k a _) rfl (wX10_fst k a _ _) (wX10_put k a _ _) hl rfl rfl (Nat.le_of_ble_eq_true rfl) dX10_takeRow_16 ⟨Nat.le_refl 0, Nat.le_refl 0⟩ (fun H locs hW => ?_)
  exact b_X10_takeRow_b19c l D k a A C0 R (P_X10_takeSign σ (42 : Int32)) (σ 0 12) hs hR H locs ls hW (lv_sub hl [1, 0] rfl)
set_option maxHeartbeats 400000 in
set_option maxRecDepth 100000 in
theorem b_X10_takeRow_b0 {p : Program} {e : Env} {s : State} {m : MethodId} {args : Array Value} {below : List Frame} {meth : Method} {c : Code} (l : Launch) (D : va_G) (k : Nat → ClassId) (a : Nat → Nat) (A : Nat → Prop) (C0 : q_C p s m meth c args RX10 cX10_takeRow 3 none wsX10_takeRow D (tyL k) A) (R : T2) : ∀ (σ : T2), S_X10_takeRow_b0 σ → P_X10_takeRow_b0 σ = R → ∀ (H : Heap) (locs : List Loc) (ls : Array Slot), q_W D A s.heap (wX10 k a σ) H locs → lv_has ls 3 [(0, .ref (a 0))] → W p l e { frames := 2, cells := 0, slots := 0, locals := 44 } s m args below meth c H locs 0 0 (MQ below (va_Qv (fun u => u = R) (fun u => q_E D (tyL k) A (wX10 k a u)) A) args s 0 0 A) (F0 m 0 ls []) := by
  intro σ hs hR H locs ls hW hl
  rw [P_X10_takeRow_b0_e] at hR
  rw [S_X10_takeRow_b0_e] at hs
  obtain ⟨hx, hb, hr, hml, hts, hown, hlocks, hK, hA⟩ := id C0
  refine lv_aload_n hx hb dX10_takeRow_0 rfl (lv_at hl 0 rfl) ?_
  refine lv_iconst (v := (1 : Int32)) hx hb dX10_takeRow_1 (by decide) ?_
  refine lv_sipush (v := (999 : Int32)) hx hb dX10_takeRow_2 (by decide) ?_
  have hs1 := hs.1
  have hs := hs.2
  refine q_Vv (As := [.int (1 : Int32), .int (999 : Int32)]) (rest := []) (wf := wX10 k a) (R := P_X10_takeNumber σ (1 : Int32) (999 : Int32)) (wd' := wX10 k a (P_X10_takeNumber σ (1 : Int32) (999 : Int32))) [0, 1, 2, 3, 4, 5, 6, 7, 8] [0, 1, 2, 3] 0 10 C0 hW (m_X10_takeNumber l D k a H.size σ (1 : Int32) (999 : Int32) hs1) (cwV 2 hts gX10_takeRow_X10_takeNumber rfl rfl rfl hd_X10_takeNumber ⟨Nat.le_of_ble_eq_true rfl, Nat.le_of_ble_eq_true rfl⟩) (by decide) (wX10_pl k a _) rfl (wX10_rec k a _) rfl (wX10_fst k a _ _) (wX10_put k a _ _) hl rfl rfl (Nat.le_of_ble_eq_true rfl) dX10_takeRow_5 ⟨Nat.le_refl 0, Nat.le_refl 0⟩ (fun H locs hW => ?_)
  exact b_X10_takeRow_b8c l D k a A C0 R (P_X10_takeNumber σ (1 : Int32) (999 : Int32)) hs hR H locs ls hW (lv_sub hl [0] rfl)
set_option maxHeartbeats 400000 in
set_option maxRecDepth 100000 in
theorem m_X10_takeRow (l : Launch) (D : va_G) (k : Nat → ClassId) (a : Nat → Nat) (sz : Nat) (σ : T2) (hs : S_X10_takeRow σ) : Met l yX10_takeRow wsX10_takeRow { frames := 2, cells := 0, slots := 0, locals := 44 } (va_Pc [.ref (a 0)] (q_B D (tyL k) (wX10 k a σ) sz)) (va_Qv (fun u => u = P_X10_takeRow σ) (fun u => q_E D (tyL k) (va_A (wX10 k a σ) sz) (wX10 k a u)) (va_A (wX10 k a σ) sz)) 0 0 (va_A (wX10 k a σ) sz) := by
  refine q_met [.ref (a 0)] (wX10 k a σ) sz (cc := cX10_takeRow) (maxL := 3) (ret := none) (by decide) rfl (Nat.le_of_ble_eq_true rfl) ?_
  intro p e s m args below meth c ls hsz C0 hW hl hin
  subst hsz
  exact b_X10_takeRow_b0 l D k a _ C0 _ σ  hs rfl s.heap [] ls hW (lv_sub hl [0] rfl)
theorem hin_X10_takePart_X10 : ∀ w ∈ u_ws RX10 TX10 18, w ∈ wsX10_takePart := by decide +kernel
theorem hd_X10_takePart : yX10_takePart.cls = RX10 ∧ yX10_takePart.cls ≠ "java/lang/invoke/MethodHandle" ∧ yX10_takePart.cls ≠ "java/lang/invoke/VarHandle" ∧ (parseMethodDescriptor yX10_takePart.desc).map (fun d => d.parameters.length) = some 0 := by decide +kernel
noncomputable def P_X10_takePart_b64c (σ : T2) : T2 := σ
def S_X10_takePart_b64c (σ : T2) : Prop := True
theorem P_X10_takePart_b64c_e (σ : T2) : P_X10_takePart_b64c σ = σ := rfl
theorem S_X10_takePart_b64c_e (σ : T2) : S_X10_takePart_b64c σ = (True) := rfl
noncomputable def P_X10_takePart_b71c (σ : T2) : T2 := σ
def S_X10_takePart_b71c (σ : T2) : Prop := True
theorem P_X10_takePart_b71c_e (σ : T2) : P_X10_takePart_b71c σ = σ := rfl
theorem S_X10_takePart_b71c_e (σ : T2) : S_X10_takePart_b71c σ = (True) := rfl
noncomputable def P_X10_takePart_b105c (σ : T2) : T2 := u2 σ 0 (upd (σ 0) 14 ((σ 0 14) + (σ 0 12)))
def S_X10_takePart_b105c (σ : T2) : Prop := True
theorem P_X10_takePart_b105c_e (σ : T2) : P_X10_takePart_b105c σ = u2 σ 0 (upd (σ 0) 14 ((σ 0 14) + (σ 0 12))) := rfl
theorem S_X10_takePart_b105c_e (σ : T2) : S_X10_takePart_b105c σ = (True) := rfl
noncomputable def P_X10_takePart_b81c (σ : T2) : T2 := u2 σ 0 (upd (σ 0) 15 ((σ 0 15) + (σ 0 12)))
def S_X10_takePart_b81c (σ : T2) : Prop := True
theorem P_X10_takePart_b81c_e (σ : T2) : P_X10_takePart_b81c σ = u2 σ 0 (upd (σ 0) 15 ((σ 0 15) + (σ 0 12))) := rfl
theorem S_X10_takePart_b81c_e (σ : T2) : S_X10_takePart_b81c σ = (True) := rfl
noncomputable def P_X10_takePart_b0 (σ : T2) : T2 := if (P_X10_next σ) = (98 : Int32) then (P_X10_takePart_b64c (P_X10_takeBeats (u2 σ 0 (upd (σ 0) 10 ((σ 0 10) + (1 : Int32)))))) else (if (P_X10_next σ) = (101 : Int32) then (P_X10_takePart_b71c (P_X10_takeRow (u2 σ 0 (upd (σ 0) 10 ((σ 0 10) + (1 : Int32)))))) else (if (P_X10_next σ) = (108 : Int32) then (P_X10_takePart_b105c (P_X10_takeNumber (u2 σ 0 (upd (σ 0) 10 ((σ 0 10) + (1 : Int32)))) (1 : Int32) (9999 : Int32))) else (if (P_X10_next σ) = (109 : Int32) then (P_X10_takePart_b81c (P_X10_takeNumber (u2 σ 0 (upd (σ 0) 10 ((σ 0 10) + (1 : Int32)))) (1 : Int32) (99 : Int32))) else (u2 σ 0 (upd (upd (upd (σ 0) 10 ((σ 0 10) + (1 : Int32))) 10 (((σ 0 10) + (1 : Int32)) - (1 : Int32))) 11 (1 : Int32))))))
def S_X10_takePart_b0 (σ : T2) : Prop := (S_X10_next σ ) ∧ (((P_X10_next σ) = (98 : Int32) → ((S_X10_takeBeats (u2 σ 0 (upd (σ 0) 10 ((σ 0 10) + (1 : Int32)))) ) ∧ (S_X10_takePart_b64c (P_X10_takeBeats (u2 σ 0 (upd (σ 0) 10 ((σ 0 10) + (1 : Int32)))))))) ∧ (¬ ((P_X10_next σ) = (98 : Int32)) → (((P_X10_next σ) = (101 : Int32) → ((S_X10_takeRow (u2 σ 0 (upd (σ 0) 10 ((σ 0 10) + (1 : Int32)))) ) ∧ (S_X10_takePart_b71c (P_X10_takeRow (u2 σ 0 (upd (σ 0) 10 ((σ 0 10) + (1 : Int32)))))))) ∧ (¬ ((P_X10_next σ) = (101 : Int32)) → (((P_X10_next σ) = (108 : Int32) → ((S_X10_takeNumber (u2 σ 0 (upd (σ 0) 10 ((σ 0 10) + (1 : Int32)))) (1 : Int32) (9999 : Int32)) ∧ (S_X10_takePart_b105c (P_X10_takeNumber (u2 σ 0 (upd (σ 0) 10 ((σ 0 10) + (1 : Int32)))) (1 : Int32) (9999 : Int32))))) ∧ (¬ ((P_X10_next σ) = (108 : Int32)) → (((P_X10_next σ) = (109 : Int32) → ((S_X10_takeNumber (u2 σ 0 (upd (σ 0) 10 ((σ 0 10) + (1 : Int32)))) (1 : Int32) (99 : Int32)) ∧ (S_X10_takePart_b81c (P_X10_takeNumber (u2 σ 0 (upd (σ 0) 10 ((σ 0 10) + (1 : Int32)))) (1 : Int32) (99 : Int32))))) ∧ (¬ ((P_X10_next σ) = (109 : Int32)) → (True)))))))))
theorem P_X10_takePart_b0_e (σ : T2) : P_X10_takePart_b0 σ = if (P_X10_next σ) = (98 : Int32) then (P_X10_takePart_b64c (P_X10_takeBeats (u2 σ 0 (upd (σ 0) 10 ((σ 0 10) + (1 : Int32)))))) else (if (P_X10_next σ) = (101 : Int32) then (P_X10_takePart_b71c (P_X10_takeRow (u2 σ 0 (upd (σ 0) 10 ((σ 0 10) + (1 : Int32)))))) else (if (P_X10_next σ) = (108 : Int32) then (P_X10_takePart_b105c (P_X10_takeNumber (u2 σ 0 (upd (σ 0) 10 ((σ 0 10) + (1 : Int32)))) (1 : Int32) (9999 : Int32))) else (if (P_X10_next σ) = (109 : Int32) then (P_X10_takePart_b81c (P_X10_takeNumber (u2 σ 0 (upd (σ 0) 10 ((σ 0 10) + (1 : Int32)))) (1 : Int32) (99 : Int32))) else (u2 σ 0 (upd (upd (upd (σ 0) 10 ((σ 0 10) + (1 : Int32))) 10 (((σ 0 10) + (1 : Int32)) - (1 : Int32))) 11 (1 : Int32)))))) := rfl
theorem S_X10_takePart_b0_e (σ : T2) : S_X10_takePart_b0 σ = ((S_X10_next σ ) ∧ (((P_X10_next σ) = (98 : Int32) → ((S_X10_takeBeats (u2 σ 0 (upd (σ 0) 10 ((σ 0 10) + (1 : Int32)))) ) ∧ (S_X10_takePart_b64c (P_X10_takeBeats (u2 σ 0 (upd (σ 0) 10 ((σ 0 10) + (1 : Int32)))))))) ∧ (¬ ((P_X10_next σ) = (98 : Int32)) → (((P_X10_next σ) = (101 : Int32) → ((S_X10_takeRow (u2 σ 0 (upd (σ 0) 10 ((σ 0 10) + (1 : Int32)))) ) ∧ (S_X10_takePart_b71c (P_X10_takeRow (u2 σ 0 (upd (σ 0) 10 ((σ 0 10) + (1 : Int32)))))))) ∧ (¬ ((P_X10_next σ) = (101 : Int32)) → (((P_X10_next σ) = (108 : Int32) → ((S_X10_takeNumber (u2 σ 0 (upd (σ 0) 10 ((σ 0 10) + (1 : Int32)))) (1 : Int32) (9999 : Int32)) ∧ (S_X10_takePart_b105c (P_X10_takeNumber (u2 σ 0 (upd (σ 0) 10 ((σ 0 10) + (1 : Int32)))) (1 : Int32) (9999 : Int32))))) ∧ (¬ ((P_X10_next σ) = (108 : Int32)) → (((P_X10_next σ) = (109 : Int32) → ((S_X10_takeNumber (u2 σ 0 (upd (σ 0) 10 ((σ 0 10) + (1 : Int32)))) (1 : Int32) (99 : Int32)) ∧ (S_X10_takePart_b81c (P_X10_takeNumber (u2 σ 0 (upd (σ 0) 10 ((σ 0 10) + (1 : Int32)))) (1 : Int32) (99 : Int32))))) ∧ (¬ ((P_X10_next σ) = (109 : Int32)) → (True)))))))))) := rfl
noncomputable def P_X10_takePart (σ : T2) : T2 := P_X10_takePart_b0 σ
def S_X10_takePart (σ : T2) : Prop := S_X10_takePart_b0 σ
set_option maxHeartbeats 400000 in
set_option maxRecDepth 100000 in
theorem b_X10_takePart_b64c {p : Program} {e : Env} {s : State} {m : MethodId} {args : Array Value} {below : List Frame} {meth : Method} {c : Code} (l : Launch) (D : va_G) (k : Nat → ClassId) (a : Nat → Nat) (A : Nat → Prop) (C0 : q_C p s m meth c args RX10 cX10_takePart 2 none wsX10_takePart D (tyL k) A) (R : T2) : ∀ (σ : T2), S_X10_takePart_b64c σ → P_X10_takePart_b64c σ = R → ∀ (H : Heap) (locs : List Loc) (ls : Array Slot), q_W D A s.heap (wX10 k a σ) H locs → lv_has ls 2 [] → W p l e { frames := 3, cells := 0, slots := 0, locals := 66 } s m args below meth c H locs 0 0 (MQ below (va_Qv (fun u => u = R) (fun u => q_E D (tyL k) A (wX10 k a u)) A) args s 0 0 A) (F0 m 64 ls []) := by
  intro σ hs hR H locs ls hW hl
  rw [P_X10_takePart_b64c_e] at hR
  rw [S_X10_takePart_b64c_e] at hs
  obtain ⟨hx, hb, hr, hml, hts, hown, hlocks, hK, hA⟩ := id C0
  refine lv_goto (tgt := 136) hx hb dX10_takePart_64 (by decide) ?_
  exact q_vret C0 hW hR dX10_takePart_136
set_option maxHeartbeats 400000 in
set_option maxRecDepth 100000 in
theorem b_X10_takePart_b71c {p : Program} {e : Env} {s : State} {m : MethodId} {args : Array Value} {below : List Frame} {meth : Method} {c : Code} (l : Launch) (D : va_G) (k : Nat → ClassId) (a : Nat → Nat) (A : Nat → Prop) (C0 : q_C p s m meth c args RX10 cX10_takePart 2 none wsX10_takePart D (tyL k) A) (R : T2) : ∀ (σ : T2), S_X10_takePart_b71c σ → P_X10_takePart_b71c σ = R → ∀ (H : Heap) (locs : List Loc) (ls : Array Slot), q_W D A s.heap (wX10 k a σ) H locs → lv_has ls 2 [] → W p l e { frames := 3, cells := 0, slots := 0, locals := 66 } s m args below meth c H locs 0 0 (MQ below (va_Qv (fun u => u = R) (fun u => q_E D (tyL k) A (wX10 k a u)) A) args s 0 0 A) (F0 m 71 ls []) := by
  intro σ hs hR H locs ls hW hl
  rw [P_X10_takePart_b71c_e] at hR
  rw [S_X10_takePart_b71c_e] at hs
  obtain ⟨hx, hb, hr, hml, hts, hown, hlocks, hK, hA⟩ := id C0
  refine lv_goto (tgt := 136) hx hb dX10_takePart_71 (by decide) ?_
  exact q_vret C0 hW hR dX10_takePart_136
set_option maxHeartbeats 400000 in
set_option maxRecDepth 100000 in
theorem b_X10_takePart_b105c {p : Program} {e : Env} {s : State} {m : MethodId} {args : Array Value} {below : List Frame} {meth : Method} {c : Code} (l : Launch) (D : va_G) (k : Nat → ClassId) (a : Nat → Nat) (A : Nat → Prop) (C0 : q_C p s m meth c args RX10 cX10_takePart 2 none wsX10_takePart D (tyL k) A) (R : T2) : ∀ (σ : T2), S_X10_takePart_b105c σ → P_X10_takePart_b105c σ = R → ∀ (H : Heap) (locs : List Loc) (ls : Array Slot), q_W D A s.heap (wX10 k a σ) H locs → lv_has ls 2 [(0, .ref (a 0))] → W p l e { frames := 3, cells := 0, slots := 0, locals := 66 } s m args below meth c H locs 0 0 (MQ below (va_Qv (fun u => u = R) (fun u => q_E D (tyL k) A (wX10 k a u)) A) args s 0 0 A) (F0 m 105 ls []) := by
  intro σ hs hR H locs ls hW hl
  rw [P_X10_takePart_b105c_e] at hR
  rw [S_X10_takePart_b105c_e] at hs
  obtain ⟨hx, hb, hr, hml, hts, hown, hlocks, hK, hA⟩ := id C0
  have hf155 := hts (.fieldLink RX10 155 "BeatFollowerModel" "taken" "I") (by decide +kernel)
  have hf161 := hts (.fieldLink RX10 161 "BeatFollowerModel" "laid" "I") (by decide +kernel)
  have hinX10 : ∀ w ∈ u_ws RX10 TX10 18, w ∈ wsX10_takePart := hin_X10_takePart_X10
  refine lv_aload_n hx hb dX10_takePart_105 rfl (lv_at hl 0 rfl) ?_
  refine lv_dup hx hb dX10_takePart_106 rfl ?_
  refine va_get (v := .int (σ 0 14)) (C := RX10) (T := TX10) (N := 18) hx hb hts hinX10 hown hK hW.1 0 rfl rfl 14 (by decide) hf161 (fun _ h9 => h9) rfl dX10_takePart_107 ?_
  refine lv_aload_n hx hb dX10_takePart_110 rfl (lv_at hl 0 rfl) ?_
  refine va_get (v := .int (σ 0 12)) (C := RX10) (T := TX10) (N := 18) hx hb hts hinX10 hown hK hW.1 0 rfl rfl 12 (by decide) hf155 (fun _ h9 => h9) rfl dX10_takePart_111 ?_
  refine lv_iadd hx hb dX10_takePart_114 ?_
  refine q_putf (ty := .int) (wd' := wX10 k a (u2 σ 0 (upd (σ 0) 14 ((σ 0 14) + (σ 0 12))))) C0 hW hinX10 tyX10 tyX10_ok nmX10 0 rfl rfl 14 (by decide) hf161 rfl (by decide +kernel) rfl rfl (Nat.le_of_ble_eq_true rfl) dX10_takePart_115 (fX10_s14 _ _ _) (wX10_s0 k a _ _) (fun H locs hW => ?_)
  refine lv_goto (tgt := 136) hx hb dX10_takePart_118 (by decide) ?_
  exact q_vret C0 hW hR dX10_takePart_136
set_option maxHeartbeats 400000 in
set_option maxRecDepth 100000 in
theorem b_X10_takePart_b81c {p : Program} {e : Env} {s : State} {m : MethodId} {args : Array Value} {below : List Frame} {meth : Method} {c : Code} (l : Launch) (D : va_G) (k : Nat → ClassId) (a : Nat → Nat) (A : Nat → Prop) (C0 : q_C p s m meth c args RX10 cX10_takePart 2 none wsX10_takePart D (tyL k) A) (R : T2) : ∀ (σ : T2), S_X10_takePart_b81c σ → P_X10_takePart_b81c σ = R → ∀ (H : Heap) (locs : List Loc) (ls : Array Slot), q_W D A s.heap (wX10 k a σ) H locs → lv_has ls 2 [(0, .ref (a 0))] → W p l e { frames := 3, cells := 0, slots := 0, locals := 66 } s m args below meth c H locs 0 0 (MQ below (va_Qv (fun u => u = R) (fun u => q_E D (tyL k) A (wX10 k a u)) A) args s 0 0 A) (F0 m 81 ls []) := by
  intro σ hs hR H locs ls hW hl
  rw [P_X10_takePart_b81c_e] at hR
  rw [S_X10_takePart_b81c_e] at hs
  obtain ⟨hx, hb, hr, hml, hts, hown, hlocks, hK, hA⟩ := id C0
  have hf155 := hts (.fieldLink RX10 155 "BeatFollowerModel" "taken" "I") (by decide +kernel)
  have hf164 := hts (.fieldLink RX10 164 "BeatFollowerModel" "missed" "I") (by decide +kernel)
  have hinX10 : ∀ w ∈ u_ws RX10 TX10 18, w ∈ wsX10_takePart := hin_X10_takePart_X10
  refine lv_aload_n hx hb dX10_takePart_81 rfl (lv_at hl 0 rfl) ?_
  refine lv_dup hx hb dX10_takePart_82 rfl ?_
  refine va_get (v := .int (σ 0 15)) (C := RX10) (T := TX10) (N := 18) hx hb hts hinX10 hown hK hW.1 0 rfl rfl 15 (by decide) hf164 (fun _ h9 => h9) rfl dX10_takePart_83 ?_
  refine lv_aload_n hx hb dX10_takePart_86 rfl (lv_at hl 0 rfl) ?_
  refine va_get (v := .int (σ 0 12)) (C := RX10) (T := TX10) (N := 18) hx hb hts hinX10 hown hK hW.1 0 rfl rfl 12 (by decide) hf155 (fun _ h9 => h9) rfl dX10_takePart_87 ?_
  refine lv_iadd hx hb dX10_takePart_90 ?_
  refine q_putf (ty := .int) (wd' := wX10 k a (u2 σ 0 (upd (σ 0) 15 ((σ 0 15) + (σ 0 12))))) C0 hW hinX10 tyX10 tyX10_ok nmX10 0 rfl rfl 15 (by decide) hf164 rfl (by decide +kernel) rfl rfl (Nat.le_of_ble_eq_true rfl) dX10_takePart_91 (fX10_s15 _ _ _) (wX10_s0 k a _ _) (fun H locs hW => ?_)
  refine lv_goto (tgt := 136) hx hb dX10_takePart_94 (by decide) ?_
  exact q_vret C0 hW hR dX10_takePart_136
set_option maxHeartbeats 400000 in
set_option maxRecDepth 100000 in
theorem b_X10_takePart_b0 {p : Program} {e : Env} {s : State} {m : MethodId} {args : Array Value} {below : List Frame} {meth : Method} {c : Code} (l : Launch) (D : va_G) (k : Nat → ClassId) (a : Nat → Nat) (A : Nat → Prop) (C0 : q_C p s m meth c args RX10 cX10_takePart 2 none wsX10_takePart D (tyL k) A) (R : T2) : ∀ (σ : T2), S_X10_takePart_b0 σ → P_X10_takePart_b0 σ = R → ∀ (H : Heap) (locs : List Loc) (ls : Array Slot), q_W D A s.heap (wX10 k a σ) H locs → lv_has ls 2 [(0, .ref (a 0))] → W p l e { frames := 3, cells := 0, slots := 0, locals := 66 } s m args below meth c H locs 0 0 (MQ below (va_Qv (fun u => u = R) (fun u => q_E D (tyL k) A (wX10 k a u)) A) args s 0 0 A) (F0 m 0 ls []) := by
  intro σ hs hR H locs ls hW hl
  rw [P_X10_takePart_b0_e] at hR
  rw [S_X10_takePart_b0_e] at hs
  obtain ⟨hx, hb, hr, hml, hts, hown, hlocks, hK, hA⟩ := id C0
  have hf145 := hts (.fieldLink RX10 145 "BeatFollowerModel" "spot" "I") (by decide +kernel)
  have hf148 := hts (.fieldLink RX10 148 "BeatFollowerModel" "isWrong" "Z") (by decide +kernel)
  have hinX10 : ∀ w ∈ u_ws RX10 TX10 18, w ∈ wsX10_takePart := hin_X10_takePart_X10
  refine lv_aload_n hx hb dX10_takePart_0 rfl (lv_at hl 0 rfl) ?_
  have hs1 := hs.1
  have hs := hs.2
  refine q_Vi (As := []) (rest := []) (R := P_X10_next σ) [0, 1, 2, 3, 4, 5, 6, 7, 8] [0, 1, 2, 3] 0 10 C0 hW (m_X10_next l D k a _ σ  hs1) (cwV 0 hts gX10_takePart_X10_next rfl rfl rfl hd_X10_next ⟨Nat.le_of_ble_eq_true rfl, Nat.le_of_ble_eq_true rfl⟩) (by decide) (wX10_pl k a _) rfl (wX10_rec k a _) rfl hl rfl rfl (Nat.le_of_ble_eq_true rfl) dX10_takePart_1 ⟨Nat.le_refl 0, Nat.le_refl 0⟩ ?_
  refine lv_istore_n (lv' := [(1, .int (P_X10_next σ)), (0, .ref (a 0))]) hx hb dX10_takePart_4 rfl hl (by decide) rfl (fun ls hl => ?_)
  refine lv_aload_n hx hb dX10_takePart_5 rfl (lv_at hl 1 rfl) ?_
  refine lv_dup hx hb dX10_takePart_6 rfl ?_
  refine va_get (v := .int (σ 0 10)) (C := RX10) (T := TX10) (N := 18) hx hb hts hinX10 hown hK hW.1 0 rfl rfl 10 (by decide) hf145 (fun _ h9 => h9) rfl dX10_takePart_7 ?_
  refine lv_iconst (v := (1 : Int32)) hx hb dX10_takePart_10 (by decide) ?_
  refine lv_iadd hx hb dX10_takePart_11 ?_
  refine q_putf (ty := .int) (wd' := wX10 k a (u2 σ 0 (upd (σ 0) 10 ((σ 0 10) + (1 : Int32))))) C0 hW hinX10 tyX10 tyX10_ok nmX10 0 rfl rfl 10 (by decide) hf145 rfl (by decide +kernel) rfl rfl (Nat.le_of_ble_eq_true rfl) dX10_takePart_12 (fX10_s10 _ _ _) (wX10_s0 k a _ _) (fun H locs hW => ?_)
  refine lv_iload_n hx hb dX10_takePart_15 rfl (lv_at hl 0 rfl) ?_
  by_cases c_2 : (P_X10_next σ) = (98 : Int32)
  · have hs := hs.1 c_2
    rw [if_pos c_2] at hR
    refine lv_lookup (off := 44) (tgt := 60) hx hb dX10_takePart_16 (by decide) (by rw [c_2]; decide) (by decide) ?_
    refine lv_aload_n hx hb dX10_takePart_60 rfl (lv_at hl 1 rfl) ?_
    have hs3 := hs.1
    have hs := hs.2
    refine q_Vv (As := []) (rest := []) (wf := wX10 k a) (R := P_X10_takeBeats (u2 σ 0 (upd (σ 0) 10 ((σ 0 10) + (1 : Int32))))) (wd' := wX10 k a (P_X10_takeBeats (u2 σ 0 (upd (σ 0) 10 ((σ 0 10) + (1 : Int32)))))) [0, 1, 2, 3, 4, 5, 6, 7, 8] [0, 1, 2, 3] 0 10 C0 hW (m_X10_takeBeats l D k a H.size (u2 σ 0 (upd (σ 0) 10 ((σ 0 10) + (1 : Int32))))  hs3) (cwV 0 hts gX10_takePart_X10_takeBeats rfl rfl rfl hd_X10_takeBeats ⟨Nat.le_of_ble_eq_true rfl, Nat.le_of_ble_eq_true rfl⟩) (by decide) (wX10_pl k a _) rfl (wX10_rec k a _) rfl (wX10_fst k a _ _) (wX10_put k a _ _) hl rfl rfl (Nat.le_of_ble_eq_true rfl) dX10_takePart_61 ⟨Nat.le_refl 0, Nat.le_refl 0⟩ (fun H locs hW => ?_)
    exact b_X10_takePart_b64c l D k a A C0 R (P_X10_takeBeats (u2 σ 0 (upd (σ 0) 10 ((σ 0 10) + (1 : Int32))))) hs hR H locs ls hW (lv_sub hl [] rfl)
  · have hs := hs.2 c_2
    rw [if_neg c_2] at hR
    by_cases c_4 : (P_X10_next σ) = (101 : Int32)
    · have hs := hs.1 c_4
      rw [if_pos c_4] at hR
      refine lv_lookup (off := 51) (tgt := 67) hx hb dX10_takePart_16 (by decide) (by rw [c_4]; decide) (by decide) ?_
      refine lv_aload_n hx hb dX10_takePart_67 rfl (lv_at hl 1 rfl) ?_
      have hs5 := hs.1
      have hs := hs.2
      refine q_Vv (As := []) (rest := []) (wf := wX10 k a) (R := P_X10_takeRow (u2 σ 0 (upd (σ 0) 10 ((σ 0 10) + (1 : Int32))))) (wd' := wX10 k a (P_X10_takeRow (u2 σ 0 (upd (σ 0) 10 ((σ 0 10) + (1 : Int32)))))) [0, 1, 2, 3, 4, 5, 6, 7, 8] [0, 1, 2, 3] 0 10 C0 hW (m_X10_takeRow l D k a H.size (u2 σ 0 (upd (σ 0) 10 ((σ 0 10) + (1 : Int32))))  hs5) (cwV 0 hts gX10_takePart_X10_takeRow rfl rfl rfl hd_X10_takeRow ⟨Nat.le_of_ble_eq_true rfl, Nat.le_of_ble_eq_true rfl⟩) (by decide) (wX10_pl k a _) rfl (wX10_rec k a _) rfl (wX10_fst k a _ _) (wX10_put k a _ _) hl rfl rfl (Nat.le_of_ble_eq_true rfl) dX10_takePart_68 ⟨Nat.le_refl 0, Nat.le_refl 0⟩ (fun H locs hW => ?_)
      exact b_X10_takePart_b71c l D k a A C0 R (P_X10_takeRow (u2 σ 0 (upd (σ 0) 10 ((σ 0 10) + (1 : Int32))))) hs hR H locs ls hW (lv_sub hl [] rfl)
    · have hs := hs.2 c_4
      rw [if_neg c_4] at hR
      by_cases c_6 : (P_X10_next σ) = (108 : Int32)
      · have hs := hs.1 c_6
        rw [if_pos c_6] at hR
        refine lv_lookup (off := 81) (tgt := 97) hx hb dX10_takePart_16 (by decide) (by rw [c_6]; decide) (by decide) ?_
        refine lv_aload_n hx hb dX10_takePart_97 rfl (lv_at hl 1 rfl) ?_
        refine lv_iconst (v := (1 : Int32)) hx hb dX10_takePart_98 (by decide) ?_
        refine lv_sipush (v := (9999 : Int32)) hx hb dX10_takePart_99 (by decide) ?_
        have hs7 := hs.1
        have hs := hs.2
        refine q_Vv (As := [.int (1 : Int32), .int (9999 : Int32)]) (rest := []) (wf := wX10 k a) (R := P_X10_takeNumber (u2 σ 0 (upd (σ 0) 10 ((σ 0 10) + (1 : Int32)))) (1 : Int32) (9999 : Int32)) (wd' := wX10 k a (P_X10_takeNumber (u2 σ 0 (upd (σ 0) 10 ((σ 0 10) + (1 : Int32)))) (1 : Int32) (9999 : Int32))) [0, 1, 2, 3, 4, 5, 6, 7, 8] [0, 1, 2, 3] 0 10 C0 hW (m_X10_takeNumber l D k a H.size (u2 σ 0 (upd (σ 0) 10 ((σ 0 10) + (1 : Int32)))) (1 : Int32) (9999 : Int32) hs7) (cwV 2 hts gX10_takePart_X10_takeNumber rfl rfl rfl hd_X10_takeNumber ⟨Nat.le_of_ble_eq_true rfl, Nat.le_of_ble_eq_true rfl⟩) (by decide) (wX10_pl k a _) rfl (wX10_rec k a _) rfl (wX10_fst k a _ _) (wX10_put k a _ _) hl rfl rfl (Nat.le_of_ble_eq_true rfl) dX10_takePart_102 ⟨Nat.le_refl 0, Nat.le_refl 0⟩ (fun H locs hW => ?_)
        exact b_X10_takePart_b105c l D k a A C0 R (P_X10_takeNumber (u2 σ 0 (upd (σ 0) 10 ((σ 0 10) + (1 : Int32)))) (1 : Int32) (9999 : Int32)) hs hR H locs ls hW (lv_sub hl [1] rfl)
      · have hs := hs.2 c_6
        rw [if_neg c_6] at hR
        by_cases c_8 : (P_X10_next σ) = (109 : Int32)
        · have hs := hs.1 c_8
          rw [if_pos c_8] at hR
          refine lv_lookup (off := 58) (tgt := 74) hx hb dX10_takePart_16 (by decide) (by rw [c_8]; decide) (by decide) ?_
          refine lv_aload_n hx hb dX10_takePart_74 rfl (lv_at hl 1 rfl) ?_
          refine lv_iconst (v := (1 : Int32)) hx hb dX10_takePart_75 (by decide) ?_
          refine lv_bipush (v := (99 : Int32)) hx hb dX10_takePart_76 (by decide) ?_
          have hs9 := hs.1
          have hs := hs.2
          refine q_Vv (As := [.int (1 : Int32), .int (99 : Int32)]) (rest := []) (wf := wX10 k a) (R := P_X10_takeNumber (u2 σ 0 (upd (σ 0) 10 ((σ 0 10) + (1 : Int32)))) (1 : Int32) (99 : Int32)) (wd' := wX10 k a (P_X10_takeNumber (u2 σ 0 (upd (σ 0) 10 ((σ 0 10) + (1 : Int32)))) (1 : Int32) (99 : Int32))) [0, 1, 2, 3, 4, 5, 6, 7, 8] [0, 1, 2, 3] 0 10 C0 hW (m_X10_takeNumber l D k a H.size (u2 σ 0 (upd (σ 0) 10 ((σ 0 10) + (1 : Int32)))) (1 : Int32) (99 : Int32) hs9) (cwV 2 hts gX10_takePart_X10_takeNumber rfl rfl rfl hd_X10_takeNumber ⟨Nat.le_of_ble_eq_true rfl, Nat.le_of_ble_eq_true rfl⟩) (by decide) (wX10_pl k a _) rfl (wX10_rec k a _) rfl (wX10_fst k a _ _) (wX10_put k a _ _) hl rfl rfl (Nat.le_of_ble_eq_true rfl) dX10_takePart_78 ⟨Nat.le_refl 0, Nat.le_refl 0⟩ (fun H locs hW => ?_)
          exact b_X10_takePart_b81c l D k a A C0 R (P_X10_takeNumber (u2 σ 0 (upd (σ 0) 10 ((σ 0 10) + (1 : Int32)))) (1 : Int32) (99 : Int32)) hs hR H locs ls hW (lv_sub hl [1] rfl)
        · have hs := hs.2 c_8
          rw [if_neg c_8] at hR
          refine lv_lookup (off := 105) (tgt := 121) hx hb dX10_takePart_16 (by decide) ((lv_osw c_2 (by decide)).trans ((lv_osw c_4 (by decide)).trans ((lv_osw c_6 (by decide)).trans ((lv_osw c_8 (by decide)).trans (rfl))))) (by decide) ?_
          refine lv_aload_n hx hb dX10_takePart_121 rfl (lv_at hl 1 rfl) ?_
          refine lv_dup hx hb dX10_takePart_122 rfl ?_
          refine va_get (v := .int ((σ 0 10) + (1 : Int32))) (C := RX10) (T := TX10) (N := 18) hx hb hts hinX10 hown hK hW.1 0 rfl rfl 10 (by decide) hf145 (fun _ h9 => h9) rfl dX10_takePart_123 ?_
          refine lv_iconst (v := (1 : Int32)) hx hb dX10_takePart_126 (by decide) ?_
          refine lv_isub hx hb dX10_takePart_127 ?_
          refine q_putf (ty := .int) (wd' := wX10 k a (u2 σ 0 (upd (upd (σ 0) 10 ((σ 0 10) + (1 : Int32))) 10 (((σ 0 10) + (1 : Int32)) - (1 : Int32))))) C0 hW hinX10 tyX10 tyX10_ok nmX10 0 rfl rfl 10 (by decide) hf145 rfl (by decide +kernel) rfl rfl (Nat.le_of_ble_eq_true rfl) dX10_takePart_128 (fX10_s10 _ _ _) ((wX10_s0 k a _ _).trans (congrArg (wX10 k a) (u2_same _ _ _ _))) (fun H locs hW => ?_)
          refine lv_aload_n hx hb dX10_takePart_131 rfl (lv_at hl 1 rfl) ?_
          refine lv_iconst (v := (1 : Int32)) hx hb dX10_takePart_132 (by decide) ?_
          refine q_putf (ty := .boolean) (wd' := wX10 k a (u2 σ 0 (upd (upd (upd (σ 0) 10 ((σ 0 10) + (1 : Int32))) 10 (((σ 0 10) + (1 : Int32)) - (1 : Int32))) 11 (1 : Int32)))) C0 hW hinX10 tyX10 tyX10_ok nmX10 0 rfl rfl 11 (by decide) hf148 rfl (by decide +kernel) (by decide) (by decide) (Nat.le_of_ble_eq_true rfl) dX10_takePart_133 (fX10_s11 _ _ _) ((wX10_s0 k a _ _).trans (congrArg (wX10 k a) (u2_same _ _ _ _))) (fun H locs hW => ?_)
          exact q_vret C0 hW hR dX10_takePart_136
set_option maxHeartbeats 400000 in
set_option maxRecDepth 100000 in
theorem m_X10_takePart (l : Launch) (D : va_G) (k : Nat → ClassId) (a : Nat → Nat) (sz : Nat) (σ : T2) (hs : S_X10_takePart σ) : Met l yX10_takePart wsX10_takePart { frames := 3, cells := 0, slots := 0, locals := 66 } (va_Pc [.ref (a 0)] (q_B D (tyL k) (wX10 k a σ) sz)) (va_Qv (fun u => u = P_X10_takePart σ) (fun u => q_E D (tyL k) (va_A (wX10 k a σ) sz) (wX10 k a u)) (va_A (wX10 k a σ) sz)) 0 0 (va_A (wX10 k a σ) sz) := by
  refine q_met [.ref (a 0)] (wX10 k a σ) sz (cc := cX10_takePart) (maxL := 2) (ret := none) (by decide) rfl (Nat.le_of_ble_eq_true rfl) ?_
  intro p e s m args below meth c ls hsz C0 hW hl hin
  subst hsz
  exact b_X10_takePart_b0 l D k a _ C0 _ σ  hs rfl s.heap [] ls hW (lv_sub hl [0] rfl)
theorem hin_X10_fault_X10 : ∀ w ∈ u_ws RX10 TX10 18, w ∈ wsX10_fault := by decide +kernel
theorem hd_X10_fault : yX10_fault.cls = RX10 ∧ yX10_fault.cls ≠ "java/lang/invoke/MethodHandle" ∧ yX10_fault.cls ≠ "java/lang/invoke/VarHandle" ∧ (parseMethodDescriptor yX10_fault.desc).map (fun d => d.parameters.length) = some 0 := by decide +kernel
noncomputable def P_X10_fault_b67 (σ : T2) : Int32 × T2 := if (σ 0 11) = 0 then (((-6 : Int32), σ)) else ((σ 0 10, σ))
def S_X10_fault_b67 (σ : T2) : Prop := ((σ 0 11) = 0 → (True)) ∧ (¬ ((σ 0 11) = 0) → (True))
theorem P_X10_fault_b67_e (σ : T2) : P_X10_fault_b67 σ = if (σ 0 11) = 0 then (((-6 : Int32), σ)) else ((σ 0 10, σ)) := rfl
theorem S_X10_fault_b67_e (σ : T2) : S_X10_fault_b67 σ = (((σ 0 11) = 0 → (True)) ∧ (¬ ((σ 0 11) = 0) → (True))) := rfl
noncomputable def P_X10_fault_b64c (pk29 : T2 → Int32 × T2) (σ : T2) : Int32 × T2 := pk29 σ
def S_X10_fault_b64c (sk29 : T2 → Prop) (σ : T2) : Prop := sk29 σ
theorem P_X10_fault_b64c_e (pk29 : T2 → Int32 × T2) (σ : T2) : P_X10_fault_b64c pk29 σ = pk29 σ := rfl
theorem S_X10_fault_b64c_e (sk29 : T2 → Prop) (σ : T2) : S_X10_fault_b64c sk29 σ = (sk29 σ) := rfl
noncomputable def P_X10_fault_b53c (pk29 : T2 → Int32 × T2) (σ : T2) : Int32 × T2 := if (σ 0 11) = 0 then (P_X10_fault_b64c pk29 (P_X10_takePart σ)) else (pk29 σ)
def S_X10_fault_b53c (sk29 : T2 → Prop) (σ : T2) : Prop := ((σ 0 11) = 0 → ((S_X10_takePart σ ) ∧ (S_X10_fault_b64c sk29 (P_X10_takePart σ)))) ∧ (¬ ((σ 0 11) = 0) → (sk29 σ))
theorem P_X10_fault_b53c_e (pk29 : T2 → Int32 × T2) (σ : T2) : P_X10_fault_b53c pk29 σ = if (σ 0 11) = 0 then (P_X10_fault_b64c pk29 (P_X10_takePart σ)) else (pk29 σ) := rfl
theorem S_X10_fault_b53c_e (sk29 : T2 → Prop) (σ : T2) : S_X10_fault_b53c sk29 σ = (((σ 0 11) = 0 → ((S_X10_takePart σ ) ∧ (S_X10_fault_b64c sk29 (P_X10_takePart σ)))) ∧ (¬ ((σ 0 11) = 0) → (sk29 σ))) := rfl
noncomputable def P_X10_fault_b29 (n : Nat) : T2 → Int32 × T2 := Nat.rec (motive := fun _ => T2 → Int32 × T2) (fun _ => (0, fun _ _ => 0)) (fun _ pk29 => fun σ => if (σ 0 11) = 0 then (if (σ 0 9) ≤ (σ 0 10) then (P_X10_fault_b67 σ) else (P_X10_fault_b53c pk29 (P_X10_takeSign σ (59 : Int32)))) else (P_X10_fault_b67 σ)) n
def S_X10_fault_b29 (n : Nat) : T2 → Prop := Nat.rec (motive := fun _ => T2 → Prop) (fun _ => False) (fun _ sk29 => fun σ => ((σ 0 11) = 0 → (((σ 0 9) ≤ (σ 0 10) → (S_X10_fault_b67 σ)) ∧ (¬ ((σ 0 9) ≤ (σ 0 10)) → ((S_X10_takeSign σ (59 : Int32)) ∧ (S_X10_fault_b53c sk29 (P_X10_takeSign σ (59 : Int32))))))) ∧ (¬ ((σ 0 11) = 0) → (S_X10_fault_b67 σ))) n
theorem P_X10_fault_b29_e (n : Nat) (σ : T2) : P_X10_fault_b29 (n + 1) σ = if (σ 0 11) = 0 then (if (σ 0 9) ≤ (σ 0 10) then (P_X10_fault_b67 σ) else (P_X10_fault_b53c (P_X10_fault_b29 n) (P_X10_takeSign σ (59 : Int32)))) else (P_X10_fault_b67 σ) := rfl
theorem S_X10_fault_b29_e (n : Nat) (σ : T2) : S_X10_fault_b29 (n + 1) σ = (((σ 0 11) = 0 → (((σ 0 9) ≤ (σ 0 10) → (S_X10_fault_b67 σ)) ∧ (¬ ((σ 0 9) ≤ (σ 0 10)) → ((S_X10_takeSign σ (59 : Int32)) ∧ (S_X10_fault_b53c (S_X10_fault_b29 n) (P_X10_takeSign σ (59 : Int32))))))) ∧ (¬ ((σ 0 11) = 0) → (S_X10_fault_b67 σ))) := rfl
noncomputable def P_X10_fault_b0 (σ : T2) : Int32 × T2 := P_X10_fault_b29 FU (P_X10_takePart (u2 σ 0 (upd (upd (upd (upd (upd (σ 0) 10 (0 : Int32)) 11 (0 : Int32)) 13 (0 : Int32)) 14 (0 : Int32)) 15 (0 : Int32))))
def S_X10_fault_b0 (σ : T2) : Prop := (S_X10_takePart (u2 σ 0 (upd (upd (upd (upd (upd (σ 0) 10 (0 : Int32)) 11 (0 : Int32)) 13 (0 : Int32)) 14 (0 : Int32)) 15 (0 : Int32))) ) ∧ (S_X10_fault_b29 FU (P_X10_takePart (u2 σ 0 (upd (upd (upd (upd (upd (σ 0) 10 (0 : Int32)) 11 (0 : Int32)) 13 (0 : Int32)) 14 (0 : Int32)) 15 (0 : Int32)))))
theorem P_X10_fault_b0_e (σ : T2) : P_X10_fault_b0 σ = P_X10_fault_b29 FU (P_X10_takePart (u2 σ 0 (upd (upd (upd (upd (upd (σ 0) 10 (0 : Int32)) 11 (0 : Int32)) 13 (0 : Int32)) 14 (0 : Int32)) 15 (0 : Int32)))) := rfl
theorem S_X10_fault_b0_e (σ : T2) : S_X10_fault_b0 σ = ((S_X10_takePart (u2 σ 0 (upd (upd (upd (upd (upd (σ 0) 10 (0 : Int32)) 11 (0 : Int32)) 13 (0 : Int32)) 14 (0 : Int32)) 15 (0 : Int32))) ) ∧ (S_X10_fault_b29 FU (P_X10_takePart (u2 σ 0 (upd (upd (upd (upd (upd (σ 0) 10 (0 : Int32)) 11 (0 : Int32)) 13 (0 : Int32)) 14 (0 : Int32)) 15 (0 : Int32)))))) := rfl
noncomputable def P_X10_fault (σ : T2) : Int32 × T2 := P_X10_fault_b0 σ
def S_X10_fault (σ : T2) : Prop := S_X10_fault_b0 σ
set_option maxHeartbeats 400000 in
set_option maxRecDepth 100000 in
theorem b_X10_fault_b67 {p : Program} {e : Env} {s : State} {m : MethodId} {args : Array Value} {below : List Frame} {meth : Method} {c : Code} (l : Launch) (D : va_G) (k : Nat → ClassId) (a : Nat → Nat) (A : Nat → Prop) (C0 : q_C p s m meth c args RX10 cX10_fault 1 (some .int) wsX10_fault D (tyL k) A) (R : Int32 × T2) : ∀ (σ : T2), S_X10_fault_b67 σ → P_X10_fault_b67 σ = R → ∀ (H : Heap) (locs : List Loc) (ls : Array Slot), q_W D A s.heap (wX10 k a σ) H locs → lv_has ls 1 [(0, .ref (a 0))] → W p l e { frames := 4, cells := 0, slots := 0, locals := 87 } s m args below meth c H locs 0 0 (MQ below (va_Qi (fun r u => (r, u) = R) (fun u => q_E D (tyL k) A (wX10 k a u)) A) args s 0 0 A) (F0 m 67 ls []) := by
  intro σ hs hR H locs ls hW hl
  rw [P_X10_fault_b67_e] at hR
  rw [S_X10_fault_b67_e] at hs
  obtain ⟨hx, hb, hr, hml, hts, hown, hlocks, hK, hA⟩ := id C0
  have hf145 := hts (.fieldLink RX10 145 "BeatFollowerModel" "spot" "I") (by decide +kernel)
  have hf148 := hts (.fieldLink RX10 148 "BeatFollowerModel" "isWrong" "Z") (by decide +kernel)
  have hinX10 : ∀ w ∈ u_ws RX10 TX10 18, w ∈ wsX10_fault := hin_X10_fault_X10
  refine lv_aload_n hx hb dX10_fault_67 rfl (lv_at hl 0 rfl) ?_
  refine va_get (v := .int (σ 0 11)) (C := RX10) (T := TX10) (N := 18) hx hb hts hinX10 hown hK hW.1 0 rfl rfl 11 (by decide) hf148 (fun _ h9 => h9) rfl dX10_fault_68 ?_
  refine lv_if_eq (tgt := 81) hx hb dX10_fault_71 (by decide) (fun c_3 => ?_) (fun c_3 => ?_)
  · have hs := hs.1 c_3
    rw [if_pos c_3] at hR
    refine lv_bipush (v := (-6 : Int32)) hx hb dX10_fault_81 (by decide) ?_
    exact q_iret C0 hW hR dX10_fault_83
  · have hs := hs.2 c_3
    rw [if_neg c_3] at hR
    refine lv_aload_n hx hb dX10_fault_74 rfl (lv_at hl 0 rfl) ?_
    refine va_get (v := .int (σ 0 10)) (C := RX10) (T := TX10) (N := 18) hx hb hts hinX10 hown hK hW.1 0 rfl rfl 10 (by decide) hf145 (fun _ h9 => h9) rfl dX10_fault_75 ?_
    refine lv_goto (tgt := 83) hx hb dX10_fault_78 (by decide) ?_
    exact q_iret C0 hW hR dX10_fault_83
set_option maxHeartbeats 400000 in
set_option maxRecDepth 100000 in
theorem b_X10_fault_b64c {p : Program} {e : Env} {s : State} {m : MethodId} {args : Array Value} {below : List Frame} {meth : Method} {c : Code} (l : Launch) (D : va_G) (k : Nat → ClassId) (a : Nat → Nat) (A : Nat → Prop) (C0 : q_C p s m meth c args RX10 cX10_fault 1 (some .int) wsX10_fault D (tyL k) A) (R : Int32 × T2) (pk29 : T2 → Int32 × T2) (sk29 : T2 → Prop) (hk29 : ∀ (σ : T2), sk29 σ → pk29 σ = R → ∀ (H : Heap) (locs : List Loc) (ls : Array Slot), q_W D A s.heap (wX10 k a σ) H locs → lv_has ls 1 [(0, .ref (a 0))] → W p l e { frames := 4, cells := 0, slots := 0, locals := 87 } s m args below meth c H locs 0 0 (MQ below (va_Qi (fun r u => (r, u) = R) (fun u => q_E D (tyL k) A (wX10 k a u)) A) args s 0 0 A) (F0 m 29 ls [])) : ∀ (σ : T2), S_X10_fault_b64c sk29 σ → P_X10_fault_b64c pk29 σ = R → ∀ (H : Heap) (locs : List Loc) (ls : Array Slot), q_W D A s.heap (wX10 k a σ) H locs → lv_has ls 1 [(0, .ref (a 0))] → W p l e { frames := 4, cells := 0, slots := 0, locals := 87 } s m args below meth c H locs 0 0 (MQ below (va_Qi (fun r u => (r, u) = R) (fun u => q_E D (tyL k) A (wX10 k a u)) A) args s 0 0 A) (F0 m 64 ls []) := by
  intro σ hs hR H locs ls hW hl
  rw [P_X10_fault_b64c_e] at hR
  rw [S_X10_fault_b64c_e] at hs
  obtain ⟨hx, hb, hr, hml, hts, hown, hlocks, hK, hA⟩ := id C0
  refine lv_goto (tgt := 29) hx hb dX10_fault_64 (by decide) ?_
  exact hk29 σ hs hR H locs ls hW (lv_sub hl [0] rfl)
set_option maxHeartbeats 400000 in
set_option maxRecDepth 100000 in
theorem b_X10_fault_b53c {p : Program} {e : Env} {s : State} {m : MethodId} {args : Array Value} {below : List Frame} {meth : Method} {c : Code} (l : Launch) (D : va_G) (k : Nat → ClassId) (a : Nat → Nat) (A : Nat → Prop) (C0 : q_C p s m meth c args RX10 cX10_fault 1 (some .int) wsX10_fault D (tyL k) A) (R : Int32 × T2) (pk29 : T2 → Int32 × T2) (sk29 : T2 → Prop) (hk29 : ∀ (σ : T2), sk29 σ → pk29 σ = R → ∀ (H : Heap) (locs : List Loc) (ls : Array Slot), q_W D A s.heap (wX10 k a σ) H locs → lv_has ls 1 [(0, .ref (a 0))] → W p l e { frames := 4, cells := 0, slots := 0, locals := 87 } s m args below meth c H locs 0 0 (MQ below (va_Qi (fun r u => (r, u) = R) (fun u => q_E D (tyL k) A (wX10 k a u)) A) args s 0 0 A) (F0 m 29 ls [])) : ∀ (σ : T2), S_X10_fault_b53c sk29 σ → P_X10_fault_b53c pk29 σ = R → ∀ (H : Heap) (locs : List Loc) (ls : Array Slot), q_W D A s.heap (wX10 k a σ) H locs → lv_has ls 1 [(0, .ref (a 0))] → W p l e { frames := 4, cells := 0, slots := 0, locals := 87 } s m args below meth c H locs 0 0 (MQ below (va_Qi (fun r u => (r, u) = R) (fun u => q_E D (tyL k) A (wX10 k a u)) A) args s 0 0 A) (F0 m 53 ls []) := by
  intro σ hs hR H locs ls hW hl
  rw [P_X10_fault_b53c_e] at hR
  rw [S_X10_fault_b53c_e] at hs
  obtain ⟨hx, hb, hr, hml, hts, hown, hlocks, hK, hA⟩ := id C0
  have hf148 := hts (.fieldLink RX10 148 "BeatFollowerModel" "isWrong" "Z") (by decide +kernel)
  have hinX10 : ∀ w ∈ u_ws RX10 TX10 18, w ∈ wsX10_fault := hin_X10_fault_X10
  refine lv_aload_n hx hb dX10_fault_53 rfl (lv_at hl 0 rfl) ?_
  refine va_get (v := .int (σ 0 11)) (C := RX10) (T := TX10) (N := 18) hx hb hts hinX10 hown hK hW.1 0 rfl rfl 11 (by decide) hf148 (fun _ h9 => h9) rfl dX10_fault_54 ?_
  refine lv_if_ne (tgt := 29) hx hb dX10_fault_57 (by decide) (fun c_6 => ?_) (fun c_6 => ?_)
  · have hs := hs.2 c_6
    rw [if_neg c_6] at hR
    exact hk29 σ hs hR H locs ls hW (lv_sub hl [0] rfl)
  · have hs := hs.1 c_6
    rw [if_pos c_6] at hR
    refine lv_aload_n hx hb dX10_fault_60 rfl (lv_at hl 0 rfl) ?_
    have hs7 := hs.1
    have hs := hs.2
    refine q_Vv (As := []) (rest := []) (wf := wX10 k a) (R := P_X10_takePart σ) (wd' := wX10 k a (P_X10_takePart σ)) [0, 1, 2, 3, 4, 5, 6, 7, 8] [0, 1, 2, 3] 0 10 C0 hW (m_X10_takePart l D k a H.size σ  hs7) (cwV 0 hts gX10_fault_X10_takePart rfl rfl rfl hd_X10_takePart ⟨Nat.le_of_ble_eq_true rfl, Nat.le_of_ble_eq_true rfl⟩) (by decide) (wX10_pl k a _) rfl (wX10_rec k a _) rfl (wX10_fst k a _ _) (wX10_put k a _ _) hl rfl rfl (Nat.le_of_ble_eq_true rfl) dX10_fault_61 ⟨Nat.le_refl 0, Nat.le_refl 0⟩ (fun H locs hW => ?_)
    exact b_X10_fault_b64c l D k a A C0 R pk29 sk29 hk29 (P_X10_takePart σ) hs hR H locs ls hW (lv_sub hl [0] rfl)
set_option maxHeartbeats 400000 in
set_option maxRecDepth 100000 in
theorem b_X10_fault_b29 {p : Program} {e : Env} {s : State} {m : MethodId} {args : Array Value} {below : List Frame} {meth : Method} {c : Code} (l : Launch) (D : va_G) (k : Nat → ClassId) (a : Nat → Nat) (A : Nat → Prop) (C0 : q_C p s m meth c args RX10 cX10_fault 1 (some .int) wsX10_fault D (tyL k) A) (R : Int32 × T2) : ∀ n : Nat, ∀ (σ : T2), S_X10_fault_b29 n σ → P_X10_fault_b29 n σ = R → ∀ (H : Heap) (locs : List Loc) (ls : Array Slot), q_W D A s.heap (wX10 k a σ) H locs → lv_has ls 1 [(0, .ref (a 0))] → W p l e { frames := 4, cells := 0, slots := 0, locals := 87 } s m args below meth c H locs 0 0 (MQ below (va_Qi (fun r u => (r, u) = R) (fun u => q_E D (tyL k) A (wX10 k a u)) A) args s 0 0 A) (F0 m 29 ls []) := by
  intro n
  induction n with
  | zero => intro σ hs; exact False.elim hs
  | succ n ih =>
    intro σ hs hR H locs ls hW hl
    rw [P_X10_fault_b29_e] at hR
    rw [S_X10_fault_b29_e] at hs
    obtain ⟨hx, hb, hr, hml, hts, hown, hlocks, hK, hA⟩ := id C0
    have hf128 := hts (.fieldLink RX10 128 "BeatFollowerModel" "padMany" "I") (by decide +kernel)
    have hf145 := hts (.fieldLink RX10 145 "BeatFollowerModel" "spot" "I") (by decide +kernel)
    have hf148 := hts (.fieldLink RX10 148 "BeatFollowerModel" "isWrong" "Z") (by decide +kernel)
    have hinX10 : ∀ w ∈ u_ws RX10 TX10 18, w ∈ wsX10_fault := hin_X10_fault_X10
    refine lv_aload_n hx hb dX10_fault_29 rfl (lv_at hl 0 rfl) ?_
    refine va_get (v := .int (σ 0 11)) (C := RX10) (T := TX10) (N := 18) hx hb hts hinX10 hown hK hW.1 0 rfl rfl 11 (by decide) hf148 (fun _ h9 => h9) rfl dX10_fault_30 ?_
    refine lv_if_ne (tgt := 67) hx hb dX10_fault_33 (by decide) (fun c_2 => ?_) (fun c_2 => ?_)
    · have hs := hs.2 c_2
      rw [if_neg c_2] at hR
      exact b_X10_fault_b67 l D k a A C0 R σ hs hR H locs ls hW (lv_sub hl [0] rfl)
    · have hs := hs.1 c_2
      rw [if_pos c_2] at hR
      refine lv_aload_n hx hb dX10_fault_36 rfl (lv_at hl 0 rfl) ?_
      refine va_get (v := .int (σ 0 10)) (C := RX10) (T := TX10) (N := 18) hx hb hts hinX10 hown hK hW.1 0 rfl rfl 10 (by decide) hf145 (fun _ h9 => h9) rfl dX10_fault_37 ?_
      refine lv_aload_n hx hb dX10_fault_40 rfl (lv_at hl 0 rfl) ?_
      refine va_get (v := .int (σ 0 9)) (C := RX10) (T := TX10) (N := 18) hx hb hts hinX10 hown hK hW.1 0 rfl rfl 9 (by decide) hf128 (fun _ h9 => h9) rfl dX10_fault_41 ?_
      refine lv_icmp_ge (tgt := 67) hx hb dX10_fault_44 (by decide) (fun c_4 => ?_) (fun c_4 => ?_)
      · have hs := hs.1 c_4
        rw [if_pos c_4] at hR
        exact b_X10_fault_b67 l D k a A C0 R σ hs hR H locs ls hW (lv_sub hl [0] rfl)
      · have hs := hs.2 c_4
        rw [if_neg c_4] at hR
        refine lv_aload_n hx hb dX10_fault_47 rfl (lv_at hl 0 rfl) ?_
        refine lv_bipush (v := (59 : Int32)) hx hb dX10_fault_48 (by decide) ?_
        have hs5 := hs.1
        have hs := hs.2
        refine q_Vv (As := [.int (59 : Int32)]) (rest := []) (wf := wX10 k a) (R := P_X10_takeSign σ (59 : Int32)) (wd' := wX10 k a (P_X10_takeSign σ (59 : Int32))) [0, 1, 2, 3, 4, 5, 6, 7, 8] [0, 1, 2, 3] 0 10 C0 hW (m_X10_takeSign l D k a H.size σ (59 : Int32) hs5) (cwV 1 hts gX10_fault_X10_takeSign rfl rfl rfl hd_X10_takeSign ⟨Nat.le_of_ble_eq_true rfl, Nat.le_of_ble_eq_true rfl⟩) (by decide) (wX10_pl k a _) rfl (wX10_rec k a _) rfl (wX10_fst k a _ _) (wX10_put k a _ _) hl rfl rfl (Nat.le_of_ble_eq_true rfl) dX10_fault_50 ⟨Nat.le_refl 0, Nat.le_refl 0⟩ (fun H locs hW => ?_)
        exact b_X10_fault_b53c l D k a A C0 R _ _ ih (P_X10_takeSign σ (59 : Int32)) hs hR H locs ls hW (lv_sub hl [0] rfl)
set_option maxHeartbeats 400000 in
set_option maxRecDepth 100000 in
theorem b_X10_fault_b0 {p : Program} {e : Env} {s : State} {m : MethodId} {args : Array Value} {below : List Frame} {meth : Method} {c : Code} (l : Launch) (D : va_G) (k : Nat → ClassId) (a : Nat → Nat) (A : Nat → Prop) (C0 : q_C p s m meth c args RX10 cX10_fault 1 (some .int) wsX10_fault D (tyL k) A) (R : Int32 × T2) : ∀ (σ : T2), S_X10_fault_b0 σ → P_X10_fault_b0 σ = R → ∀ (H : Heap) (locs : List Loc) (ls : Array Slot), q_W D A s.heap (wX10 k a σ) H locs → lv_has ls 1 [(0, .ref (a 0))] → W p l e { frames := 4, cells := 0, slots := 0, locals := 87 } s m args below meth c H locs 0 0 (MQ below (va_Qi (fun r u => (r, u) = R) (fun u => q_E D (tyL k) A (wX10 k a u)) A) args s 0 0 A) (F0 m 0 ls []) := by
  intro σ hs hR H locs ls hW hl
  rw [P_X10_fault_b0_e] at hR
  rw [S_X10_fault_b0_e] at hs
  obtain ⟨hx, hb, hr, hml, hts, hown, hlocks, hK, hA⟩ := id C0
  have hf145 := hts (.fieldLink RX10 145 "BeatFollowerModel" "spot" "I") (by decide +kernel)
  have hf148 := hts (.fieldLink RX10 148 "BeatFollowerModel" "isWrong" "Z") (by decide +kernel)
  have hf158 := hts (.fieldLink RX10 158 "BeatFollowerModel" "beats" "I") (by decide +kernel)
  have hf161 := hts (.fieldLink RX10 161 "BeatFollowerModel" "laid" "I") (by decide +kernel)
  have hf164 := hts (.fieldLink RX10 164 "BeatFollowerModel" "missed" "I") (by decide +kernel)
  have hinX10 : ∀ w ∈ u_ws RX10 TX10 18, w ∈ wsX10_fault := hin_X10_fault_X10
  refine lv_aload_n hx hb dX10_fault_0 rfl (lv_at hl 0 rfl) ?_
  refine lv_iconst (v := (0 : Int32)) hx hb dX10_fault_1 (by decide) ?_
  refine q_putf (ty := .int) (wd' := wX10 k a (u2 σ 0 (upd (σ 0) 10 (0 : Int32)))) C0 hW hinX10 tyX10 tyX10_ok nmX10 0 rfl rfl 10 (by decide) hf145 rfl (by decide +kernel) rfl rfl (Nat.le_of_ble_eq_true rfl) dX10_fault_2 (fX10_s10 _ _ _) (wX10_s0 k a _ _) (fun H locs hW => ?_)
  refine lv_aload_n hx hb dX10_fault_5 rfl (lv_at hl 0 rfl) ?_
  refine lv_iconst (v := (0 : Int32)) hx hb dX10_fault_6 (by decide) ?_
  refine q_putf (ty := .boolean) (wd' := wX10 k a (u2 σ 0 (upd (upd (σ 0) 10 (0 : Int32)) 11 (0 : Int32)))) C0 hW hinX10 tyX10 tyX10_ok nmX10 0 rfl rfl 11 (by decide) hf148 rfl (by decide +kernel) (by decide) (by decide) (Nat.le_of_ble_eq_true rfl) dX10_fault_7 (fX10_s11 _ _ _) ((wX10_s0 k a _ _).trans (congrArg (wX10 k a) (u2_same _ _ _ _))) (fun H locs hW => ?_)
  refine lv_aload_n hx hb dX10_fault_10 rfl (lv_at hl 0 rfl) ?_
  refine lv_iconst (v := (0 : Int32)) hx hb dX10_fault_11 (by decide) ?_
  refine q_putf (ty := .int) (wd' := wX10 k a (u2 σ 0 (upd (upd (upd (σ 0) 10 (0 : Int32)) 11 (0 : Int32)) 13 (0 : Int32)))) C0 hW hinX10 tyX10 tyX10_ok nmX10 0 rfl rfl 13 (by decide) hf158 rfl (by decide +kernel) rfl rfl (Nat.le_of_ble_eq_true rfl) dX10_fault_12 (fX10_s13 _ _ _) ((wX10_s0 k a _ _).trans (congrArg (wX10 k a) (u2_same _ _ _ _))) (fun H locs hW => ?_)
  refine lv_aload_n hx hb dX10_fault_15 rfl (lv_at hl 0 rfl) ?_
  refine lv_iconst (v := (0 : Int32)) hx hb dX10_fault_16 (by decide) ?_
  refine q_putf (ty := .int) (wd' := wX10 k a (u2 σ 0 (upd (upd (upd (upd (σ 0) 10 (0 : Int32)) 11 (0 : Int32)) 13 (0 : Int32)) 14 (0 : Int32)))) C0 hW hinX10 tyX10 tyX10_ok nmX10 0 rfl rfl 14 (by decide) hf161 rfl (by decide +kernel) rfl rfl (Nat.le_of_ble_eq_true rfl) dX10_fault_17 (fX10_s14 _ _ _) ((wX10_s0 k a _ _).trans (congrArg (wX10 k a) (u2_same _ _ _ _))) (fun H locs hW => ?_)
  refine lv_aload_n hx hb dX10_fault_20 rfl (lv_at hl 0 rfl) ?_
  refine lv_iconst (v := (0 : Int32)) hx hb dX10_fault_21 (by decide) ?_
  refine q_putf (ty := .int) (wd' := wX10 k a (u2 σ 0 (upd (upd (upd (upd (upd (σ 0) 10 (0 : Int32)) 11 (0 : Int32)) 13 (0 : Int32)) 14 (0 : Int32)) 15 (0 : Int32)))) C0 hW hinX10 tyX10 tyX10_ok nmX10 0 rfl rfl 15 (by decide) hf164 rfl (by decide +kernel) rfl rfl (Nat.le_of_ble_eq_true rfl) dX10_fault_22 (fX10_s15 _ _ _) ((wX10_s0 k a _ _).trans (congrArg (wX10 k a) (u2_same _ _ _ _))) (fun H locs hW => ?_)
  refine lv_aload_n hx hb dX10_fault_25 rfl (lv_at hl 0 rfl) ?_
  have hs1 := hs.1
  have hs := hs.2
  refine q_Vv (As := []) (rest := []) (wf := wX10 k a) (R := P_X10_takePart (u2 σ 0 (upd (upd (upd (upd (upd (σ 0) 10 (0 : Int32)) 11 (0 : Int32)) 13 (0 : Int32)) 14 (0 : Int32)) 15 (0 : Int32)))) (wd' := wX10 k a (P_X10_takePart (u2 σ 0 (upd (upd (upd (upd (upd (σ 0) 10 (0 : Int32)) 11 (0 : Int32)) 13 (0 : Int32)) 14 (0 : Int32)) 15 (0 : Int32))))) [0, 1, 2, 3, 4, 5, 6, 7, 8] [0, 1, 2, 3] 0 10 C0 hW (m_X10_takePart l D k a H.size (u2 σ 0 (upd (upd (upd (upd (upd (σ 0) 10 (0 : Int32)) 11 (0 : Int32)) 13 (0 : Int32)) 14 (0 : Int32)) 15 (0 : Int32)))  hs1) (cwV 0 hts gX10_fault_X10_takePart rfl rfl rfl hd_X10_takePart ⟨Nat.le_of_ble_eq_true rfl, Nat.le_of_ble_eq_true rfl⟩) (by decide) (wX10_pl k a _) rfl (wX10_rec k a _) rfl (wX10_fst k a _ _) (wX10_put k a _ _) hl rfl rfl (Nat.le_of_ble_eq_true rfl) dX10_fault_26 ⟨Nat.le_refl 0, Nat.le_refl 0⟩ (fun H locs hW => ?_)
  exact b_X10_fault_b29 l D k a A C0 R FU (P_X10_takePart (u2 σ 0 (upd (upd (upd (upd (upd (σ 0) 10 (0 : Int32)) 11 (0 : Int32)) 13 (0 : Int32)) 14 (0 : Int32)) 15 (0 : Int32)))) hs hR H locs ls hW (lv_sub hl [0] rfl)
set_option maxHeartbeats 400000 in
set_option maxRecDepth 100000 in
theorem m_X10_fault (l : Launch) (D : va_G) (k : Nat → ClassId) (a : Nat → Nat) (sz : Nat) (σ : T2) (hs : S_X10_fault σ) : Met l yX10_fault wsX10_fault { frames := 4, cells := 0, slots := 0, locals := 87 } (va_Pc [.ref (a 0)] (q_B D (tyL k) (wX10 k a σ) sz)) (va_Qi (fun r u => (r, u) = P_X10_fault σ) (fun u => q_E D (tyL k) (va_A (wX10 k a σ) sz) (wX10 k a u)) (va_A (wX10 k a σ) sz)) 0 0 (va_A (wX10 k a σ) sz) := by
  refine q_met [.ref (a 0)] (wX10 k a σ) sz (cc := cX10_fault) (maxL := 1) (ret := (some .int)) (by decide) rfl (Nat.le_of_ble_eq_true rfl) ?_
  intro p e s m args below meth c ls hsz C0 hW hl hin
  subst hsz
  exact b_X10_fault_b0 l D k a _ C0 _ σ  hs rfl s.heap [] ls hW (lv_sub hl [0] rfl)
