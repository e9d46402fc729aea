theorem hdi_X5_init : yX5_init.cls ≠ "java/lang/invoke/MethodHandle" ∧ yX5_init.cls ≠ "java/lang/invoke/VarHandle" ∧ (parseMethodDescriptor yX5_init.desc).map (fun d => d.parameters.length) = some 0 := by decide +kernel
theorem hin_X5_init_X5 : ∀ w ∈ u_ws RX5 TX5 3, w ∈ wsX5_init := by decide +kernel
set_option maxHeartbeats 1000000 in
set_option maxRecDepth 100000 in
theorem m_X5_init (l : Launch) (D : va_G) (k : Nat → ClassId) (h : Nat) (sz : Nat) : Met l yX5_init wsX5_init { frames := 1, cells := 2, slots := 128, locals := 12 } (va_Pc [.ref h] (fun U => q_B D (tyL k) [(h, .inr (5, [.null, .null, .int 0]))] sz U ∧ True)) (va_Qv (fun u : Nat → Nat => u 0 = h) (fun u => q_E D (tyL k) (va_A [(h, .inr (5, [.null, .null, .int 0]))] sz) (wX5 k u (fun _ _ => 0))) (va_A [(h, .inr (5, [.null, .null, .int 0]))] sz)) 2 128 (va_A [(h, .inr (5, [.null, .null, .int 0]))] sz) := by
  refine q_metz [.ref h] [(h, .inr (5, [.null, .null, .int 0]))] sz (fun _ => True) (cc := cX5_init) (maxL := 1) (ret := none) (by decide) rfl (Nat.le_of_ble_eq_true rfl) ?_
  intro p e s m args below meth c ls hsz _ C0 hW hl hin
  subst hsz
  generalize va_A [(h, .inr (5, [.null, .null, .int 0]))] s.heap.size = A at C0 hW ⊢
  have hl : lv_has ls 1 [(0, .ref h)] := hl
  have C0 : q_C p s m meth c args RX5 cX5_init 1 none wsX5_init D (tyL k) A := C0
  obtain ⟨hx, hb, hr, hml, hts, hown, hlocks, hK, hA⟩ := id C0
  have hf9 := hts (.fieldLink RX5 9 "BeatFollower$Plan" "times" "[I") (by decide +kernel)
  have hf15 := hts (.fieldLink RX5 15 "BeatFollower$Plan" "numbers" "[I") (by decide +kernel)
  have hinX5 := hin_X5_init_X5
  refine lv_aload_n hx hb dX5_init_0 rfl (lv_at hl 0 rfl) ?_
  refine q_objI C0 hl (hts (.methodLink RX5 3 objectInit) (by decide +kernel)) (hts (.instanceMethod objectInit) (by decide +kernel)) (hts (.code objectInit ⟨#[0xb1]⟩ 1 none) (by decide +kernel)) dX5_init_1 (Nat.le_of_ble_eq_true rfl) (Nat.le_of_ble_eq_true rfl) ?_
  refine lv_aload_n hx hb dX5_init_4 rfl (lv_at hl 0 rfl) ?_
  refine lv_bipush (v := (64 : Int32)) hx hb dX5_init_5 (by decide) ?_
  refine q_new_int (N' := 64) C0 hW (hts (.arrayClass .int) (by decide +kernel)) (by decide) (by decide) (Nat.le_of_ble_eq_true rfl) (Nat.le_of_ble_eq_true rfl) (Nat.le_of_ble_eq_true rfl) dX5_init_7 (fun q1 H hW => ?_)
  refine q_putF (ty := .array .int) (fs := [.null, .null, .int 0]) (fs' := [.ref q1, .null, .int 0]) (wd' := [(h, .inr (5, [.ref q1, .null, .int 0]))] ++ [(q1, .inl (k 0, 64, .inl (fun _ => 0)))]) C0 hW hinX5 tyX5 tyX5_ok nmX5 0 rfl rfl 0 (by decide) hf9 rfl hin rfl (by decide +kernel) rfl rfl (Nat.le_of_ble_eq_true rfl) dX5_init_9 rfl rfl (fun H locs hW => ?_)
  refine lv_aload_n hx hb dX5_init_12 rfl (lv_at hl 0 rfl) ?_
  refine lv_bipush (v := (64 : Int32)) hx hb dX5_init_13 (by decide) ?_
  refine q_new_int (N' := 64) C0 hW (hts (.arrayClass .int) (by decide +kernel)) (by decide) (by decide) (Nat.le_of_ble_eq_true rfl) (Nat.le_of_ble_eq_true rfl) (Nat.le_of_ble_eq_true rfl) dX5_init_15 (fun q2 H hW => ?_)
  refine q_putF (ty := .array .int) (fs := [.ref q1, .null, .int 0]) (fs' := [.ref q1, .ref q2, .int 0]) (wd' := [(h, .inr (5, [.ref q1, .ref q2, .int 0]))] ++ [(q1, .inl (k 0, 64, .inl (fun _ => 0)))] ++ [(q2, .inl (k 0, 64, .inl (fun _ => 0)))]) C0 hW hinX5 tyX5 tyX5_ok nmX5 0 rfl rfl 1 (by decide) hf15 rfl hin rfl (by decide +kernel) rfl rfl (Nat.le_of_ble_eq_true rfl) dX5_init_17 rfl rfl (fun H locs hW => ?_)
  have hW : q_W D A s.heap (wX5 k (q_ad [h, q1, q2]) (fun _ _ => 0)) _ _ := hW
  refine W.widen (k := 2) (n := 128) (by omega) (by omega) ?_
  exact W.vret hx hb hr (fun t ht hw => ⟨⟨q_ad [h, q1, q2], rfl, rfl, by rw [ht]; exact hW.1, va_K.moved hw.alike hK, hW.2.1⟩, hW.2.2.F ht⟩) hW.2.2.2.2 dX5_init_20 hlocks
theorem hdi_X2_init : yX2_init.cls ≠ "java/lang/invoke/MethodHandle" ∧ yX2_init.cls ≠ "java/lang/invoke/VarHandle" ∧ (parseMethodDescriptor yX2_init.desc).map (fun d => d.parameters.length) = some 0 := by decide +kernel
theorem hin_X2_init_X2 : ∀ w ∈ u_ws RX2 TX2 4, w ∈ wsX2_init := by decide +kernel
set_option maxHeartbeats 1000000 in
set_option maxRecDepth 100000 in
theorem m_X2_init (l : Launch) (D : va_G) (k : Nat → ClassId) (h : Nat) (sz : Nat) : Met l yX2_init wsX2_init { frames := 1, cells := 4, slots := 256, locals := 12 } (va_Pc [.ref h] (fun U => q_B D (tyL k) [(h, .inr (2, [.null, .null, .null, .null]))] sz U ∧ True)) (va_Qv (fun u : Nat → Nat => u 0 = h) (fun u => q_E D (tyL k) (va_A [(h, .inr (2, [.null, .null, .null, .null]))] sz) (wX2 k u (fun _ _ => 0))) (va_A [(h, .inr (2, [.null, .null, .null, .null]))] sz)) 4 256 (va_A [(h, .inr (2, [.null, .null, .null, .null]))] sz) := by
  refine q_metz [.ref h] [(h, .inr (2, [.null, .null, .null, .null]))] sz (fun _ => True) (cc := cX2_init) (maxL := 1) (ret := none) (by decide) rfl (Nat.le_of_ble_eq_true rfl) ?_
  intro p e s m args below meth c ls hsz _ C0 hW hl hin
  subst hsz
  generalize va_A [(h, .inr (2, [.null, .null, .null, .null]))] s.heap.size = A at C0 hW ⊢
  have hl : lv_has ls 1 [(0, .ref h)] := hl
  have C0 : q_C p s m meth c args RX2 cX2_init 1 none wsX2_init D (tyL k) A := C0
  obtain ⟨hx, hb, hr, hml, hts, hown, hlocks, hK, hA⟩ := id C0
  have hf9 := hts (.fieldLink RX2 9 "BeatFollower$Fates" "kinds" "[I") (by decide +kernel)
  have hf15 := hts (.fieldLink RX2 15 "BeatFollower$Fates" "blows" "[I") (by decide +kernel)
  have hf18 := hts (.fieldLink RX2 18 "BeatFollower$Fates" "offs" "[I") (by decide +kernel)
  have hf21 := hts (.fieldLink RX2 21 "BeatFollower$Fates" "slips" "[I") (by decide +kernel)
  have hinX2 := hin_X2_init_X2
  refine lv_aload_n hx hb dX2_init_0 rfl (lv_at hl 0 rfl) ?_
  refine q_objI C0 hl (hts (.methodLink RX2 3 objectInit) (by decide +kernel)) (hts (.instanceMethod objectInit) (by decide +kernel)) (hts (.code objectInit ⟨#[0xb1]⟩ 1 none) (by decide +kernel)) dX2_init_1 (Nat.le_of_ble_eq_true rfl) (Nat.le_of_ble_eq_true rfl) ?_
  refine lv_aload_n hx hb dX2_init_4 rfl (lv_at hl 0 rfl) ?_
  refine lv_bipush (v := (64 : Int32)) hx hb dX2_init_5 (by decide) ?_
  refine q_new_int (N' := 64) C0 hW (hts (.arrayClass .int) (by decide +kernel)) (by decide) (by decide) (Nat.le_of_ble_eq_true rfl) (Nat.le_of_ble_eq_true rfl) (Nat.le_of_ble_eq_true rfl) dX2_init_7 (fun q1 H hW => ?_)
  refine q_putF (ty := .array .int) (fs := [.null, .null, .null, .null]) (fs' := [.ref q1, .null, .null, .null]) (wd' := [(h, .inr (2, [.ref q1, .null, .null, .null]))] ++ [(q1, .inl (k 0, 64, .inl (fun _ => 0)))]) C0 hW hinX2 tyX2 tyX2_ok nmX2 0 rfl rfl 0 (by decide) hf9 rfl hin rfl (by decide +kernel) rfl rfl (Nat.le_of_ble_eq_true rfl) dX2_init_9 rfl rfl (fun H locs hW => ?_)
  refine lv_aload_n hx hb dX2_init_12 rfl (lv_at hl 0 rfl) ?_
  refine lv_bipush (v := (64 : Int32)) hx hb dX2_init_13 (by decide) ?_
  refine q_new_int (N' := 64) C0 hW (hts (.arrayClass .int) (by decide +kernel)) (by decide) (by decide) (Nat.le_of_ble_eq_true rfl) (Nat.le_of_ble_eq_true rfl) (Nat.le_of_ble_eq_true rfl) dX2_init_15 (fun q2 H hW => ?_)
  refine q_putF (ty := .array .int) (fs := [.ref q1, .null, .null, .null]) (fs' := [.ref q1, .ref q2, .null, .null]) (wd' := [(h, .inr (2, [.ref q1, .ref q2, .null, .null]))] ++ [(q1, .inl (k 0, 64, .inl (fun _ => 0)))] ++ [(q2, .inl (k 0, 64, .inl (fun _ => 0)))]) C0 hW hinX2 tyX2 tyX2_ok nmX2 0 rfl rfl 1 (by decide) hf15 rfl hin rfl (by decide +kernel) rfl rfl (Nat.le_of_ble_eq_true rfl) dX2_init_17 rfl rfl (fun H locs hW => ?_)
  refine lv_aload_n hx hb dX2_init_20 rfl (lv_at hl 0 rfl) ?_
  refine lv_bipush (v := (64 : Int32)) hx hb dX2_init_21 (by decide) ?_
  refine q_new_int (N' := 64) C0 hW (hts (.arrayClass .int) (by decide +kernel)) (by decide) (by decide) (Nat.le_of_ble_eq_true rfl) (Nat.le_of_ble_eq_true rfl) (Nat.le_of_ble_eq_true rfl) dX2_init_23 (fun q3 H hW => ?_)
  refine q_putF (ty := .array .int) (fs := [.ref q1, .ref q2, .null, .null]) (fs' := [.ref q1, .ref q2, .ref q3, .null]) (wd' := [(h, .inr (2, [.ref q1, .ref q2, .ref q3, .null]))] ++ [(q1, .inl (k 0, 64, .inl (fun _ => 0)))] ++ [(q2, .inl (k 0, 64, .inl (fun _ => 0)))] ++ [(q3, .inl (k 0, 64, .inl (fun _ => 0)))]) C0 hW hinX2 tyX2 tyX2_ok nmX2 0 rfl rfl 2 (by decide) hf18 rfl hin rfl (by decide +kernel) rfl rfl (Nat.le_of_ble_eq_true rfl) dX2_init_25 rfl rfl (fun H locs hW => ?_)
  refine lv_aload_n hx hb dX2_init_28 rfl (lv_at hl 0 rfl) ?_
  refine lv_bipush (v := (64 : Int32)) hx hb dX2_init_29 (by decide) ?_
  refine q_new_int (N' := 64) C0 hW (hts (.arrayClass .int) (by decide +kernel)) (by decide) (by decide) (Nat.le_of_ble_eq_true rfl) (Nat.le_of_ble_eq_true rfl) (Nat.le_of_ble_eq_true rfl) dX2_init_31 (fun q4 H hW => ?_)
  refine q_putF (ty := .array .int) (fs := [.ref q1, .ref q2, .ref q3, .null]) (fs' := [.ref q1, .ref q2, .ref q3, .ref q4]) (wd' := [(h, .inr (2, [.ref q1, .ref q2, .ref q3, .ref q4]))] ++ [(q1, .inl (k 0, 64, .inl (fun _ => 0)))] ++ [(q2, .inl (k 0, 64, .inl (fun _ => 0)))] ++ [(q3, .inl (k 0, 64, .inl (fun _ => 0)))] ++ [(q4, .inl (k 0, 64, .inl (fun _ => 0)))]) C0 hW hinX2 tyX2 tyX2_ok nmX2 0 rfl rfl 3 (by decide) hf21 rfl hin rfl (by decide +kernel) rfl rfl (Nat.le_of_ble_eq_true rfl) dX2_init_33 rfl rfl (fun H locs hW => ?_)
  have hW : q_W D A s.heap (wX2 k (q_ad [h, q1, q2, q3, q4]) (fun _ _ => 0)) _ _ := hW
  refine W.widen (k := 4) (n := 256) (by omega) (by omega) ?_
  exact W.vret hx hb hr (fun t ht hw => ⟨⟨q_ad [h, q1, q2, q3, q4], rfl, rfl, by rw [ht]; exact hW.1, va_K.moved hw.alike hK, hW.2.1⟩, hW.2.2.F ht⟩) hW.2.2.2.2 dX2_init_36 hlocks
theorem hdi_X0_init : yX0_init.cls ≠ "java/lang/invoke/MethodHandle" ∧ yX0_init.cls ≠ "java/lang/invoke/VarHandle" ∧ (parseMethodDescriptor yX0_init.desc).map (fun d => d.parameters.length) = some 0 := by decide +kernel
theorem hin_X0_init_X0 : ∀ w ∈ u_ws RX0 TX0 5, w ∈ wsX0_init := by decide +kernel
set_option maxHeartbeats 1000000 in
set_option maxRecDepth 100000 in
theorem m_X0_init (l : Launch) (D : va_G) (k : Nat → ClassId) (h : Nat) (sz : Nat) : Met l yX0_init wsX0_init { frames := 1, cells := 4, slots := 256, locals := 12 } (va_Pc [.ref h] (fun U => q_B D (tyL k) [(h, .inr (0, [.null, .null, .null, .null, .int 0]))] sz U ∧ True)) (va_Qv (fun u : Nat → Nat => u 0 = h) (fun u => q_E D (tyL k) (va_A [(h, .inr (0, [.null, .null, .null, .null, .int 0]))] sz) (wX0 k u (fun _ _ => 0))) (va_A [(h, .inr (0, [.null, .null, .null, .null, .int 0]))] sz)) 4 256 (va_A [(h, .inr (0, [.null, .null, .null, .null, .int 0]))] sz) := by
  refine q_metz [.ref h] [(h, .inr (0, [.null, .null, .null, .null, .int 0]))] sz (fun _ => True) (cc := cX0_init) (maxL := 1) (ret := none) (by decide) rfl (Nat.le_of_ble_eq_true rfl) ?_
  intro p e s m args below meth c ls hsz _ C0 hW hl hin
  subst hsz
  generalize va_A [(h, .inr (0, [.null, .null, .null, .null, .int 0]))] s.heap.size = A at C0 hW ⊢
  have hl : lv_has ls 1 [(0, .ref h)] := hl
  have C0 : q_C p s m meth c args RX0 cX0_init 1 none wsX0_init D (tyL k) A := C0
  obtain ⟨hx, hb, hr, hml, hts, hown, hlocks, hK, hA⟩ := id C0
  have hf9 := hts (.fieldLink RX0 9 "BeatFollower$Blows" "times" "[I") (by decide +kernel)
  have hf15 := hts (.fieldLink RX0 15 "BeatFollower$Blows" "beats" "[I") (by decide +kernel)
  have hf18 := hts (.fieldLink RX0 18 "BeatFollower$Blows" "periods" "[I") (by decide +kernel)
  have hf21 := hts (.fieldLink RX0 21 "BeatFollower$Blows" "states" "[I") (by decide +kernel)
  have hinX0 := hin_X0_init_X0
  refine lv_aload_n hx hb dX0_init_0 rfl (lv_at hl 0 rfl) ?_
  refine q_objI C0 hl (hts (.methodLink RX0 3 objectInit) (by decide +kernel)) (hts (.instanceMethod objectInit) (by decide +kernel)) (hts (.code objectInit ⟨#[0xb1]⟩ 1 none) (by decide +kernel)) dX0_init_1 (Nat.le_of_ble_eq_true rfl) (Nat.le_of_ble_eq_true rfl) ?_
  refine lv_aload_n hx hb dX0_init_4 rfl (lv_at hl 0 rfl) ?_
  refine lv_bipush (v := (64 : Int32)) hx hb dX0_init_5 (by decide) ?_
  refine q_new_int (N' := 64) C0 hW (hts (.arrayClass .int) (by decide +kernel)) (by decide) (by decide) (Nat.le_of_ble_eq_true rfl) (Nat.le_of_ble_eq_true rfl) (Nat.le_of_ble_eq_true rfl) dX0_init_7 (fun q1 H hW => ?_)
  refine q_putF (ty := .array .int) (fs := [.null, .null, .null, .null, .int 0]) (fs' := [.ref q1, .null, .null, .null, .int 0]) (wd' := [(h, .inr (0, [.ref q1, .null, .null, .null, .int 0]))] ++ [(q1, .inl (k 0, 64, .inl (fun _ => 0)))]) C0 hW hinX0 tyX0 tyX0_ok nmX0 0 rfl rfl 0 (by decide) hf9 rfl hin rfl (by decide +kernel) rfl rfl (Nat.le_of_ble_eq_true rfl) dX0_init_9 rfl rfl (fun H locs hW => ?_)
  refine lv_aload_n hx hb dX0_init_12 rfl (lv_at hl 0 rfl) ?_
  refine lv_bipush (v := (64 : Int32)) hx hb dX0_init_13 (by decide) ?_
  refine q_new_int (N' := 64) C0 hW (hts (.arrayClass .int) (by decide +kernel)) (by decide) (by decide) (Nat.le_of_ble_eq_true rfl) (Nat.le_of_ble_eq_true rfl) (Nat.le_of_ble_eq_true rfl) dX0_init_15 (fun q2 H hW => ?_)
  refine q_putF (ty := .array .int) (fs := [.ref q1, .null, .null, .null, .int 0]) (fs' := [.ref q1, .ref q2, .null, .null, .int 0]) (wd' := [(h, .inr (0, [.ref q1, .ref q2, .null, .null, .int 0]))] ++ [(q1, .inl (k 0, 64, .inl (fun _ => 0)))] ++ [(q2, .inl (k 0, 64, .inl (fun _ => 0)))]) C0 hW hinX0 tyX0 tyX0_ok nmX0 0 rfl rfl 1 (by decide) hf15 rfl hin rfl (by decide +kernel) rfl rfl (Nat.le_of_ble_eq_true rfl) dX0_init_17 rfl rfl (fun H locs hW => ?_)
  refine lv_aload_n hx hb dX0_init_20 rfl (lv_at hl 0 rfl) ?_
  refine lv_bipush (v := (64 : Int32)) hx hb dX0_init_21 (by decide) ?_
  refine q_new_int (N' := 64) C0 hW (hts (.arrayClass .int) (by decide +kernel)) (by decide) (by decide) (Nat.le_of_ble_eq_true rfl) (Nat.le_of_ble_eq_true rfl) (Nat.le_of_ble_eq_true rfl) dX0_init_23 (fun q3 H hW => ?_)
  refine q_putF (ty := .array .int) (fs := [.ref q1, .ref q2, .null, .null, .int 0]) (fs' := [.ref q1, .ref q2, .ref q3, .null, .int 0]) (wd' := [(h, .inr (0, [.ref q1, .ref q2, .ref q3, .null, .int 0]))] ++ [(q1, .inl (k 0, 64, .inl (fun _ => 0)))] ++ [(q2, .inl (k 0, 64, .inl (fun _ => 0)))] ++ [(q3, .inl (k 0, 64, .inl (fun _ => 0)))]) C0 hW hinX0 tyX0 tyX0_ok nmX0 0 rfl rfl 2 (by decide) hf18 rfl hin rfl (by decide +kernel) rfl rfl (Nat.le_of_ble_eq_true rfl) dX0_init_25 rfl rfl (fun H locs hW => ?_)
  refine lv_aload_n hx hb dX0_init_28 rfl (lv_at hl 0 rfl) ?_
  refine lv_bipush (v := (64 : Int32)) hx hb dX0_init_29 (by decide) ?_
  refine q_new_int (N' := 64) C0 hW (hts (.arrayClass .int) (by decide +kernel)) (by decide) (by decide) (Nat.le_of_ble_eq_true rfl) (Nat.le_of_ble_eq_true rfl) (Nat.le_of_ble_eq_true rfl) dX0_init_31 (fun q4 H hW => ?_)
  refine q_putF (ty := .array .int) (fs := [.ref q1, .ref q2, .ref q3, .null, .int 0]) (fs' := [.ref q1, .ref q2, .ref q3, .ref q4, .int 0]) (wd' := [(h, .inr (0, [.ref q1, .ref q2, .ref q3, .ref q4, .int 0]))] ++ [(q1, .inl (k 0, 64, .inl (fun _ => 0)))] ++ [(q2, .inl (k 0, 64, .inl (fun _ => 0)))] ++ [(q3, .inl (k 0, 64, .inl (fun _ => 0)))] ++ [(q4, .inl (k 0, 64, .inl (fun _ => 0)))]) C0 hW hinX0 tyX0 tyX0_ok nmX0 0 rfl rfl 3 (by decide) hf21 rfl hin rfl (by decide +kernel) rfl rfl (Nat.le_of_ble_eq_true rfl) dX0_init_33 rfl rfl (fun H locs hW => ?_)
  have hW : q_W D A s.heap (wX0 k (q_ad [h, q1, q2, q3, q4]) (fun _ _ => 0)) _ _ := hW
  refine W.widen (k := 4) (n := 256) (by omega) (by omega) ?_
  exact W.vret hx hb hr (fun t ht hw => ⟨⟨q_ad [h, q1, q2, q3, q4], rfl, rfl, by rw [ht]; exact hW.1, va_K.moved hw.alike hK, hW.2.1⟩, hW.2.2.F ht⟩) hW.2.2.2.2 dX0_init_36 hlocks
theorem hdi_X1_init : yX1_init.cls ≠ "java/lang/invoke/MethodHandle" ∧ yX1_init.cls ≠ "java/lang/invoke/VarHandle" ∧ (parseMethodDescriptor yX1_init.desc).map (fun d => d.parameters.length) = some 0 := by decide +kernel
set_option maxHeartbeats 1000000 in
set_option maxRecDepth 100000 in
theorem m_X1_init (l : Launch) (D : va_G) (k : Nat → ClassId) (h : Nat) (sz : Nat) : Met l yX1_init wsX1_init { frames := 1, cells := 0, slots := 0, locals := 12 } (va_Pc [.ref h] (fun U => q_B D (tyL k) [(h, .inr (1, [.int 0, .int 0, .int 0, .int 0, .int 0, .int 0, .int 0]))] sz U ∧ True)) (va_Qv (fun u : Nat → Nat => u 0 = h) (fun u => q_E D (tyL k) (va_A [(h, .inr (1, [.int 0, .int 0, .int 0, .int 0, .int 0, .int 0, .int 0]))] sz) (wX1 k u (fun _ _ => 0))) (va_A [(h, .inr (1, [.int 0, .int 0, .int 0, .int 0, .int 0, .int 0, .int 0]))] sz)) 0 0 (va_A [(h, .inr (1, [.int 0, .int 0, .int 0, .int 0, .int 0, .int 0, .int 0]))] sz) := by
  refine q_metz [.ref h] [(h, .inr (1, [.int 0, .int 0, .int 0, .int 0, .int 0, .int 0, .int 0]))] sz (fun _ => True) (cc := cX1_init) (maxL := 1) (ret := none) (by decide) rfl (Nat.le_of_ble_eq_true rfl) ?_
  intro p e s m args below meth c ls hsz _ C0 hW hl hin
  subst hsz
  generalize va_A [(h, .inr (1, [.int 0, .int 0, .int 0, .int 0, .int 0, .int 0, .int 0]))] s.heap.size = A at C0 hW ⊢
  have hl : lv_has ls 1 [(0, .ref h)] := hl
  have C0 : q_C p s m meth c args RX1 cX1_init 1 none wsX1_init D (tyL k) A := C0
  obtain ⟨hx, hb, hr, hml, hts, hown, hlocks, hK, hA⟩ := id C0
  refine lv_aload_n hx hb dX1_init_0 rfl (lv_at hl 0 rfl) ?_
  refine q_objI C0 hl (hts (.methodLink RX1 3 objectInit) (by decide +kernel)) (hts (.instanceMethod objectInit) (by decide +kernel)) (hts (.code objectInit ⟨#[0xb1]⟩ 1 none) (by decide +kernel)) dX1_init_1 (Nat.le_of_ble_eq_true rfl) (Nat.le_of_ble_eq_true rfl) ?_
  have hW : q_W D A s.heap (wX1 k (q_ad [h]) (fun _ _ => 0)) _ _ := hW
  refine W.widen (k := 0) (n := 0) (by omega) (by omega) ?_
  exact W.vret hx hb hr (fun t ht hw => ⟨⟨q_ad [h], rfl, rfl, by rw [ht]; exact hW.1, va_K.moved hw.alike hK, hW.2.1⟩, hW.2.2.F ht⟩) hW.2.2.2.2 dX1_init_4 hlocks
theorem hdi_X8_init : yX8_init.cls ≠ "java/lang/invoke/MethodHandle" ∧ yX8_init.cls ≠ "java/lang/invoke/VarHandle" ∧ (parseMethodDescriptor yX8_init.desc).map (fun d => d.parameters.length) = some 0 := by decide +kernel
set_option maxHeartbeats 1000000 in
set_option maxRecDepth 100000 in
theorem m_X8_init (l : Launch) (D : va_G) (k : Nat → ClassId) (h : Nat) (sz : Nat) : Met l yX8_init wsX8_init { frames := 1, cells := 0, slots := 0, locals := 12 } (va_Pc [.ref h] (fun U => q_B D (tyL k) [(h, .inr (8, [.int 0, .int 0, .int 0, .int 0, .int 0, .int 0, .int 0, .int 0, .int 0, .int 0]))] sz U ∧ True)) (va_Qv (fun u : Nat → Nat => u 0 = h) (fun u => q_E D (tyL k) (va_A [(h, .inr (8, [.int 0, .int 0, .int 0, .int 0, .int 0, .int 0, .int 0, .int 0, .int 0, .int 0]))] sz) (wX8 k u (fun _ _ => 0))) (va_A [(h, .inr (8, [.int 0, .int 0, .int 0, .int 0, .int 0, .int 0, .int 0, .int 0, .int 0, .int 0]))] sz)) 0 0 (va_A [(h, .inr (8, [.int 0, .int 0, .int 0, .int 0, .int 0, .int 0, .int 0, .int 0, .int 0, .int 0]))] sz) := by
  refine q_metz [.ref h] [(h, .inr (8, [.int 0, .int 0, .int 0, .int 0, .int 0, .int 0, .int 0, .int 0, .int 0, .int 0]))] sz (fun _ => True) (cc := cX8_init) (maxL := 1) (ret := none) (by decide) rfl (Nat.le_of_ble_eq_true rfl) ?_
  intro p e s m args below meth c ls hsz _ C0 hW hl hin
  subst hsz
  generalize va_A [(h, .inr (8, [.int 0, .int 0, .int 0, .int 0, .int 0, .int 0, .int 0, .int 0, .int 0, .int 0]))] s.heap.size = A at C0 hW ⊢
  have hl : lv_has ls 1 [(0, .ref h)] := hl
  have C0 : q_C p s m meth c args RX8 cX8_init 1 none wsX8_init D (tyL k) A := C0
  obtain ⟨hx, hb, hr, hml, hts, hown, hlocks, hK, hA⟩ := id C0
  refine lv_aload_n hx hb dX8_init_0 rfl (lv_at hl 0 rfl) ?_
  refine q_objI C0 hl (hts (.methodLink RX8 1 objectInit) (by decide +kernel)) (hts (.instanceMethod objectInit) (by decide +kernel)) (hts (.code objectInit ⟨#[0xb1]⟩ 1 none) (by decide +kernel)) dX8_init_1 (Nat.le_of_ble_eq_true rfl) (Nat.le_of_ble_eq_true rfl) ?_
  have hW : q_W D A s.heap (wX8 k (q_ad [h]) (fun _ _ => 0)) _ _ := hW
  refine W.widen (k := 0) (n := 0) (by omega) (by omega) ?_
  exact W.vret hx hb hr (fun t ht hw => ⟨⟨q_ad [h], rfl, rfl, by rw [ht]; exact hW.1, va_K.moved hw.alike hK, hW.2.1⟩, hW.2.2.F ht⟩) hW.2.2.2.2 dX8_init_4 hlocks
theorem hdi_X4_init : yX4_init.cls ≠ "java/lang/invoke/MethodHandle" ∧ yX4_init.cls ≠ "java/lang/invoke/VarHandle" ∧ (parseMethodDescriptor yX4_init.desc).map (fun d => d.parameters.length) = some 0 := by decide +kernel
theorem hin_X4_init_X4 : ∀ w ∈ u_ws RX4 TX4 2, w ∈ wsX4_init := by decide +kernel
set_option maxHeartbeats 1000000 in
set_option maxRecDepth 100000 in
theorem m_X4_init (l : Launch) (D : va_G) (k : Nat → ClassId) (h : Nat) (sz : Nat) : Met l yX4_init wsX4_init { frames := 1, cells := 1, slots := 80, locals := 12 } (va_Pc [.ref h] (fun U => q_B D (tyL k) [(h, .inr (4, [.null, .int 0]))] sz U ∧ True)) (va_Qv (fun u : Nat → Nat => u 0 = h) (fun u => q_E D (tyL k) (va_A [(h, .inr (4, [.null, .int 0]))] sz) (wX4 k u (fun _ _ => 0))) (va_A [(h, .inr (4, [.null, .int 0]))] sz)) 1 80 (va_A [(h, .inr (4, [.null, .int 0]))] sz) := by
  refine q_metz [.ref h] [(h, .inr (4, [.null, .int 0]))] sz (fun _ => True) (cc := cX4_init) (maxL := 1) (ret := none) (by decide) rfl (Nat.le_of_ble_eq_true rfl) ?_
  intro p e s m args below meth c ls hsz _ C0 hW hl hin
  subst hsz
  generalize va_A [(h, .inr (4, [.null, .int 0]))] s.heap.size = A at C0 hW ⊢
  have hl : lv_has ls 1 [(0, .ref h)] := hl
  have C0 : q_C p s m meth c args RX4 cX4_init 1 none wsX4_init D (tyL k) A := C0
  obtain ⟨hx, hb, hr, hml, hts, hown, hlocks, hK, hA⟩ := id C0
  have hf9 := hts (.fieldLink RX4 9 "BeatFollower$Pad" "signs" "[C") (by decide +kernel)
  have hinX4 := hin_X4_init_X4
  refine lv_aload_n hx hb dX4_init_0 rfl (lv_at hl 0 rfl) ?_
  refine q_objI C0 hl (hts (.methodLink RX4 3 objectInit) (by decide +kernel)) (hts (.instanceMethod objectInit) (by decide +kernel)) (hts (.code objectInit ⟨#[0xb1]⟩ 1 none) (by decide +kernel)) dX4_init_1 (Nat.le_of_ble_eq_true rfl) (Nat.le_of_ble_eq_true rfl) ?_
  refine lv_aload_n hx hb dX4_init_4 rfl (lv_at hl 0 rfl) ?_
  refine lv_bipush (v := (80 : Int32)) hx hb dX4_init_5 (by decide) ?_
  refine q_new_char (N' := 80) C0 hW (hts (.arrayClass .char) (by decide +kernel)) (by decide) (by decide) (Nat.le_of_ble_eq_true rfl) (Nat.le_of_ble_eq_true rfl) (Nat.le_of_ble_eq_true rfl) dX4_init_7 (fun q1 H hW => ?_)
  refine q_putF (ty := .array .char) (fs := [.null, .int 0]) (fs' := [.ref q1, .int 0]) (wd' := [(h, .inr (4, [.ref q1, .int 0]))] ++ [(q1, .inl (k 2, 80, .inl (fun _ => 0)))]) C0 hW hinX4 tyX4 tyX4_ok nmX4 0 rfl rfl 0 (by decide) hf9 rfl hin rfl (by decide +kernel) rfl rfl (Nat.le_of_ble_eq_true rfl) dX4_init_9 rfl rfl (fun H locs hW => ?_)
  have hW : q_W D A s.heap (wX4 k (q_ad [h, q1]) (fun _ _ => 0)) _ _ := hW
  refine W.widen (k := 1) (n := 80) (by omega) (by omega) ?_
  exact W.vret hx hb hr (fun t ht hw => ⟨⟨q_ad [h, q1], rfl, rfl, by rw [ht]; exact hW.1, va_K.moved hw.alike hK, hW.2.1⟩, hW.2.2.F ht⟩) hW.2.2.2.2 dX4_init_12 hlocks
theorem hdi_X6_init : yX6_init.cls ≠ "java/lang/invoke/MethodHandle" ∧ yX6_init.cls ≠ "java/lang/invoke/VarHandle" ∧ (parseMethodDescriptor yX6_init.desc).map (fun d => d.parameters.length) = some 0 := by decide +kernel
theorem hin_X6_init_X6 : ∀ w ∈ u_ws RX6 TX6 7, w ∈ wsX6_init := by decide +kernel
set_option maxHeartbeats 1000000 in
set_option maxRecDepth 100000 in
theorem m_X6_init (l : Launch) (D : va_G) (k : Nat → ClassId) (h : Nat) (sz : Nat) : Met l yX6_init wsX6_init { frames := 1, cells := 2, slots := 128, locals := 12 } (va_Pc [.ref h] (fun U => q_B D (tyL k) [(h, .inr (6, [.null, .null, .int 0, .int 0, .int 0, .int 0, .int 0]))] sz U ∧ True)) (va_Qv (fun u : Nat → Nat => u 0 = h) (fun u => q_E D (tyL k) (va_A [(h, .inr (6, [.null, .null, .int 0, .int 0, .int 0, .int 0, .int 0]))] sz) (wX6 k u (fun _ _ => 0))) (va_A [(h, .inr (6, [.null, .null, .int 0, .int 0, .int 0, .int 0, .int 0]))] sz)) 2 128 (va_A [(h, .inr (6, [.null, .null, .int 0, .int 0, .int 0, .int 0, .int 0]))] sz) := by
  refine q_metz [.ref h] [(h, .inr (6, [.null, .null, .int 0, .int 0, .int 0, .int 0, .int 0]))] sz (fun _ => True) (cc := cX6_init) (maxL := 1) (ret := none) (by decide) rfl (Nat.le_of_ble_eq_true rfl) ?_
  intro p e s m args below meth c ls hsz _ C0 hW hl hin
  subst hsz
  generalize va_A [(h, .inr (6, [.null, .null, .int 0, .int 0, .int 0, .int 0, .int 0]))] s.heap.size = A at C0 hW ⊢
  have hl : lv_has ls 1 [(0, .ref h)] := hl
  have C0 : q_C p s m meth c args RX6 cX6_init 1 none wsX6_init D (tyL k) A := C0
  obtain ⟨hx, hb, hr, hml, hts, hown, hlocks, hK, hA⟩ := id C0
  have hf9 := hts (.fieldLink RX6 9 "BeatFollower$Reader" "gaps" "[I") (by decide +kernel)
  have hf15 := hts (.fieldLink RX6 15 "BeatFollower$Reader" "misses" "[I") (by decide +kernel)
  have hinX6 := hin_X6_init_X6
  refine lv_aload_n hx hb dX6_init_0 rfl (lv_at hl 0 rfl) ?_
  refine q_objI C0 hl (hts (.methodLink RX6 3 objectInit) (by decide +kernel)) (hts (.instanceMethod objectInit) (by decide +kernel)) (hts (.code objectInit ⟨#[0xb1]⟩ 1 none) (by decide +kernel)) dX6_init_1 (Nat.le_of_ble_eq_true rfl) (Nat.le_of_ble_eq_true rfl) ?_
  refine lv_aload_n hx hb dX6_init_4 rfl (lv_at hl 0 rfl) ?_
  refine lv_bipush (v := (64 : Int32)) hx hb dX6_init_5 (by decide) ?_
  refine q_new_int (N' := 64) C0 hW (hts (.arrayClass .int) (by decide +kernel)) (by decide) (by decide) (Nat.le_of_ble_eq_true rfl) (Nat.le_of_ble_eq_true rfl) (Nat.le_of_ble_eq_true rfl) dX6_init_7 (fun q1 H hW => ?_)
  refine q_putF (ty := .array .int) (fs := [.null, .null, .int 0, .int 0, .int 0, .int 0, .int 0]) (fs' := [.ref q1, .null, .int 0, .int 0, .int 0, .int 0, .int 0]) (wd' := [(h, .inr (6, [.ref q1, .null, .int 0, .int 0, .int 0, .int 0, .int 0]))] ++ [(q1, .inl (k 0, 64, .inl (fun _ => 0)))]) C0 hW hinX6 tyX6 tyX6_ok nmX6 0 rfl rfl 0 (by decide) hf9 rfl hin rfl (by decide +kernel) rfl rfl (Nat.le_of_ble_eq_true rfl) dX6_init_9 rfl rfl (fun H locs hW => ?_)
  refine lv_aload_n hx hb dX6_init_12 rfl (lv_at hl 0 rfl) ?_
  refine lv_bipush (v := (64 : Int32)) hx hb dX6_init_13 (by decide) ?_
  refine q_new_int (N' := 64) C0 hW (hts (.arrayClass .int) (by decide +kernel)) (by decide) (by decide) (Nat.le_of_ble_eq_true rfl) (Nat.le_of_ble_eq_true rfl) (Nat.le_of_ble_eq_true rfl) dX6_init_15 (fun q2 H hW => ?_)
  refine q_putF (ty := .array .int) (fs := [.ref q1, .null, .int 0, .int 0, .int 0, .int 0, .int 0]) (fs' := [.ref q1, .ref q2, .int 0, .int 0, .int 0, .int 0, .int 0]) (wd' := [(h, .inr (6, [.ref q1, .ref q2, .int 0, .int 0, .int 0, .int 0, .int 0]))] ++ [(q1, .inl (k 0, 64, .inl (fun _ => 0)))] ++ [(q2, .inl (k 0, 64, .inl (fun _ => 0)))]) C0 hW hinX6 tyX6 tyX6_ok nmX6 0 rfl rfl 1 (by decide) hf15 rfl hin rfl (by decide +kernel) rfl rfl (Nat.le_of_ble_eq_true rfl) dX6_init_17 rfl rfl (fun H locs hW => ?_)
  have hW : q_W D A s.heap (wX6 k (q_ad [h, q1, q2]) (fun _ _ => 0)) _ _ := hW
  refine W.widen (k := 2) (n := 128) (by omega) (by omega) ?_
  exact W.vret hx hb hr (fun t ht hw => ⟨⟨q_ad [h, q1, q2], rfl, rfl, by rw [ht]; exact hW.1, va_K.moved hw.alike hK, hW.2.1⟩, hW.2.2.F ht⟩) hW.2.2.2.2 dX6_init_20 hlocks
