def q_N7 (U : State) : Prop := va_Nw (.methodLinkNest RX7 17 yX5_init "BeatFollower") U ∧ va_Nw (.methodLinkNest RX7 24 yX2_init "BeatFollower") U ∧ va_Nw (.methodLinkNest RX7 31 yX0_init "BeatFollower") U ∧ va_Nw (.methodLinkNest RX7 38 yX1_init "BeatFollower") U ∧ va_Nw (.methodLinkNest RX7 45 yX8_init "BeatFollower") U ∧ va_Nw (.fieldLinkNest RX7 50 "BeatFollower" "FIRST" "[I" "BeatFollower") U
theorem q_N7_warm {s U : State} (hw : s.WarmedH U.vm) (h : q_N7 s) : q_N7 U := ⟨va_Nw.warmM hw h.1, va_Nw.warmM hw h.2.1, va_Nw.warmM hw h.2.2.1, va_Nw.warmM hw h.2.2.2.1, va_Nw.warmM hw h.2.2.2.2.1, va_Nw.warmF hw h.2.2.2.2.2⟩
theorem q_N7_calling (a : Array Value) (U : State) (g : JFrame) (mk : MethodId) (h : q_N7 U) : q_N7 (U.calling g mk a) := ⟨va_Nw.same (u := U) rfl rfl h.1, va_Nw.same (u := U) rfl rfl h.2.1, va_Nw.same (u := U) rfl rfl h.2.2.1, va_Nw.same (u := U) rfl rfl h.2.2.2.1, va_Nw.same (u := U) rfl rfl h.2.2.2.2.1, va_Nw.same (u := U) rfl rfl h.2.2.2.2.2⟩
theorem q_AO_warm {s U : State} (hw : s.WarmedH U.vm) (h : va_AO "BeatFollower$Scene" s) : va_AO "BeatFollower$Scene" U := va_AO.moved hw.alike h
theorem q_AO_calling (a : Array Value) (U : State) (g : JFrame) (mk : MethodId) (h : va_AO "BeatFollower$Scene" U) : va_AO "BeatFollower$Scene" (U.calling g mk a) := va_AO.moved (u := U) (Vm.Alike.refl U.vm) h
theorem q_lastA {p : Program} {s : State} {m : MethodId} {args : Array Value} {meth : Method} {c : Code} {own : String} {cc : ByteArray} {maxL : Nat} {ret : Option FieldType} {ws : List Cond} {D : va_G} {tys : List (ClassId × FieldType)} {A : Nat → Prop} {H : Heap} {locs : List Loc} {wr : va_W} {b : Nat} {ev : va_E} (C0 : q_C p s m meth c args own cc maxL ret ws D tys A) (hW : q_W D A s.heap (wr ++ [(b, ev)]) H locs) : ∀ q, va_A [(b, ev)] H.size q → A q := by
  intro q h
  rcases h with ⟨k2, e2, h⟩ | h
  · have h3 : (b, ev) = (q, e2) := by
      cases k2 with
      | zero => exact Option.some.inj h
      | succ k3 => simp at h
    have h4 := hW.2.1.2 wr.length (b, ev) (by simp)
    have h5 : b = q := congrArg Prod.fst h3
    rw [← h5]; exact h4
  · exact C0.2.2.2.2.2.2.2.2 q (Nat.le_trans hW.2.2.1 h)
noncomputable def q_S1 : T2 := u2 (fun _ _ => 0) 1 (va_cpy q_fi (fun _ => 0) 0 0 8)
noncomputable def q_S0 : T2 := P_X7_begin q_S1
theorem q_S1_ok : S_X7_begin q_S1 := by
  simp [S_X7_begin, S_X7_begin_b0, S_X7_begin_b20c, S_X8_clear, S_X8_clear_b0, S_X7_firstPeriod, S_X7_firstPeriod_b0, S_X1_begin, S_X1_begin_b0]
theorem q_iarr {t : Nat} {f f2 : Nat → Option Nat} (n : Nat) (cA : ClassId) (h : ∀ i, i < n → f i = f2 i) (D : va_G) (H : Heap) (hP : va_at D vwCl (t, .inl (cA, n, .inr (.inr (.inr (.inr f))))) H) : va_at D vwCl (t, .inl (cA, n, .inr (.inr (.inr (.inr f2))))) H := by
  have e : arrV cA n (fun j => va_rf (f j)) = arrV cA n (fun j => va_rf (f2 j)) := by
    unfold arrV
    congr 1
    refine Array.ext (by simp) (fun i h1 h2 => ?_)
    have hi : i < n := by simpa using h1
    simp [h i hi]
  show H[t]? = some (vp_cell cA (n, .inr (.inr (.inr (.inr f2)))))
  have h1 : H[t]? = some (vp_cell cA (n, .inr (.inr (.inr (.inr f))))) := hP
  rw [h1, vp_cell_q, vp_cell_q, e]
theorem hdi_X7_init : yX7_init.cls ≠ "java/lang/invoke/MethodHandle" ∧ yX7_init.cls ≠ "java/lang/invoke/VarHandle" ∧ (parseMethodDescriptor yX7_init.desc).map (fun d => d.parameters.length) = some 0 := by decide +kernel
theorem hin_X7_init_X0 : ∀ w ∈ u_ws RX0 TX0 5, w ∈ wsX7_init := by decide +kernel
theorem hin_X7_init_X1 : ∀ w ∈ u_ws RX1 TX1 7, w ∈ wsX7_init := by decide +kernel
theorem hin_X7_init_X2 : ∀ w ∈ u_ws RX2 TX2 4, w ∈ wsX7_init := by decide +kernel
theorem hin_X7_init_X5 : ∀ w ∈ u_ws RX5 TX5 3, w ∈ wsX7_init := by decide +kernel
theorem hin_X7_init_X7 : ∀ w ∈ u_ws RX7 TX7 7, w ∈ wsX7_init := by decide +kernel
theorem hin_X7_init_X8 : ∀ w ∈ u_ws RX8 TX8 10, w ∈ wsX7_init := by decide +kernel
set_option maxHeartbeats 2000000 in
set_option maxRecDepth 100000 in
theorem m_X7_init (l : Launch) (D : va_G) (k : Nat → ClassId) (h : Nat) (sz : Nat) (z : Nat → Nat) : Met l yX7_init wsX7_init { frames := 2, cells := 16, slots := 677, locals := 41 } (va_Pc [.ref h] (fun U => q_B D (tyL k) [(h, .inr (7, [.null, .null, .null, .null, .null, .null, .int 0]))] sz U ∧ q_Z U (va_A [(h, .inr (7, [.null, .null, .null, .null, .null, .null, .int 0]))] sz) z ∧ q_N7 U)) (va_Qv (fun u : Nat → Nat => u 0 = h) (fun u => q_E D (tyL k) (va_A [(h, .inr (7, [.null, .null, .null, .null, .null, .null, .int 0]))] sz) (wX7 k u q_S0)) (va_A [(h, .inr (7, [.null, .null, .null, .null, .null, .null, .int 0]))] sz)) 16 677 (va_A [(h, .inr (7, [.null, .null, .null, .null, .null, .null, .int 0]))] sz) := by
  refine q_metz [.ref h] [(h, .inr (7, [.null, .null, .null, .null, .null, .null, .int 0]))] sz (fun U => q_Z U (va_A [(h, .inr (7, [.null, .null, .null, .null, .null, .null, .int 0]))] sz) z ∧ q_N7 U) (cc := cX7_init) (maxL := 1) (ret := none) (by decide) rfl (Nat.le_of_ble_eq_true rfl) ?_
  intro p e s m args below meth c ls hsz hX C0 hW hl hin
  subst hsz
  obtain ⟨Z0, N7⟩ := hX
  generalize va_A [(h, .inr (7, [.null, .null, .null, .null, .null, .null, .int 0]))] s.heap.size = A at C0 hW Z0 ⊢
  have hl : lv_has ls 1 [(0, .ref h)] := hl
  have C0 : q_C p s m meth c args RX7 cX7_init 1 none wsX7_init D (tyL k) A := C0
  obtain ⟨hx, hb, hr, hml, hts, hown, hlocks, hK, hA⟩ := id C0
  have hf9 := hts (.fieldLink RX7 9 "BeatFollower$Scene" "settings" "[I") (by decide +kernel)
  have hf18 := hts (.fieldLink RX7 18 "BeatFollower$Scene" "plan" "LBeatFollower$Plan;") (by decide +kernel)
  have hf25 := hts (.fieldLink RX7 25 "BeatFollower$Scene" "fates" "LBeatFollower$Fates;") (by decide +kernel)
  have hf32 := hts (.fieldLink RX7 32 "BeatFollower$Scene" "blows" "LBeatFollower$Blows;") (by decide +kernel)
  have hf39 := hts (.fieldLink RX7 39 "BeatFollower$Scene" "drummer" "LBeatFollower$Drummer;") (by decide +kernel)
  have hf46 := hts (.fieldLink RX7 46 "BeatFollower$Scene" "tally" "LBeatFollower$Tally;") (by decide +kernel)
  have hinX0 := hin_X7_init_X0
  have hinX1 := hin_X7_init_X1
  have hinX2 := hin_X7_init_X2
  have hinX5 := hin_X7_init_X5
  have hinX7 := hin_X7_init_X7
  have hinX8 := hin_X7_init_X8
  refine lv_aload_n hx hb dX7_init_0 rfl (lv_at hl 0 rfl) ?_
  refine q_objI C0 hl (hts (.methodLink RX7 3 objectInit) (by decide +kernel)) (hts (.instanceMethod objectInit) (by decide +kernel)) (hts (.code objectInit ⟨#[0xb1]⟩ 1 none) (by decide +kernel)) dX7_init_1 (Nat.le_of_ble_eq_true rfl) (Nat.le_of_ble_eq_true rfl) ?_
  refine lv_aload_n hx hb dX7_init_4 rfl (lv_at hl 0 rfl) ?_
  refine lv_bipush (v := (8 : Int32)) hx hb dX7_init_5 (by decide) ?_
  refine q_new_int (N' := 8) C0 hW (hts (.arrayClass .int) (by decide +kernel)) (by decide) (by decide) (Nat.le_of_ble_eq_true rfl) (Nat.le_of_ble_eq_true rfl) (Nat.le_of_ble_eq_true rfl) dX7_init_7 (fun q1 H hW => ?_)
  refine q_putF (ty := .array .int) (fs := [.null, .null, .null, .null, .null, .null, .int 0]) (fs' := [.ref q1, .null, .null, .null, .null, .null, .int 0]) (wd' := [(h, .inr (7, [.ref q1, .null, .null, .null, .null, .null, .int 0]))] ++ [(q1, .inl (k 0, 8, .inl (fun _ => 0)))]) C0 hW hinX7 tyX7 tyX7_ok nmX7 0 rfl rfl 0 (by decide) hf9 rfl hin rfl (by decide +kernel) rfl rfl (Nat.le_of_ble_eq_true rfl) dX7_init_9 rfl rfl (fun H locs hW => ?_)
  refine lv_aload_n hx hb dX7_init_12 rfl (lv_at hl 0 rfl) ?_
  refine q_newo (C := RX5) (T := TX5) (N := 3) (ci := 5) (fs := [.null, .null, .int 0]) C0 hW hinX5 tyX5 tyX5_ok (hts (.classLink RX7 15 RX5) (by decide +kernel)) (hts (.instantiable RX5 3) (by decide +kernel)) (hts (.initialized RX5) (by decide +kernel)) rfl (fun j hj => by rcases (show j = 0 ∨ j = 1 ∨ j = 2 by omega) with rfl | rfl | rfl <;> rfl) (Nat.le_of_ble_eq_true rfl) (Nat.le_of_ble_eq_true rfl) dX7_init_13 (fun q2 H hWn => ?_)
  refine lv_dup hx hb dX7_init_16 rfl ?_
  refine q_ctorN (host := "BeatFollower") (rest := [.ref q2, .ref h]) (wf := fun u => wX5 k u (fun _ _ => 0)) (Rp := fun u : Nat → Nat => u 0 = q2) (X := fun _ => True) C0 hWn (m_X5_init l D k q2 _) ⟨va_cnB (host := "BeatFollower") 0 hts gX7_init_X5_init_n17 rfl rfl rfl N7.1 (hts (.initialized RX5) (by decide +kernel)) hdi_X5_init ⟨Nat.le_of_ble_eq_true rfl, Nat.le_of_ble_eq_true rfl⟩, rfl, hts (.instanceMethod yX5_init) (by decide +kernel)⟩ (fun _ _ _ => trivial) (fun _ _ _ _ _ => trivial) hl (Nat.le_of_ble_eq_true rfl) dX7_init_17 ⟨Nat.le_of_ble_eq_true rfl, Nat.le_of_ble_eq_true rfl⟩ (fun u3 H locs e3 hW => ?_)
  subst e3
  refine q_putF (ty := .object "BeatFollower$Plan") (fs := [.ref q1, .null, .null, .null, .null, .null, .int 0]) (fs' := [.ref q1, .ref (u3 0), .null, .null, .null, .null, .int 0]) (wd' := [(h, .inr (7, [.ref q1, .ref (u3 0), .null, .null, .null, .null, .int 0]))] ++ [(q1, .inl (k 0, 8, .inl (fun _ => 0)))] ++ wX5 k u3 (fun _ _ => 0)) C0 hW hinX7 tyX7 tyX7_ok nmX7 0 rfl rfl 1 (by decide) hf18 rfl hin rfl (by decide +kernel) rfl rfl (Nat.le_of_ble_eq_true rfl) dX7_init_20 rfl rfl (fun H locs hW => ?_)
  refine lv_aload_n hx hb dX7_init_23 rfl (lv_at hl 0 rfl) ?_
  refine q_newo (C := RX2) (T := TX2) (N := 4) (ci := 2) (fs := [.null, .null, .null, .null]) C0 hW hinX2 tyX2 tyX2_ok (hts (.classLink RX7 22 RX2) (by decide +kernel)) (hts (.instantiable RX2 4) (by decide +kernel)) (hts (.initialized RX2) (by decide +kernel)) rfl (fun j hj => by rcases (show j = 0 ∨ j = 1 ∨ j = 2 ∨ j = 3 by omega) with rfl | rfl | rfl | rfl <;> rfl) (Nat.le_of_ble_eq_true rfl) (Nat.le_of_ble_eq_true rfl) dX7_init_24 (fun q4 H hWn => ?_)
  refine lv_dup hx hb dX7_init_27 rfl ?_
  refine q_ctorN (host := "BeatFollower") (rest := [.ref q4, .ref h]) (wf := fun u => wX2 k u (fun _ _ => 0)) (Rp := fun u : Nat → Nat => u 0 = q4) (X := fun _ => True) C0 hWn (m_X2_init l D k q4 _) ⟨va_cnB (host := "BeatFollower") 0 hts gX7_init_X2_init_n24 rfl rfl rfl N7.2.1 (hts (.initialized RX2) (by decide +kernel)) hdi_X2_init ⟨Nat.le_of_ble_eq_true rfl, Nat.le_of_ble_eq_true rfl⟩, rfl, hts (.instanceMethod yX2_init) (by decide +kernel)⟩ (fun _ _ _ => trivial) (fun _ _ _ _ _ => trivial) hl (Nat.le_of_ble_eq_true rfl) dX7_init_28 ⟨Nat.le_of_ble_eq_true rfl, Nat.le_of_ble_eq_true rfl⟩ (fun u5 H locs e5 hW => ?_)
  subst e5
  refine q_putF (ty := .object "BeatFollower$Fates") (fs := [.ref q1, .ref (u3 0), .null, .null, .null, .null, .int 0]) (fs' := [.ref q1, .ref (u3 0), .ref (u5 0), .null, .null, .null, .int 0]) (wd' := [(h, .inr (7, [.ref q1, .ref (u3 0), .ref (u5 0), .null, .null, .null, .int 0]))] ++ [(q1, .inl (k 0, 8, .inl (fun _ => 0)))] ++ wX5 k u3 (fun _ _ => 0) ++ wX2 k u5 (fun _ _ => 0)) C0 hW hinX7 tyX7 tyX7_ok nmX7 0 rfl rfl 2 (by decide) hf25 rfl hin rfl (by decide +kernel) rfl rfl (Nat.le_of_ble_eq_true rfl) dX7_init_31 rfl rfl (fun H locs hW => ?_)
  refine lv_aload_n hx hb dX7_init_34 rfl (lv_at hl 0 rfl) ?_
  refine q_newo (C := RX0) (T := TX0) (N := 5) (ci := 0) (fs := [.null, .null, .null, .null, .int 0]) C0 hW hinX0 tyX0 tyX0_ok (hts (.classLink RX7 29 RX0) (by decide +kernel)) (hts (.instantiable RX0 5) (by decide +kernel)) (hts (.initialized RX0) (by decide +kernel)) rfl (fun j hj => by rcases (show j = 0 ∨ j = 1 ∨ j = 2 ∨ j = 3 ∨ j = 4 by omega) with rfl | rfl | rfl | rfl | rfl <;> rfl) (Nat.le_of_ble_eq_true rfl) (Nat.le_of_ble_eq_true rfl) dX7_init_35 (fun q6 H hWn => ?_)
  refine lv_dup hx hb dX7_init_38 rfl ?_
  refine q_ctorN (host := "BeatFollower") (rest := [.ref q6, .ref h]) (wf := fun u => wX0 k u (fun _ _ => 0)) (Rp := fun u : Nat → Nat => u 0 = q6) (X := fun _ => True) C0 hWn (m_X0_init l D k q6 _) ⟨va_cnB (host := "BeatFollower") 0 hts gX7_init_X0_init_n31 rfl rfl rfl N7.2.2.1 (hts (.initialized RX0) (by decide +kernel)) hdi_X0_init ⟨Nat.le_of_ble_eq_true rfl, Nat.le_of_ble_eq_true rfl⟩, rfl, hts (.instanceMethod yX0_init) (by decide +kernel)⟩ (fun _ _ _ => trivial) (fun _ _ _ _ _ => trivial) hl (Nat.le_of_ble_eq_true rfl) dX7_init_39 ⟨Nat.le_of_ble_eq_true rfl, Nat.le_of_ble_eq_true rfl⟩ (fun u7 H locs e7 hW => ?_)
  subst e7
  refine q_putF (ty := .object "BeatFollower$Blows") (fs := [.ref q1, .ref (u3 0), .ref (u5 0), .null, .null, .null, .int 0]) (fs' := [.ref q1, .ref (u3 0), .ref (u5 0), .ref (u7 0), .null, .null, .int 0]) (wd' := [(h, .inr (7, [.ref q1, .ref (u3 0), .ref (u5 0), .ref (u7 0), .null, .null, .int 0]))] ++ [(q1, .inl (k 0, 8, .inl (fun _ => 0)))] ++ wX5 k u3 (fun _ _ => 0) ++ wX2 k u5 (fun _ _ => 0) ++ wX0 k u7 (fun _ _ => 0)) C0 hW hinX7 tyX7 tyX7_ok nmX7 0 rfl rfl 3 (by decide) hf32 rfl hin rfl (by decide +kernel) rfl rfl (Nat.le_of_ble_eq_true rfl) dX7_init_42 rfl rfl (fun H locs hW => ?_)
  refine lv_aload_n hx hb dX7_init_45 rfl (lv_at hl 0 rfl) ?_
  refine q_newo (C := RX1) (T := TX1) (N := 7) (ci := 1) (fs := [.int 0, .int 0, .int 0, .int 0, .int 0, .int 0, .int 0]) C0 hW hinX1 tyX1 tyX1_ok (hts (.classLink RX7 36 RX1) (by decide +kernel)) (hts (.instantiable RX1 7) (by decide +kernel)) (hts (.initialized RX1) (by decide +kernel)) rfl (fun j hj => by rcases (show j = 0 ∨ j = 1 ∨ j = 2 ∨ j = 3 ∨ j = 4 ∨ j = 5 ∨ j = 6 by omega) with rfl | rfl | rfl | rfl | rfl | rfl | rfl <;> rfl) (Nat.le_of_ble_eq_true rfl) (Nat.le_of_ble_eq_true rfl) dX7_init_46 (fun q8 H hWn => ?_)
  refine lv_dup hx hb dX7_init_49 rfl ?_
  refine q_ctorN (host := "BeatFollower") (rest := [.ref q8, .ref h]) (wf := fun u => wX1 k u (fun _ _ => 0)) (Rp := fun u : Nat → Nat => u 0 = q8) (X := fun _ => True) C0 hWn (m_X1_init l D k q8 _) ⟨va_cnB (host := "BeatFollower") 0 hts gX7_init_X1_init_n38 rfl rfl rfl N7.2.2.2.1 (hts (.initialized RX1) (by decide +kernel)) hdi_X1_init ⟨Nat.le_of_ble_eq_true rfl, Nat.le_of_ble_eq_true rfl⟩, rfl, hts (.instanceMethod yX1_init) (by decide +kernel)⟩ (fun _ _ _ => trivial) (fun _ _ _ _ _ => trivial) hl (Nat.le_of_ble_eq_true rfl) dX7_init_50 ⟨Nat.le_of_ble_eq_true rfl, Nat.le_of_ble_eq_true rfl⟩ (fun u9 H locs e9 hW => ?_)
  subst e9
  refine q_putF (ty := .object "BeatFollower$Drummer") (fs := [.ref q1, .ref (u3 0), .ref (u5 0), .ref (u7 0), .null, .null, .int 0]) (fs' := [.ref q1, .ref (u3 0), .ref (u5 0), .ref (u7 0), .ref (u9 0), .null, .int 0]) (wd' := [(h, .inr (7, [.ref q1, .ref (u3 0), .ref (u5 0), .ref (u7 0), .ref (u9 0), .null, .int 0]))] ++ [(q1, .inl (k 0, 8, .inl (fun _ => 0)))] ++ wX5 k u3 (fun _ _ => 0) ++ wX2 k u5 (fun _ _ => 0) ++ wX0 k u7 (fun _ _ => 0) ++ wX1 k u9 (fun _ _ => 0)) C0 hW hinX7 tyX7 tyX7_ok nmX7 0 rfl rfl 4 (by decide) hf39 rfl hin rfl (by decide +kernel) rfl rfl (Nat.le_of_ble_eq_true rfl) dX7_init_53 rfl rfl (fun H locs hW => ?_)
  refine lv_aload_n hx hb dX7_init_56 rfl (lv_at hl 0 rfl) ?_
  refine q_newo (C := RX8) (T := TX8) (N := 10) (ci := 8) (fs := [.int 0, .int 0, .int 0, .int 0, .int 0, .int 0, .int 0, .int 0, .int 0, .int 0]) C0 hW hinX8 tyX8 tyX8_ok (hts (.classLink RX7 43 RX8) (by decide +kernel)) (hts (.instantiable RX8 10) (by decide +kernel)) (hts (.initialized RX8) (by decide +kernel)) rfl (fun j hj => by rcases (show j = 0 ∨ j = 1 ∨ j = 2 ∨ j = 3 ∨ j = 4 ∨ j = 5 ∨ j = 6 ∨ j = 7 ∨ j = 8 ∨ j = 9 by omega) with rfl | rfl | rfl | rfl | rfl | rfl | rfl | rfl | rfl | rfl <;> rfl) (Nat.le_of_ble_eq_true rfl) (Nat.le_of_ble_eq_true rfl) dX7_init_57 (fun q10 H hWn => ?_)
  refine lv_dup hx hb dX7_init_60 rfl ?_
  refine q_ctorN (host := "BeatFollower") (rest := [.ref q10, .ref h]) (wf := fun u => wX8 k u (fun _ _ => 0)) (Rp := fun u : Nat → Nat => u 0 = q10) (X := fun _ => True) C0 hWn (m_X8_init l D k q10 _) ⟨va_cnB (host := "BeatFollower") 0 hts gX7_init_X8_init_n45 rfl rfl rfl N7.2.2.2.2.1 (hts (.initialized RX8) (by decide +kernel)) hdi_X8_init ⟨Nat.le_of_ble_eq_true rfl, Nat.le_of_ble_eq_true rfl⟩, rfl, hts (.instanceMethod yX8_init) (by decide +kernel)⟩ (fun _ _ _ => trivial) (fun _ _ _ _ _ => trivial) hl (Nat.le_of_ble_eq_true rfl) dX7_init_61 ⟨Nat.le_of_ble_eq_true rfl, Nat.le_of_ble_eq_true rfl⟩ (fun u11 H locs e11 hW => ?_)
  subst e11
  refine q_putF (ty := .object "BeatFollower$Tally") (fs := [.ref q1, .ref (u3 0), .ref (u5 0), .ref (u7 0), .ref (u9 0), .null, .int 0]) (fs' := [.ref q1, .ref (u3 0), .ref (u5 0), .ref (u7 0), .ref (u9 0), .ref (u11 0), .int 0]) (wd' := [(h, .inr (7, [.ref q1, .ref (u3 0), .ref (u5 0), .ref (u7 0), .ref (u9 0), .ref (u11 0), .int 0]))] ++ [(q1, .inl (k 0, 8, .inl (fun _ => 0)))] ++ wX5 k u3 (fun _ _ => 0) ++ wX2 k u5 (fun _ _ => 0) ++ wX0 k u7 (fun _ _ => 0) ++ wX1 k u9 (fun _ _ => 0) ++ wX8 k u11 (fun _ _ => 0)) C0 hW hinX7 tyX7 tyX7_ok nmX7 0 rfl rfl 5 (by decide) hf46 rfl hin rfl (by decide +kernel) rfl rfl (Nat.le_of_ble_eq_true rfl) dX7_init_64 rfl rfl (fun H locs hW => ?_)
  have hW : q_W D A s.heap (wX7 k (fun j => if j = 0 then h else if j = 1 then q1 else if j < 5 then u3 (j - 2) else if j < 10 then u5 (j - 5) else if j < 15 then u7 (j - 10) else if j < 16 then u9 (j - 15) else u11 (j - 16)) (fun _ _ => 0)) _ _ := hW
  refine W.widen (k := 16) (n := 677) (by omega) (by omega) ?_
  obtain ⟨a, ha⟩ : ∃ a : Nat → Nat, a = (fun j => if j = 0 then h else if j = 1 then q1 else if j < 5 then u3 (j - 2) else if j < 10 then u5 (j - 5) else if j < 15 then u7 (j - 10) else if j < 16 then u9 (j - 15) else u11 (j - 16)) := ⟨_, rfl⟩
  have ha0 : h = a 0 := by rw [ha]; rfl
  rw [← ha] at hW
  have hl : lv_has ls 1 [(0, .ref (a 0))] := by rw [← ha0]; exact hl
  refine va_getsN (host := "BeatFollower") (v := .ref (z 2)) hx hb Z0.2.2.2.2.1 hW.2.2 hown (va_Nw.use rfl N7.2.2.2.2.2) (fun _ h9 => h9) dX7_init_67 ?_
  refine lv_iconst (v := (0 : Int32)) hx hb dX7_init_70 (by decide) ?_
  refine lv_aload_n hx hb dX7_init_71 rfl (lv_at hl 0 rfl) ?_
  refine va_get (v := .ref (a 1)) (C := RX7) (T := TX7) (N := 7) hx hb hts hinX7 hown hK hW.1 0 rfl rfl 0 (by decide) hf9 (fun _ h9 => h9) rfl dX7_init_72 ?_
  refine lv_iconst (v := (0 : Int32)) hx hb dX7_init_75 (by decide) ?_
  refine lv_bipush (v := (8 : Int32)) hx hb dX7_init_76 (by decide) ?_
  refine q_cpyT (g := fun _ => 0) (q1 := 1) (wd' := wX7 k a q_S1) C0 hW Z0.2.2.2.2.2 rfl (by rw [hml]; exact hl.1.symm) (hts (.methodLink RX7 53 arraycopyName) (by decide +kernel)) (hts (.native arraycopyName) (by decide +kernel)) (hts (.static arraycopyName) (by decide +kernel)) (hts (.initialized "java/lang/System") (by decide +kernel)) (Nat.le_of_ble_eq_true rfl) (Nat.le_of_ble_eq_true rfl) dX7_init_78 (wX7_s1 k a _ _) (fun H locs hW => ?_)
  refine lv_aload_n hx hb dX7_init_81 rfl (lv_at hl 0 rfl) ?_
  refine q_Vv (As := []) (rest := []) (wf := wX7 k a) (R := q_S0) (wd' := wX7 k a q_S0) [0, 1, 2, 3, 4, 5, 6, 7, 8, 9, 10, 11, 12, 13, 14, 15, 16] [0, 1, 2, 3] 0 7 C0 hW (m_X7_begin l D k a H.size q_S1 q_S1_ok) (cwV 0 hts gX7_init_X7_begin rfl rfl rfl hd_X7_begin ⟨Nat.le_of_ble_eq_true rfl, Nat.le_of_ble_eq_true rfl⟩) (by decide) (wX7_pl k a _) rfl (wX7_rec k a _) rfl (wX7_fst k a _ _) (wX7_put k a _ _) hl rfl rfl (Nat.le_of_ble_eq_true rfl) dX7_init_82 ⟨Nat.le_of_ble_eq_true rfl, Nat.le_of_ble_eq_true rfl⟩ (fun H locs hW => ?_)
  exact W.vret hx hb hr (fun t ht hw => ⟨⟨a, rfl, ha0.symm, by rw [ht]; exact hW.1, va_K.moved hw.alike hK, hW.2.1⟩, hW.2.2.F ht⟩) hW.2.2.2.2 dX7_init_85 hlocks
