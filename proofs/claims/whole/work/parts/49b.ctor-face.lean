def q_N9 (U : State) : Prop := va_Nw (.methodLinkNest RX9 36 yX4_init "BeatFollower") U ∧ va_Nw (.methodLinkNest RX9 43 yX6_init "BeatFollower") U
noncomputable def q_S9 : T2 := fun j => if j < 1 then (fun _ => 0) else if j < 18 then q_S0 (j - 1) else if j < 35 then q_S0 (j - 18) else if j < 139 then q_S3 (j - 35) else if j < 140 then (fun _ => 0) else if j < 174 then q_S0 ((j - 140) % 17) else (fun _ => 0)
theorem X9_blk (k : Nat → ClassId) (a u : Nat → Nat) (n : Nat) (hE : ∀ i, i < 17 → ∀ f : T1, EwX9 k a (n + i) f = EwX7 k (fun j => a (n + j)) i f) (hS : ∀ i, i < 17 → q_S9 (n + i) = q_S0 i) (hu : ∀ j, j < 17 → a (n + j) = u j) : wX7 k u q_S0 = q_w 17 (fun j => a (n + j)) (fun j => EwX9 k a (n + j)) (fun j => q_S9 (n + j)) := by
  rw [wX7_q]
  refine q_w_cong (fun i hi => ⟨(hu i hi).symm, ?_⟩)
  rw [hE i hi, hS i hi]
  exact (EwX7_cong k (fun j hj => hu j hj) i hi _).symm
theorem X9_blk3 (k : Nat → ClassId) (a u : Nat → Nat) (hu : ∀ j, j < 104 → a (35 + j) = u j) : wX3 k u q_S3 = q_w 104 (fun j => a (35 + j)) (fun j => EwX9 k a (35 + j)) (fun j => q_S9 (35 + j)) := by
  show q_w 104 u (EwX3 k u) q_S3 = _
  refine q_w_cong (fun i hi => ⟨(hu i hi).symm, ?_⟩)
  have hS : q_S9 (35 + i) = q_S3 i := by unfold q_S9; rw [if_neg (by omega), if_neg (by omega), if_neg (by omega), if_pos (by omega), show 35 + i - 35 = i by omega]
  rw [hS]
  rcases (show i = 0 ∨ i = 1 ∨ 2 ≤ i by omega) with rfl | rfl | h2
  · have e1 := hu 1 (by decide)
    show (Sum.inr (3, fX3 u _) : va_E) = Sum.inr (3, fX3 (fun j => a (35 + j)) _)
    simp [fX3, ← e1]
  · show (Sum.inl (k 3, 6, .inr (.inr (.inr (.inr (fun i => if i < 6 then some (u (2 + 17 * i)) else none))))) : va_E) = Sum.inl (k 3, 6, .inr (.inr (.inr (.inr (fun i => if i < 6 then some (a (37 + 17 * i)) else none)))))
    have e : (fun i => if i < 6 then some (u (2 + 17 * i)) else none) = (fun i => if i < 6 then some (a (37 + 17 * i)) else none) := by
      funext i
      by_cases h6 : i < 6
      · simp only [h6, if_true]
        rw [← hu (2 + 17 * i) (by omega), show 35 + (2 + 17 * i) = 37 + 17 * i by omega]
      · simp only [h6, if_false]
    rw [e]
  · obtain ⟨q, r, hq, hr, rfl⟩ : ∃ q r, q < 6 ∧ r < 17 ∧ i = 2 + 17 * q + r := ⟨(i - 2) / 17, (i - 2) % 17, by omega, by omega, by omega⟩
    rw [EwX3_b2 k u q r hq hr, show 35 + (2 + 17 * q + r) = 37 + 17 * q + r by omega, EwX9_b37 k a q r hq hr]
    exact EwX7_cong k (fun j hj => by rw [← hu (2 + 17 * q + j) (by omega), show 35 + (2 + 17 * q + j) = 37 + 17 * q + j by omega]) r hr _
theorem X9_blk4 (k : Nat → ClassId) (a u : Nat → Nat) (hu : ∀ j, j < 2 → a (175 + j) = u j) : wX4 k u (fun _ _ => 0) = q_w 2 (fun j => a (175 + j)) (fun j => EwX9 k a (175 + j)) (fun j => q_S9 (175 + j)) := by
  rw [wX4_q]
  refine q_w_cong (fun i hi => ⟨(hu i hi).symm, ?_⟩)
  have hS : q_S9 (175 + i) = (fun _ => 0) := by unfold q_S9; rw [if_neg (by omega), if_neg (by omega), if_neg (by omega), if_neg (by omega), if_neg (by omega), if_neg (by omega)]
  rw [hS, EwX9_b175 k a i hi]
  have e1 := hu 1 (by decide)
  rcases (show i = 0 ∨ i = 1 by omega) with rfl | rfl
  · simp [EwX4, fX4, ← e1]
  · rfl
theorem X9_blk6 (k : Nat → ClassId) (a u : Nat → Nat) (hu : ∀ j, j < 3 → a (177 + j) = u j) : wX6 k u (fun _ _ => 0) = q_w 3 (fun j => a (177 + j)) (fun j => EwX9 k a (177 + j)) (fun j => q_S9 (177 + j)) := by
  rw [wX6_q]
  refine q_w_cong (fun i hi => ⟨(hu i hi).symm, ?_⟩)
  have hS : q_S9 (177 + i) = (fun _ => 0) := by unfold q_S9; rw [if_neg (by omega), if_neg (by omega), if_neg (by omega), if_neg (by omega), if_neg (by omega), if_neg (by omega)]
  rw [hS, EwX9_b177 k a i hi]
  have e1 := hu 1 (by decide)
  have e2 := hu 2 (by decide)
  rcases (show i = 0 ∨ i = 1 ∨ i = 2 by omega) with rfl | rfl | rfl
  · simp [EwX6, fX6, ← e1, ← e2]
  · rfl
  · rfl
theorem hdi_X9_init : yX9_init.cls ≠ "java/lang/invoke/MethodHandle" ∧ yX9_init.cls ≠ "java/lang/invoke/VarHandle" ∧ (parseMethodDescriptor yX9_init.desc).map (fun d => d.parameters.length) = some 0 := by decide +kernel
theorem hin_X9_init_X3 : ∀ w ∈ u_ws RX3 TX3 3, w ∈ wsX9_init := by decide +kernel
theorem hin_X9_init_X4 : ∀ w ∈ u_ws RX4 TX4 2, w ∈ wsX9_init := by decide +kernel
theorem hin_X9_init_X6 : ∀ w ∈ u_ws RX6 TX6 7, w ∈ wsX9_init := by decide +kernel
theorem hin_X9_init_X7 : ∀ w ∈ u_ws RX7 TX7 7, w ∈ wsX9_init := by decide +kernel
theorem hin_X9_init_X9 : ∀ w ∈ u_ws RX9 TX9 7, w ∈ wsX9_init := by decide +kernel
set_option maxHeartbeats 4000000 in
set_option maxRecDepth 100000 in
theorem m_X9_init (l : Launch) (D : va_G) (k : Nat → ClassId) (h : Nat) (sz : Nat) (z : Nat → Nat) : Met l yX9_init wsX9_init { frames := 4, cells := 179, slots := 7070, locals := 82 } (va_Pc [.ref h] (fun U => q_B D (tyL k) [(h, .inr (9, [.null, .null, .null, .null, .null, .null, .null]))] sz U ∧ q_Z U (va_A [(h, .inr (9, [.null, .null, .null, .null, .null, .null, .null]))] sz) z ∧ q_N7 U ∧ va_AO "BeatFollower$Scene" U ∧ q_N9 U)) (va_Qv (fun u : Nat → Nat => u 0 = h) (fun u => q_E D (tyL k) (va_A [(h, .inr (9, [.null, .null, .null, .null, .null, .null, .null]))] sz) (wX9 k u q_S9)) (va_A [(h, .inr (9, [.null, .null, .null, .null, .null, .null, .null]))] sz)) 179 7070 (va_A [(h, .inr (9, [.null, .null, .null, .null, .null, .null, .null]))] sz) := by
  refine q_metz [.ref h] [(h, .inr (9, [.null, .null, .null, .null, .null, .null, .null]))] sz (fun U => q_Z U (va_A [(h, .inr (9, [.null, .null, .null, .null, .null, .null, .null]))] sz) z ∧ q_N7 U ∧ va_AO "BeatFollower$Scene" U ∧ q_N9 U) (cc := cX9_init) (maxL := 2) (ret := none) (by decide) rfl (Nat.le_of_ble_eq_true rfl) ?_
  intro p e s m args below meth c ls hsz hX C0 hW hl hin
  subst hsz
  obtain ⟨Z0, N7, AO, N9⟩ := hX
  generalize va_A [(h, .inr (9, [.null, .null, .null, .null, .null, .null, .null]))] s.heap.size = A at C0 hW Z0 ⊢
  have hl : lv_has ls 2 [(0, .ref h)] := hl
  have C0 : q_C p s m meth c args RX9 cX9_init 2 none wsX9_init D (tyL k) A := C0
  obtain ⟨hx, hb, hr, hml, hts, hown, hlocks, hK, hA⟩ := id C0
  have hf10 := hts (.fieldLink RX9 10 "BeatFollower" "scene" "LBeatFollower$Scene;") (by decide +kernel)
  have hf16 := hts (.fieldLink RX9 16 "BeatFollower" "trial" "LBeatFollower$Scene;") (by decide +kernel)
  have hf22 := hts (.fieldLink RX9 22 "BeatFollower" "history" "LBeatFollower$History;") (by decide +kernel)
  have hf26 := hts (.fieldLink RX9 26 "BeatFollower" "slots" "[LBeatFollower$Scene;") (by decide +kernel)
  have hf30 := hts (.fieldLink RX9 30 "BeatFollower" "saved" "[Z") (by decide +kernel)
  have hf37 := hts (.fieldLink RX9 37 "BeatFollower" "pad" "LBeatFollower$Pad;") (by decide +kernel)
  have hf44 := hts (.fieldLink RX9 44 "BeatFollower" "reader" "LBeatFollower$Reader;") (by decide +kernel)
  have hinX3 := hin_X9_init_X3
  have hinX4 := hin_X9_init_X4
  have hinX6 := hin_X9_init_X6
  have hinX7 := hin_X9_init_X7
  have hinX9 := hin_X9_init_X9
  refine lv_aload_n hx hb dX9_init_0 rfl (lv_at hl 0 rfl) ?_
  refine q_objI C0 hl (hts (.methodLink RX9 1 objectInit) (by decide +kernel)) (hts (.instanceMethod objectInit) (by decide +kernel)) (hts (.code objectInit ⟨#[0xb1]⟩ 1 none) (by decide +kernel)) dX9_init_1 (Nat.le_of_ble_eq_true rfl) (Nat.le_of_ble_eq_true rfl) ?_
  refine lv_aload_n hx hb dX9_init_4 rfl (lv_at hl 0 rfl) ?_
  refine q_newo (C := RX7) (T := TX7) (N := 7) (ci := 7) (fs := [.null, .null, .null, .null, .null, .null, .int 0]) C0 hW hinX7 tyX7 tyX7_ok (hts (.classLink RX9 7 RX7) (by decide +kernel)) (hts (.instantiable RX7 7) (by decide +kernel)) (hts (.initialized RX7) (by decide +kernel)) rfl (fun j hj => by rcases (show j = 0 ∨ j = 1 ∨ j = 2 ∨ j = 3 ∨ j = 4 ∨ j = 5 ∨ j = 6 by omega) with rfl | rfl | rfl | rfl | rfl | rfl | rfl <;> rfl) (Nat.le_of_ble_eq_true rfl) (Nat.le_of_ble_eq_true rfl) dX9_init_5 (fun q1 H hWn => ?_)
  refine lv_dup hx hb dX9_init_8 rfl ?_
  refine q_ctor (rest := [.ref q1, .ref h]) (wf := fun u => wX7 k u q_S0) (Rp := fun u : Nat → Nat => u 0 = q1) (X := fun U => q_Z U (va_A [(q1, .inr (7, [.null, .null, .null, .null, .null, .null, .int 0]))] H.size) z ∧ q_N7 U) C0 hWn (m_X7_init l D k q1 _ z) (cwI 0 hts gX9_init_X7_init rfl rfl rfl (hts (.initialized RX7) (by decide +kernel)) (hts (.methodLink RX9 9 yX7_init) (by decide +kernel)) (hts (.instanceMethod yX7_init) (by decide +kernel)) rfl hdi_X7_init ⟨Nat.le_of_ble_eq_true rfl, Nat.le_of_ble_eq_true rfl⟩) (fun U hU hw => ⟨q_Z_sub Z0 hWn.2.2 (q_lastA C0 hWn) U hU hw, q_N7_warm hw N7⟩) (fun a U g mk h => ⟨q_Z_calling a U g mk h.1, q_N7_calling a U g mk h.2⟩) hl (Nat.le_of_ble_eq_true rfl) dX9_init_9 ⟨Nat.le_of_ble_eq_true rfl, Nat.le_of_ble_eq_true rfl⟩ (fun u2 H locs e2 hW => ?_)
  subst e2
  refine q_putF (ty := .object "BeatFollower$Scene") (fs := [.null, .null, .null, .null, .null, .null, .null]) (fs' := [.ref (u2 0), .null, .null, .null, .null, .null, .null]) (wd' := [(h, .inr (9, [.ref (u2 0), .null, .null, .null, .null, .null, .null]))] ++ wX7 k u2 q_S0) C0 hW hinX9 tyX9 tyX9_ok nmX9 0 rfl rfl 0 (by decide) hf10 rfl hin rfl (by decide +kernel) rfl rfl (Nat.le_of_ble_eq_true rfl) dX9_init_12 rfl rfl (fun H locs hW => ?_)
  refine lv_aload_n hx hb dX9_init_15 rfl (lv_at hl 0 rfl) ?_
  refine q_newo (C := RX7) (T := TX7) (N := 7) (ci := 7) (fs := [.null, .null, .null, .null, .null, .null, .int 0]) C0 hW hinX7 tyX7 tyX7_ok (hts (.classLink RX9 7 RX7) (by decide +kernel)) (hts (.instantiable RX7 7) (by decide +kernel)) (hts (.initialized RX7) (by decide +kernel)) rfl (fun j hj => by rcases (show j = 0 ∨ j = 1 ∨ j = 2 ∨ j = 3 ∨ j = 4 ∨ j = 5 ∨ j = 6 by omega) with rfl | rfl | rfl | rfl | rfl | rfl | rfl <;> rfl) (Nat.le_of_ble_eq_true rfl) (Nat.le_of_ble_eq_true rfl) dX9_init_16 (fun q3 H hWn => ?_)
  refine lv_dup hx hb dX9_init_19 rfl ?_
  refine q_ctor (rest := [.ref q3, .ref h]) (wf := fun u => wX7 k u q_S0) (Rp := fun u : Nat → Nat => u 0 = q3) (X := fun U => q_Z U (va_A [(q3, .inr (7, [.null, .null, .null, .null, .null, .null, .int 0]))] H.size) z ∧ q_N7 U) C0 hWn (m_X7_init l D k q3 _ z) (cwI 0 hts gX9_init_X7_init rfl rfl rfl (hts (.initialized RX7) (by decide +kernel)) (hts (.methodLink RX9 9 yX7_init) (by decide +kernel)) (hts (.instanceMethod yX7_init) (by decide +kernel)) rfl hdi_X7_init ⟨Nat.le_of_ble_eq_true rfl, Nat.le_of_ble_eq_true rfl⟩) (fun U hU hw => ⟨q_Z_sub Z0 hWn.2.2 (q_lastA C0 hWn) U hU hw, q_N7_warm hw N7⟩) (fun a U g mk h => ⟨q_Z_calling a U g mk h.1, q_N7_calling a U g mk h.2⟩) hl (Nat.le_of_ble_eq_true rfl) dX9_init_20 ⟨Nat.le_of_ble_eq_true rfl, Nat.le_of_ble_eq_true rfl⟩ (fun u4 H locs e4 hW => ?_)
  subst e4
  refine q_putF (ty := .object "BeatFollower$Scene") (fs := [.ref (u2 0), .null, .null, .null, .null, .null, .null]) (fs' := [.ref (u2 0), .ref (u4 0), .null, .null, .null, .null, .null]) (wd' := [(h, .inr (9, [.ref (u2 0), .ref (u4 0), .null, .null, .null, .null, .null]))] ++ wX7 k u2 q_S0 ++ wX7 k u4 q_S0) C0 hW hinX9 tyX9 tyX9_ok nmX9 0 rfl rfl 1 (by decide) hf16 rfl hin rfl (by decide +kernel) rfl rfl (Nat.le_of_ble_eq_true rfl) dX9_init_23 rfl rfl (fun H locs hW => ?_)
  refine lv_aload_n hx hb dX9_init_26 rfl (lv_at hl 0 rfl) ?_
  refine q_newo (C := RX3) (T := TX3) (N := 3) (ci := 3) (fs := [.null, .int 0, .int 0]) C0 hW hinX3 tyX3 tyX3_ok (hts (.classLink RX9 19 RX3) (by decide +kernel)) (hts (.instantiable RX3 3) (by decide +kernel)) (hts (.initialized RX3) (by decide +kernel)) rfl (fun j hj => by rcases (show j = 0 ∨ j = 1 ∨ j = 2 by omega) with rfl | rfl | rfl <;> rfl) (Nat.le_of_ble_eq_true rfl) (Nat.le_of_ble_eq_true rfl) dX9_init_27 (fun q5 H hWn => ?_)
  refine lv_dup hx hb dX9_init_30 rfl ?_
  refine q_ctor (rest := [.ref q5, .ref h]) (wf := fun u => wX3 k u q_S3) (Rp := fun u : Nat → Nat => u 0 = q5) (X := fun U => q_Z U (va_A [(q5, .inr (3, [.null, .int 0, .int 0]))] H.size) z ∧ q_N7 U ∧ va_AO "BeatFollower$Scene" U) C0 hWn (m_X3_init l D k q5 _ z) (cwI 0 hts gX9_init_X3_init rfl rfl rfl (hts (.initialized RX3) (by decide +kernel)) (hts (.methodLink RX9 21 yX3_init) (by decide +kernel)) (hts (.instanceMethod yX3_init) (by decide +kernel)) rfl hdi_X3_init ⟨Nat.le_of_ble_eq_true rfl, Nat.le_of_ble_eq_true rfl⟩) (fun U hU hw => ⟨q_Z_sub Z0 hWn.2.2 (q_lastA C0 hWn) U hU hw, q_N7_warm hw N7, q_AO_warm hw AO⟩) (fun a U g mk h => ⟨q_Z_calling a U g mk h.1, q_N7_calling a U g mk h.2.1, q_AO_calling a U g mk h.2.2⟩) hl (Nat.le_of_ble_eq_true rfl) dX9_init_31 ⟨Nat.le_of_ble_eq_true rfl, Nat.le_of_ble_eq_true rfl⟩ (fun u6 H locs e6 hW => ?_)
  subst e6
  refine q_putF (ty := .object "BeatFollower$History") (fs := [.ref (u2 0), .ref (u4 0), .null, .null, .null, .null, .null]) (fs' := [.ref (u2 0), .ref (u4 0), .ref (u6 0), .null, .null, .null, .null]) (wd' := [(h, .inr (9, [.ref (u2 0), .ref (u4 0), .ref (u6 0), .null, .null, .null, .null]))] ++ wX7 k u2 q_S0 ++ wX7 k u4 q_S0 ++ wX3 k u6 q_S3) C0 hW hinX9 tyX9 tyX9_ok nmX9 0 rfl rfl 2 (by decide) hf22 rfl hin rfl (by decide +kernel) rfl rfl (Nat.le_of_ble_eq_true rfl) dX9_init_34 rfl rfl (fun H locs hW => ?_)
  refine lv_aload_n hx hb dX9_init_37 rfl (lv_at hl 0 rfl) ?_
  refine lv_iconst (v := (2 : Int32)) hx hb dX9_init_38 (by decide) ?_
  refine q_new_scene (N' := 2) C0 hW (hts (.classLink RX9 7 RX7) (by decide +kernel)) AO (by decide) (by decide) (Nat.le_of_ble_eq_true rfl) (Nat.le_of_ble_eq_true rfl) (Nat.le_of_ble_eq_true rfl) dX9_init_39 (fun q7 H hW => ?_)
  refine q_putF (ty := .array (.object "BeatFollower$Scene")) (fs := [.ref (u2 0), .ref (u4 0), .ref (u6 0), .null, .null, .null, .null]) (fs' := [.ref (u2 0), .ref (u4 0), .ref (u6 0), .ref q7, .null, .null, .null]) (wd' := [(h, .inr (9, [.ref (u2 0), .ref (u4 0), .ref (u6 0), .ref q7, .null, .null, .null]))] ++ wX7 k u2 q_S0 ++ wX7 k u4 q_S0 ++ wX3 k u6 q_S3 ++ [(q7, .inl (k 3, 2, .inr (.inr (.inr (.inr (fun _ => none))))))]) C0 hW hinX9 tyX9 tyX9_ok nmX9 0 rfl rfl 3 (by decide) hf26 rfl hin rfl (by decide +kernel) rfl rfl (Nat.le_of_ble_eq_true rfl) dX9_init_42 rfl rfl (fun H locs hW => ?_)
  refine lv_iconst (v := (0 : Int32)) hx hb dX9_init_45 (by decide) ?_
  refine lv_istore_n (lv' := [(1, .int (0 : Int32)), (0, .ref h)]) hx hb dX9_init_46 rfl hl (by decide) rfl (fun ls hl => ?_)
  refine lv_iload_n hx hb dX9_init_47 rfl (lv_at hl 0 rfl) ?_
  refine lv_iconst (v := (2 : Int32)) hx hb dX9_init_48 (by decide) ?_
  refine lv_icmp_ge (tgt := 71) hx hb dX9_init_49 (by decide) (fun hc => absurd hc (by decide)) (fun _ => ?_)
  refine lv_aload_n hx hb dX9_init_52 rfl (lv_at hl 1 rfl) ?_
  refine va_get (v := .ref q7) (C := RX9) (T := TX9) (N := 7) hx hb hts hinX9 hown hK hW.1 0 rfl rfl 3 (by decide) hf26 (fun _ h9 => h9) rfl dX9_init_53 ?_
  refine lv_iload_n hx hb dX9_init_56 rfl (lv_at hl 0 rfl) ?_
  refine q_newo (C := RX7) (T := TX7) (N := 7) (ci := 7) (fs := [.null, .null, .null, .null, .null, .null, .int 0]) C0 hW hinX7 tyX7 tyX7_ok (hts (.classLink RX9 7 RX7) (by decide +kernel)) (hts (.instantiable RX7 7) (by decide +kernel)) (hts (.initialized RX7) (by decide +kernel)) rfl (fun j hj => by rcases (show j = 0 ∨ j = 1 ∨ j = 2 ∨ j = 3 ∨ j = 4 ∨ j = 5 ∨ j = 6 by omega) with rfl | rfl | rfl | rfl | rfl | rfl | rfl <;> rfl) (Nat.le_of_ble_eq_true rfl) (Nat.le_of_ble_eq_true rfl) dX9_init_57 (fun q9 H hWn => ?_)
  refine lv_dup hx hb dX9_init_60 rfl ?_
  refine q_ctor (rest := [.ref q9, .int (0 : Int32), .ref q7]) (wf := fun u => wX7 k u q_S0) (Rp := fun u : Nat → Nat => u 0 = q9) (X := fun U => q_Z U (va_A [(q9, .inr (7, [.null, .null, .null, .null, .null, .null, .int 0]))] H.size) z ∧ q_N7 U) C0 hWn (m_X7_init l D k q9 _ z) (cwI 0 hts gX9_init_X7_init rfl rfl rfl (hts (.initialized RX7) (by decide +kernel)) (hts (.methodLink RX9 9 yX7_init) (by decide +kernel)) (hts (.instanceMethod yX7_init) (by decide +kernel)) rfl hdi_X7_init ⟨Nat.le_of_ble_eq_true rfl, Nat.le_of_ble_eq_true rfl⟩) (fun U hU hw => ⟨q_Z_sub Z0 hWn.2.2 (q_lastA C0 hWn) U hU hw, q_N7_warm hw N7⟩) (fun a U g mk h => ⟨q_Z_calling a U g mk h.1, q_N7_calling a U g mk h.2⟩) hl (Nat.le_of_ble_eq_true rfl) dX9_init_61 ⟨Nat.le_of_ble_eq_true rfl, Nat.le_of_ble_eq_true rfl⟩ (fun u10 H locs e10 hW => ?_)
  subst e10
  refine q_aast (wd' := [(h, .inr (9, [.ref (u2 0), .ref (u4 0), .ref (u6 0), .ref q7, .null, .null, .null]))] ++ wX7 k u2 q_S0 ++ wX7 k u4 q_S0 ++ wX3 k u6 q_S3 ++ [(q7, .inl (k 3, 2, .inr (.inr (.inr (.inr (va_up (fun _ => none) 0 (some (u10 0))))))))] ++ wX7 k u10 q_S0) C0 hW 139 140 rfl rfl (vs := fX7 u10 (q_S0 0)) rfl (by unfold vp_in; decide) (by decide) dX9_init_64 rfl (fun H locs hW => ?_)
  refine lv_iinc (v := (1 : Int32)) (lv' := [(1, .int (1 : Int32)), (0, .ref h)]) hx hb dX9_init_65 hl (k := 0) rfl (by decide) (by decide) rfl (fun ls hl => ?_)
  refine lv_goto (tgt := 47) hx hb dX9_init_68 (by decide) ?_
  refine lv_iload_n hx hb dX9_init_47 rfl (lv_at hl 0 rfl) ?_
  refine lv_iconst (v := (2 : Int32)) hx hb dX9_init_48 (by decide) ?_
  refine lv_icmp_ge (tgt := 71) hx hb dX9_init_49 (by decide) (fun hc => absurd hc (by decide)) (fun _ => ?_)
  refine lv_aload_n hx hb dX9_init_52 rfl (lv_at hl 1 rfl) ?_
  refine va_get (v := .ref q7) (C := RX9) (T := TX9) (N := 7) hx hb hts hinX9 hown hK hW.1 0 rfl rfl 3 (by decide) hf26 (fun _ h9 => h9) rfl dX9_init_53 ?_
  refine lv_iload_n hx hb dX9_init_56 rfl (lv_at hl 0 rfl) ?_
  refine q_newo (C := RX7) (T := TX7) (N := 7) (ci := 7) (fs := [.null, .null, .null, .null, .null, .null, .int 0]) C0 hW hinX7 tyX7 tyX7_ok (hts (.classLink RX9 7 RX7) (by decide +kernel)) (hts (.instantiable RX7 7) (by decide +kernel)) (hts (.initialized RX7) (by decide +kernel)) rfl (fun j hj => by rcases (show j = 0 ∨ j = 1 ∨ j = 2 ∨ j = 3 ∨ j = 4 ∨ j = 5 ∨ j = 6 by omega) with rfl | rfl | rfl | rfl | rfl | rfl | rfl <;> rfl) (Nat.le_of_ble_eq_true rfl) (Nat.le_of_ble_eq_true rfl) dX9_init_57 (fun q12 H hWn => ?_)
  refine lv_dup hx hb dX9_init_60 rfl ?_
  refine q_ctor (rest := [.ref q12, .int (1 : Int32), .ref q7]) (wf := fun u => wX7 k u q_S0) (Rp := fun u : Nat → Nat => u 0 = q12) (X := fun U => q_Z U (va_A [(q12, .inr (7, [.null, .null, .null, .null, .null, .null, .int 0]))] H.size) z ∧ q_N7 U) C0 hWn (m_X7_init l D k q12 _ z) (cwI 0 hts gX9_init_X7_init rfl rfl rfl (hts (.initialized RX7) (by decide +kernel)) (hts (.methodLink RX9 9 yX7_init) (by decide +kernel)) (hts (.instanceMethod yX7_init) (by decide +kernel)) rfl hdi_X7_init ⟨Nat.le_of_ble_eq_true rfl, Nat.le_of_ble_eq_true rfl⟩) (fun U hU hw => ⟨q_Z_sub Z0 hWn.2.2 (q_lastA C0 hWn) U hU hw, q_N7_warm hw N7⟩) (fun a U g mk h => ⟨q_Z_calling a U g mk h.1, q_N7_calling a U g mk h.2⟩) hl (Nat.le_of_ble_eq_true rfl) dX9_init_61 ⟨Nat.le_of_ble_eq_true rfl, Nat.le_of_ble_eq_true rfl⟩ (fun u13 H locs e13 hW => ?_)
  subst e13
  refine q_aast (wd' := [(h, .inr (9, [.ref (u2 0), .ref (u4 0), .ref (u6 0), .ref q7, .null, .null, .null]))] ++ wX7 k u2 q_S0 ++ wX7 k u4 q_S0 ++ wX3 k u6 q_S3 ++ [(q7, .inl (k 3, 2, .inr (.inr (.inr (.inr (va_up (va_up (fun _ => none) 0 (some (u10 0))) 1 (some (u13 0))))))))] ++ wX7 k u10 q_S0 ++ wX7 k u13 q_S0) C0 hW 139 157 rfl rfl (vs := fX7 u13 (q_S0 0)) rfl (by unfold vp_in; decide) (by decide) dX9_init_64 rfl (fun H locs hW => ?_)
  refine lv_iinc (v := (2 : Int32)) (lv' := [(1, .int (2 : Int32)), (0, .ref h)]) hx hb dX9_init_65 hl (k := 0) rfl (by decide) (by decide) rfl (fun ls hl => ?_)
  refine lv_goto (tgt := 47) hx hb dX9_init_68 (by decide) ?_
  refine lv_iload_n hx hb dX9_init_47 rfl (lv_at hl 0 rfl) ?_
  refine lv_iconst (v := (2 : Int32)) hx hb dX9_init_48 (by decide) ?_
  refine lv_icmp_ge (tgt := 71) hx hb dX9_init_49 (by decide) (fun _ => ?_) (fun hc => absurd (by decide) hc)
  refine lv_aload_n hx hb dX9_init_71 rfl (lv_at hl 1 rfl) ?_
  refine lv_iconst (v := (2 : Int32)) hx hb dX9_init_72 (by decide) ?_
  refine q_new_boolean (N' := 2) C0 hW (hts (.arrayClass .boolean) (by decide +kernel)) (by decide) (by decide) (Nat.le_of_ble_eq_true rfl) (Nat.le_of_ble_eq_true rfl) (Nat.le_of_ble_eq_true rfl) dX9_init_73 (fun q15 H hW => ?_)
  refine q_putF (ty := .array .boolean) (fs := [.ref (u2 0), .ref (u4 0), .ref (u6 0), .ref q7, .null, .null, .null]) (fs' := [.ref (u2 0), .ref (u4 0), .ref (u6 0), .ref q7, .ref q15, .null, .null]) (wd' := [(h, .inr (9, [.ref (u2 0), .ref (u4 0), .ref (u6 0), .ref q7, .ref q15, .null, .null]))] ++ wX7 k u2 q_S0 ++ wX7 k u4 q_S0 ++ wX3 k u6 q_S3 ++ [(q7, .inl (k 3, 2, .inr (.inr (.inr (.inr (va_up (va_up (fun _ => none) 0 (some (u10 0))) 1 (some (u13 0))))))))] ++ wX7 k u10 q_S0 ++ wX7 k u13 q_S0 ++ [(q15, .inl (k 1, 2, .inl (fun _ => 0)))]) C0 hW hinX9 tyX9 tyX9_ok nmX9 0 rfl rfl 4 (by decide) hf30 rfl hin rfl (by decide +kernel) rfl rfl (Nat.le_of_ble_eq_true rfl) dX9_init_75 rfl rfl (fun H locs hW => ?_)
  refine lv_aload_n hx hb dX9_init_78 rfl (lv_at hl 1 rfl) ?_
  refine q_newo (C := RX4) (T := TX4) (N := 2) (ci := 4) (fs := [.null, .int 0]) C0 hW hinX4 tyX4 tyX4_ok (hts (.classLink RX9 34 RX4) (by decide +kernel)) (hts (.instantiable RX4 2) (by decide +kernel)) (hts (.initialized RX4) (by decide +kernel)) rfl (fun j hj => by rcases (show j = 0 ∨ j = 1 by omega) with rfl | rfl <;> rfl) (Nat.le_of_ble_eq_true rfl) (Nat.le_of_ble_eq_true rfl) dX9_init_79 (fun q16 H hWn => ?_)
  refine lv_dup hx hb dX9_init_82 rfl ?_
  refine q_ctorN (host := "BeatFollower") (rest := [.ref q16, .ref h]) (wf := fun u => wX4 k u (fun _ _ => 0)) (Rp := fun u : Nat → Nat => u 0 = q16) (X := fun _ => True) C0 hWn (m_X4_init l D k q16 _) ⟨va_cnB (host := "BeatFollower") 0 hts gX9_init_X4_init_n36 rfl rfl rfl N9.1 (hts (.initialized RX4) (by decide +kernel)) hdi_X4_init ⟨Nat.le_of_ble_eq_true rfl, Nat.le_of_ble_eq_true rfl⟩, rfl, hts (.instanceMethod yX4_init) (by decide +kernel)⟩ (fun _ _ _ => trivial) (fun _ _ _ _ _ => trivial) hl (Nat.le_of_ble_eq_true rfl) dX9_init_83 ⟨Nat.le_of_ble_eq_true rfl, Nat.le_of_ble_eq_true rfl⟩ (fun u17 H locs e17 hW => ?_)
  subst e17
  refine q_putF (ty := .object "BeatFollower$Pad") (fs := [.ref (u2 0), .ref (u4 0), .ref (u6 0), .ref q7, .ref q15, .null, .null]) (fs' := [.ref (u2 0), .ref (u4 0), .ref (u6 0), .ref q7, .ref q15, .ref (u17 0), .null]) (wd' := [(h, .inr (9, [.ref (u2 0), .ref (u4 0), .ref (u6 0), .ref q7, .ref q15, .ref (u17 0), .null]))] ++ wX7 k u2 q_S0 ++ wX7 k u4 q_S0 ++ wX3 k u6 q_S3 ++ [(q7, .inl (k 3, 2, .inr (.inr (.inr (.inr (va_up (va_up (fun _ => none) 0 (some (u10 0))) 1 (some (u13 0))))))))] ++ wX7 k u10 q_S0 ++ wX7 k u13 q_S0 ++ [(q15, .inl (k 1, 2, .inl (fun _ => 0)))] ++ wX4 k u17 (fun _ _ => 0)) C0 hW hinX9 tyX9 tyX9_ok nmX9 0 rfl rfl 5 (by decide) hf37 rfl hin rfl (by decide +kernel) rfl rfl (Nat.le_of_ble_eq_true rfl) dX9_init_86 rfl rfl (fun H locs hW => ?_)
  refine lv_aload_n hx hb dX9_init_89 rfl (lv_at hl 1 rfl) ?_
  refine q_newo (C := RX6) (T := TX6) (N := 7) (ci := 6) (fs := [.null, .null, .int 0, .int 0, .int 0, .int 0, .int 0]) C0 hW hinX6 tyX6 tyX6_ok (hts (.classLink RX9 41 RX6) (by decide +kernel)) (hts (.instantiable RX6 7) (by decide +kernel)) (hts (.initialized RX6) (by decide +kernel)) rfl (fun j hj => by rcases (show j = 0 ∨ j = 1 ∨ j = 2 ∨ j = 3 ∨ j = 4 ∨ j = 5 ∨ j = 6 by omega) with rfl | rfl | rfl | rfl | rfl | rfl | rfl <;> rfl) (Nat.le_of_ble_eq_true rfl) (Nat.le_of_ble_eq_true rfl) dX9_init_90 (fun q18 H hWn => ?_)
  refine lv_dup hx hb dX9_init_93 rfl ?_
  refine q_ctorN (host := "BeatFollower") (rest := [.ref q18, .ref h]) (wf := fun u => wX6 k u (fun _ _ => 0)) (Rp := fun u : Nat → Nat => u 0 = q18) (X := fun _ => True) C0 hWn (m_X6_init l D k q18 _) ⟨va_cnB (host := "BeatFollower") 0 hts gX9_init_X6_init_n43 rfl rfl rfl N9.2 (hts (.initialized RX6) (by decide +kernel)) hdi_X6_init ⟨Nat.le_of_ble_eq_true rfl, Nat.le_of_ble_eq_true rfl⟩, rfl, hts (.instanceMethod yX6_init) (by decide +kernel)⟩ (fun _ _ _ => trivial) (fun _ _ _ _ _ => trivial) hl (Nat.le_of_ble_eq_true rfl) dX9_init_94 ⟨Nat.le_of_ble_eq_true rfl, Nat.le_of_ble_eq_true rfl⟩ (fun u19 H locs e19 hW => ?_)
  subst e19
  refine q_putF (ty := .object "BeatFollower$Reader") (fs := [.ref (u2 0), .ref (u4 0), .ref (u6 0), .ref q7, .ref q15, .ref (u17 0), .null]) (fs' := [.ref (u2 0), .ref (u4 0), .ref (u6 0), .ref q7, .ref q15, .ref (u17 0), .ref (u19 0)]) (wd' := [(h, .inr (9, [.ref (u2 0), .ref (u4 0), .ref (u6 0), .ref q7, .ref q15, .ref (u17 0), .ref (u19 0)]))] ++ wX7 k u2 q_S0 ++ wX7 k u4 q_S0 ++ wX3 k u6 q_S3 ++ [(q7, .inl (k 3, 2, .inr (.inr (.inr (.inr (va_up (va_up (fun _ => none) 0 (some (u10 0))) 1 (some (u13 0))))))))] ++ wX7 k u10 q_S0 ++ wX7 k u13 q_S0 ++ [(q15, .inl (k 1, 2, .inl (fun _ => 0)))] ++ wX4 k u17 (fun _ _ => 0) ++ wX6 k u19 (fun _ _ => 0)) C0 hW hinX9 tyX9 tyX9_ok nmX9 0 rfl rfl 6 (by decide) hf44 rfl hin rfl (by decide +kernel) rfl rfl (Nat.le_of_ble_eq_true rfl) dX9_init_97 rfl rfl (fun H locs hW => ?_)
  obtain ⟨a, ha⟩ : ∃ a : Nat → Nat, a = (fun j => if j < 1 then h else if j < 18 then u2 (j - 1) else if j < 35 then u4 (j - 18) else if j < 139 then u6 (j - 35) else if j < 140 then q7 else if j < 157 then u10 (j - 140) else if j < 174 then u13 (j - 157) else if j < 175 then q15 else if j < 177 then u17 (j - 175) else u19 (j - 177)) := ⟨_, rfl⟩
  have hf9 : ∀ i, i < 2 → (va_up (va_up (fun _ => none) 0 (some (u10 0))) 1 (some (u13 0))) i = (fun i => if i < 2 then some (a (140 + 17 * i)) else none) i := by
    intro i hi
    rcases (show i = 0 ∨ i = 1 by omega) with rfl | rfl <;> (rw [ha]; rfl)
  have hW := q_arrf (w1 := [(h, .inr (9, [.ref (u2 0), .ref (u4 0), .ref (u6 0), .ref q7, .ref q15, .ref (u17 0), .ref (u19 0)]))] ++ wX7 k u2 q_S0 ++ wX7 k u4 q_S0 ++ wX3 k u6 q_S3) (w2 := wX7 k u10 q_S0 ++ (wX7 k u13 q_S0 ++ ([(q15, .inl (k 1, 2, .inl (fun _ => 0)))] ++ (wX4 k u17 (fun _ _ => 0) ++ (wX6 k u19 (fun _ _ => 0)))))) hf9 (by simpa only [List.append_assoc, List.cons_append, List.nil_append] using hW)
  have ea0 : a 0 = h := by rw [ha]; rfl
  have ea1 : a 1 = (u2 0) := by rw [ha]; rfl
  have ea18 : a 18 = (u4 0) := by rw [ha]; rfl
  have ea35 : a 35 = (u6 0) := by rw [ha]; rfl
  have ea139 : a 139 = q7 := by rw [ha]; rfl
  have ea140 : a 140 = (u10 0) := by rw [ha]; rfl
  have ea157 : a 157 = (u13 0) := by rw [ha]; rfl
  have ea174 : a 174 = q15 := by rw [ha]; rfl
  have ea175 : a 175 = (u17 0) := by rw [ha]; rfl
  have ea177 : a 177 = (u19 0) := by rw [ha]; rfl
  have e0 : ([(h, .inr (9, [.ref (u2 0), .ref (u4 0), .ref (u6 0), .ref q7, .ref q15, .ref (u17 0), .ref (u19 0)]))] : va_W) = q_w 1 a (EwX9 k a) q_S9 := by
    rw [← ea0, ← ea1, ← ea18, ← ea35, ← ea139, ← ea174, ← ea175, ← ea177]
    rfl
  have hu1 : ∀ j, j < 17 → a (1 + j) = u2 j := fun j hj => by
      show _ = _
      rw [ha]
      dsimp only
      rw [if_neg (show ¬ 1 + j < 1 by omega)]
      rw [if_pos (show 1 + j < 18 by omega)]
      rw [show 1 + j - 1 = j by omega]
  have hu18 : ∀ j, j < 17 → a (18 + j) = u4 j := fun j hj => by
      show _ = _
      rw [ha]
      dsimp only
      rw [if_neg (show ¬ 18 + j < 1 by omega)]
      rw [if_neg (show ¬ 18 + j < 18 by omega)]
      rw [if_pos (show 18 + j < 35 by omega)]
      rw [show 18 + j - 18 = j by omega]
  have hu35 : ∀ j, j < 104 → a (35 + j) = u6 j := fun j hj => by
      show _ = _
      rw [ha]
      dsimp only
      rw [if_neg (show ¬ 35 + j < 1 by omega)]
      rw [if_neg (show ¬ 35 + j < 18 by omega)]
      rw [if_neg (show ¬ 35 + j < 35 by omega)]
      rw [if_pos (show 35 + j < 139 by omega)]
      rw [show 35 + j - 35 = j by omega]
  have ec139 : ([(q7, .inl (k 3, 2, .inr (.inr (.inr (.inr (fun i => if i < 2 then some (a (140 + 17 * i)) else none))))))] : va_W) = q_w 1 (fun j => a (139 + j)) (fun j => EwX9 k a (139 + j)) (fun j => q_S9 (139 + j)) := by
    rw [← ea139]
    rfl
  have hu140 : ∀ j, j < 17 → a (140 + j) = u10 j := fun j hj => by
      show _ = _
      rw [ha]
      dsimp only
      rw [if_neg (show ¬ 140 + j < 1 by omega)]
      rw [if_neg (show ¬ 140 + j < 18 by omega)]
      rw [if_neg (show ¬ 140 + j < 35 by omega)]
      rw [if_neg (show ¬ 140 + j < 139 by omega)]
      rw [if_neg (show ¬ 140 + j < 140 by omega)]
      rw [if_pos (show 140 + j < 157 by omega)]
      rw [show 140 + j - 140 = j by omega]
  have hu157 : ∀ j, j < 17 → a (157 + j) = u13 j := fun j hj => by
      show _ = _
      rw [ha]
      dsimp only
      rw [if_neg (show ¬ 157 + j < 1 by omega)]
      rw [if_neg (show ¬ 157 + j < 18 by omega)]
      rw [if_neg (show ¬ 157 + j < 35 by omega)]
      rw [if_neg (show ¬ 157 + j < 139 by omega)]
      rw [if_neg (show ¬ 157 + j < 140 by omega)]
      rw [if_neg (show ¬ 157 + j < 157 by omega)]
      rw [if_pos (show 157 + j < 174 by omega)]
      rw [show 157 + j - 157 = j by omega]
  have ec174 : ([(q15, .inl (k 1, 2, .inl (fun _ => 0)))] : va_W) = q_w 1 (fun j => a (174 + j)) (fun j => EwX9 k a (174 + j)) (fun j => q_S9 (174 + j)) := by
    rw [← ea174]
    rfl
  have hu175 : ∀ j, j < 2 → a (175 + j) = u17 j := fun j hj => by
      show _ = _
      rw [ha]
      dsimp only
      rw [if_neg (show ¬ 175 + j < 1 by omega)]
      rw [if_neg (show ¬ 175 + j < 18 by omega)]
      rw [if_neg (show ¬ 175 + j < 35 by omega)]
      rw [if_neg (show ¬ 175 + j < 139 by omega)]
      rw [if_neg (show ¬ 175 + j < 140 by omega)]
      rw [if_neg (show ¬ 175 + j < 157 by omega)]
      rw [if_neg (show ¬ 175 + j < 174 by omega)]
      rw [if_neg (show ¬ 175 + j < 175 by omega)]
      rw [if_pos (show 175 + j < 177 by omega)]
      rw [show 175 + j - 175 = j by omega]
  have hu177 : ∀ j, j < 3 → a (177 + j) = u19 j := fun j hj => by
      show _ = _
      rw [ha]
      dsimp only
      rw [if_neg (show ¬ 177 + j < 1 by omega)]
      rw [if_neg (show ¬ 177 + j < 18 by omega)]
      rw [if_neg (show ¬ 177 + j < 35 by omega)]
      rw [if_neg (show ¬ 177 + j < 139 by omega)]
      rw [if_neg (show ¬ 177 + j < 140 by omega)]
      rw [if_neg (show ¬ 177 + j < 157 by omega)]
      rw [if_neg (show ¬ 177 + j < 174 by omega)]
      rw [if_neg (show ¬ 177 + j < 175 by omega)]
      rw [if_neg (show ¬ 177 + j < 177 by omega)]
      rw [show 177 + j - 177 = j by omega]
  have e9 : (((((((((([(h, .inr (9, [.ref (u2 0), .ref (u4 0), .ref (u6 0), .ref q7, .ref q15, .ref (u17 0), .ref (u19 0)]))] : va_W) ++ wX7 k u2 q_S0) ++ wX7 k u4 q_S0) ++ wX3 k u6 q_S3) ++ [(q7, .inl (k 3, 2, .inr (.inr (.inr (.inr (fun i => if i < 2 then some (a (140 + 17 * i)) else none))))))]) ++ wX7 k u10 q_S0) ++ wX7 k u13 q_S0) ++ [(q15, .inl (k 1, 2, .inl (fun _ => 0)))]) ++ wX4 k u17 (fun _ _ => 0)) ++ wX6 k u19 (fun _ _ => 0)) = wX9 k a q_S9 := by
    rw [e0, q_w_snoc (X9_blk k a u2 1 (fun i hi f => EwX9_b1 k a i hi f) (fun i hi => by unfold q_S9; rw [if_neg (by omega), if_pos (by omega), show 1 + i - 1 = i by omega]) hu1), q_w_snoc (X9_blk k a u4 18 (fun i hi f => EwX9_b18 k a i hi f) (fun i hi => by unfold q_S9; rw [if_neg (by omega), if_neg (by omega), if_pos (by omega), show 18 + i - 18 = i by omega]) hu18), q_w_snoc (X9_blk3 k a u6 hu35), q_w_snoc ec139, q_w_snoc (X9_blk k a u10 140 (fun i hi f => EwX9_b140 k a 0 i (by decide) hi f) (fun i hi => by unfold q_S9; rw [if_neg (by omega), if_neg (by omega), if_neg (by omega), if_neg (by omega), if_neg (by omega), if_pos (by omega), show (140 + i - 140) % 17 = i by omega]) hu140), q_w_snoc (X9_blk k a u13 157 (fun i hi f => EwX9_b140 k a 1 i (by decide) hi f) (fun i hi => by unfold q_S9; rw [if_neg (by omega), if_neg (by omega), if_neg (by omega), if_neg (by omega), if_neg (by omega), if_pos (by omega), show (157 + i - 140) % 17 = i by omega]) hu157), q_w_snoc ec174, q_w_snoc (X9_blk4 k a u17 hu175), q_w_snoc (X9_blk6 k a u19 hu177)]
    rfl
  have hW : q_W D A s.heap (wX9 k a q_S9) H locs := by
    rw [← e9]
    simpa only [List.append_assoc, List.cons_append, List.nil_append] using hW
  refine W.widen (k := 179) (n := 7070) (by omega) (by omega) ?_
  exact W.vret hx hb hr (fun t ht hw => ⟨⟨a, rfl, by rw [ha]; rfl, by rw [ht]; exact hW.1, va_K.moved hw.alike hK, hW.2.1⟩, hW.2.2.F ht⟩) hW.2.2.2.2 dX9_init_100 hlocks
