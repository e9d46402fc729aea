def EwX3 (k : Nat → ClassId) (a : Nat → Nat) (j : Nat) (f : T1) : va_E := if j = 0 then .inr (3, fX3 a f) else if j = 1 then .inl (k 3, 6, .inr (.inr (.inr (.inr (fun i => if i < 6 then some (a (2 + 17 * i)) else none))))) else EwX7 k (fun i => a (2 + 17 * ((j - 2) / 17) + i)) ((j - 2) % 17) f
def wX3 (k : Nat → ClassId) (a : Nat → Nat) (σ : T2) : va_W := q_w 104 a (EwX3 k a) σ
theorem EwX3_b2 (k : Nat → ClassId) (a : Nat → Nat) (q i : Nat) (hq : q < 6) (hi : i < 17) (f : T1) : EwX3 k a (2 + 17 * q + i) f = EwX7 k (fun j => a (2 + 17 * q + j)) i f := by
  unfold EwX3; rw [if_neg (by omega)]; rw [if_neg (by omega)]; skip; rw [show (2 + 17 * q + i - 2) / 17 = q by omega, show (2 + 17 * q + i - 2) % 17 = i by omega]
theorem wX3_fst (k : Nat → ClassId) (a : Nat → Nat) (σ τ : T2) : (wX3 k a τ).map Prod.fst = (wX3 k a σ).map Prod.fst := q_w_fst.trans q_w_fst.symm
def wX3_is : List Nat := (List.range 104).map (fun i => i)
theorem wX3_nd : va_nd wX3_is = true := q_w_nd _ (fun i j _ _ h => h)
theorem wX3_pl (k : Nat → ClassId) (a : Nat → Nat) (σ : T2) : wX3_is.map (fun i => (wX3 k a σ)[i]?) = (wX3 k a σ).map some := q_w_pl (fun i => i) (fun i hi => ⟨hi, rfl, rfl⟩)
theorem wX3_put (k : Nat → ClassId) (a : Nat → Nat) (σ τ : T2) : q_put (wX3 k a σ) wX3_is (wX3 k a τ) = wX3 k a τ := q_w_pt (fun i => i) (fun i j _ _ h => h) (fun i hi => ⟨hi, rfl, rfl⟩) (fun j hj hno => absurd rfl (hno j hj))
theorem wX3_rec (k : Nat → ClassId) (a : Nat → Nat) (σ : T2) : (wX3 k a σ)[0]? = some (a 0, .inr (3, fX3 a (σ 0))) := q_w_get 0 (Nat.le_of_ble_eq_true rfl)
section QC3
variable {p : Program} {l : Launch} {e : Env} {Rm : Room} {s : State} {m : MethodId} {args : Array Value} {below : List Frame} {meth : Method} {c : Code} {H H0 : Heap} {locs : List Loc} {cells slots : Nat} {Q : State → Prop}
variable {pc : Nat} {ls : Array Slot} {rest : List Value} {A : Nat → Prop} {own : String} {cc : ByteArray} {maxL : Nat} {ret : Option FieldType} {ws : List Cond} {D : va_G} {wd : va_W} {k9 : Nat → ClassId}
theorem q_new_scene {n : Int32} {N' index : Nat} (C0 : q_C p s m meth c args own cc maxL ret ws D (tyL k9) A) (hW : q_W D A s.heap wd H locs) (hcl : (Cond.classLink own index RX7).before args s = true) (AO : va_AO "BeatFollower$Scene" s) (hn : ¬ n < 0) (hN : n.toNatClampNeg = N') (hbytes : N' * 4 ≤ 536870912) (hcells : cells + 1 ≤ Rm.cells) (hslots : slots + N' ≤ Rm.slots) (hdg : decode cc pc = .ok (.anewarray index, 3))
    (kk : ∀ (q : Nat) (H1 : Heap), q_W D A s.heap (wd ++ [(q, .inl (k9 3, N', .inr (.inr (.inr (.inr (fun _ => none))))))]) H1 locs → W p l e Rm s m args below meth c H1 locs (cells + 1) (slots + N') Q (F0 m (pc + 3) ls (.ref q :: rest))) : W p l e Rm s m args below meth c H locs cells slots Q (F0 m pc ls (.int n :: rest)) := by
  obtain ⟨hx, hb, hr, hml, hts, hown, hlocks, hK, hA⟩ := C0
  refine va_newq (C := RX7) hx hb hown hcl AO hK hW.1 hW.2.1 hW.2.2 hA hn hN hbytes hcells hslots hdg (fun q cA H1 hK1 hP hD hS => ?_)
  obtain ⟨-, -, -, -, -, h1⟩ : va_RA s cA (.object RX7) := (hK1.2 4 (cA, .object RX7) rfl).2
  obtain ⟨-, -, -, -, -, h2⟩ : va_RA s (k9 3) (.object RX7) := (hK.2 3 (k9 3, .object RX7) rfl).2
  have h3 : cA = k9 3 := Option.some.inj (h1.symm.trans h2)
  subst h3
  exact kk q H1 ⟨hP, hD, hS⟩
theorem q_aast {b v n9 kn : Nat} {cA : ClassId} {fo : Nat → Option Nat} {i : Int32} {wd' : va_W} {vs : List Value} (C0 : q_C p s m meth c args own cc maxL ret ws D (tyL k9) A) (hW : q_W D A s.heap wd H locs) (q0 qk : Nat) (ha : wd[q0]? = some (b, .inl (cA, n9, .inr (.inr (.inr (.inr fo)))))) (ht : (tyL k9)[3]? = some (cA, .object RX7)) (hv : wd[qk]? = some (v, .inr (7, vs))) (hin : vp_in i n9) (hi : i.toNatClampNeg = kn) (hdg : decode cc pc = .ok (.aastore, 1))
    (h2 : wd.set q0 (b, .inl (cA, n9, .inr (.inr (.inr (.inr (va_up fo kn (some v))))))) = wd') (kk : ∀ (H1 : Heap) (locs1 : List Loc), q_W D A s.heap wd' H1 locs1 → W p l e Rm s m args below meth c H1 locs1 cells slots Q (F0 m (pc + 1) ls rest)) : W p l e Rm s m args below meth c H locs cells slots Q (F0 m pc ls (.ref v :: .int i :: .ref b :: rest)) := by
  obtain ⟨hx, hb, hr, hml, hts, hown, hlocks, hK, hA⟩ := C0
  refine va_astq (r := (RX7, TX7, 7)) hx hb hK hW.1 hW.2.1 hW.2.2 q0 3 qk 7 ha ht hv rfl hin hdg (fun H1 locs1 hP hD hS => kk H1 locs1 ⟨?_, ?_, hS⟩)
  · rw [← h2, ← hi]; exact hP
  · rw [← h2, ← hi]; exact hD
/-- a row of references may be told by any function that agrees within it -/
theorem q_arrf {w1 w2 : va_W} {t n : Nat} {cA : ClassId} {f f2 : Nat → Option Nat} (h : ∀ i, i < n → f i = f2 i) (hW : q_W D A H0 (w1 ++ (t, .inl (cA, n, .inr (.inr (.inr (.inr f))))) :: w2) H locs) : q_W D A H0 (w1 ++ (t, .inl (cA, n, .inr (.inr (.inr (.inr f2))))) :: w2) H locs := by
  obtain ⟨hP, hD, hS⟩ := hW
  have hg : ∀ (k : Nat) (q : Nat × va_E), (w1 ++ (t, .inl (cA, n, .inr (.inr (.inr (.inr f2))))) :: w2)[k]? = some q → ∃ q', (w1 ++ (t, .inl (cA, n, .inr (.inr (.inr (.inr f))))) :: w2)[k]? = some q' ∧ q'.1 = q.1 ∧ (va_at D vwCl q' H → va_at D vwCl q H) := by
    intro k q hq
    rcases Nat.lt_trichotomy k w1.length with hk | hk | hk
    · rw [List.getElem?_append_left hk] at hq
      exact ⟨q, by rw [List.getElem?_append_left hk]; exact hq, rfl, id⟩
    · subst hk
      rw [List.getElem?_append_right (Nat.le_refl _), Nat.sub_self] at hq
      have e := Option.some.inj hq
      subst e
      exact ⟨(t, .inl (cA, n, .inr (.inr (.inr (.inr f))))), by rw [List.getElem?_append_right (Nat.le_refl _), Nat.sub_self]; rfl, rfl, fun h9 => q_iarr n cA h D H h9⟩
    · rw [List.getElem?_append_right (Nat.le_of_lt hk)] at hq
      obtain ⟨j, hj⟩ : ∃ j, k - w1.length = j + 1 := ⟨k - w1.length - 1, by omega⟩
      rw [hj] at hq
      exact ⟨q, by rw [List.getElem?_append_right (Nat.le_of_lt hk), hj]; exact hq, rfl, id⟩
  refine ⟨fun k q hq => ?_, ⟨fun i j x y hx hy hxy => ?_, fun k q hq => ?_⟩, hS⟩
  · obtain ⟨q', h1, -, h3⟩ := hg k q hq
    exact h3 (hP k q' h1)
  · obtain ⟨x', h1, h2, -⟩ := hg i x hx
    obtain ⟨y', h3, h4, -⟩ := hg j y hy
    exact hD.1 i j x' y' h1 h3 (by rw [h2, h4]; exact hxy)
  · obtain ⟨q', h1, h2, -⟩ := hg k q hq
    rw [← h2]; exact hD.2 k q' h1
end QC3
noncomputable def q_S3 : T2 := fun j => if j < 2 then (fun _ => 0) else q_S0 ((j - 2) % 17)
theorem q_w_cong {m : Nat} {a a' : Nat → Nat} {E E' : Nat → T1 → va_E} {σ σ' : T2} (h : ∀ i, i < m → a i = a' i ∧ E i (σ i) = E' i (σ' i)) : q_w m a E σ = q_w m a' E' σ' := by
  unfold q_w
  refine List.map_congr_left (fun i hi => ?_)
  obtain ⟨h1, h2⟩ := h i (List.mem_range.mp hi)
  rw [h1, h2]
theorem q_w_snoc {n m : Nat} {a : Nat → Nat} {E : Nat → T1 → va_E} {σ : T2} {w : va_W} (hw : w = q_w m (fun j => a (n + j)) (fun j => E (n + j)) (fun j => σ (n + j))) : q_w n a E σ ++ w = q_w (n + m) a E σ := by
  rw [hw]
  refine List.ext_getElem? (fun i => ?_)
  rcases Nat.lt_or_ge i n with h1 | h1
  · rw [List.getElem?_append_left (by rw [q_w_len]; exact h1), q_w_get i h1, q_w_get i (by omega)]
  · rw [List.getElem?_append_right (by rw [q_w_len]; exact h1), q_w_len]
    rcases Nat.lt_or_ge i (n + m) with h2 | h2
    · rw [q_w_get (i - n) (by omega), q_w_get i h2, show n + (i - n) = i by omega]
    · rw [q_w_out (i - n) (by omega), q_w_out i h2]
theorem X3_blk (k : Nat → ClassId) (a u : Nat → Nat) (n q : Nat) (hn : n = 2 + 17 * q) (hq : q < 6) (hu : ∀ j, j < 17 → a (n + j) = u j) : wX7 k u q_S0 = q_w 17 (fun j => a (n + j)) (fun j => EwX3 k a (n + j)) (fun j => q_S3 (n + j)) := by
  subst hn
  rw [wX7_q]
  refine q_w_cong (fun i hi => ⟨(hu i hi).symm, ?_⟩)
  rw [EwX3_b2 k a q i hq hi, show q_S3 (2 + 17 * q + i) = q_S0 i by unfold q_S3; rw [if_neg (by omega), show (2 + 17 * q + i - 2) % 17 = i by omega]]
  exact (EwX7_cong k (fun j hj => hu j hj) i hi _).symm
theorem hdi_X3_init : yX3_init.cls ≠ "java/lang/invoke/MethodHandle" ∧ yX3_init.cls ≠ "java/lang/invoke/VarHandle" ∧ (parseMethodDescriptor yX3_init.desc).map (fun d => d.parameters.length) = some 0 := by decide +kernel
theorem hin_X3_init_X3 : ∀ w ∈ u_ws RX3 TX3 3, w ∈ wsX3_init := by decide +kernel
theorem hin_X3_init_X7 : ∀ w ∈ u_ws RX7 TX7 7, w ∈ wsX3_init := by decide +kernel
set_option maxHeartbeats 4000000 in
set_option maxRecDepth 100000 in
theorem m_X3_init (l : Launch) (D : va_G) (k : Nat → ClassId) (h : Nat) (sz : Nat) (z : Nat → Nat) : Met l yX3_init wsX3_init { frames := 3, cells := 103, slots := 4110, locals := 61 } (va_Pc [.ref h] (fun U => q_B D (tyL k) [(h, .inr (3, [.null, .int 0, .int 0]))] sz U ∧ q_Z U (va_A [(h, .inr (3, [.null, .int 0, .int 0]))] sz) z ∧ q_N7 U ∧ va_AO "BeatFollower$Scene" U)) (va_Qv (fun u : Nat → Nat => u 0 = h) (fun u => q_E D (tyL k) (va_A [(h, .inr (3, [.null, .int 0, .int 0]))] sz) (wX3 k u q_S3)) (va_A [(h, .inr (3, [.null, .int 0, .int 0]))] sz)) 103 4110 (va_A [(h, .inr (3, [.null, .int 0, .int 0]))] sz) := by
  refine q_metz [.ref h] [(h, .inr (3, [.null, .int 0, .int 0]))] sz (fun U => q_Z U (va_A [(h, .inr (3, [.null, .int 0, .int 0]))] sz) z ∧ q_N7 U ∧ va_AO "BeatFollower$Scene" U) (cc := cX3_init) (maxL := 2) (ret := none) (by decide) rfl (Nat.le_of_ble_eq_true rfl) ?_
  intro p e s m args below meth c ls hsz hX C0 hW hl hin
  subst hsz
  obtain ⟨Z0, N7, AO⟩ := hX
  generalize va_A [(h, .inr (3, [.null, .int 0, .int 0]))] s.heap.size = A at C0 hW Z0 ⊢
  have hl : lv_has ls 2 [(0, .ref h)] := hl
  have C0 : q_C p s m meth c args RX3 cX3_init 2 none wsX3_init D (tyL k) A := C0
  obtain ⟨hx, hb, hr, hml, hts, hown, hlocks, hK, hA⟩ := id C0
  have hf11 := hts (.fieldLink RX3 11 "BeatFollower$History" "scenes" "[LBeatFollower$Scene;") (by decide +kernel)
  have hinX3 := hin_X3_init_X3
  have hinX7 := hin_X3_init_X7
  refine lv_aload_n hx hb dX3_init_0 rfl (lv_at hl 0 rfl) ?_
  refine q_objI C0 hl (hts (.methodLink RX3 3 objectInit) (by decide +kernel)) (hts (.instanceMethod objectInit) (by decide +kernel)) (hts (.code objectInit ⟨#[0xb1]⟩ 1 none) (by decide +kernel)) dX3_init_1 (Nat.le_of_ble_eq_true rfl) (Nat.le_of_ble_eq_true rfl) ?_
  refine lv_aload_n hx hb dX3_init_4 rfl (lv_at hl 0 rfl) ?_
  refine lv_bipush (v := (6 : Int32)) hx hb dX3_init_5 (by decide) ?_
  refine q_new_scene (N' := 6) C0 hW (hts (.classLink RX3 9 RX7) (by decide +kernel)) AO (by decide) (by decide) (Nat.le_of_ble_eq_true rfl) (Nat.le_of_ble_eq_true rfl) (Nat.le_of_ble_eq_true rfl) dX3_init_7 (fun q1 H hW => ?_)
  refine q_putF (ty := .array (.object "BeatFollower$Scene")) (fs := [.null, .int 0, .int 0]) (fs' := [.ref q1, .int 0, .int 0]) (wd' := [(h, .inr (3, [.ref q1, .int 0, .int 0]))] ++ [(q1, .inl (k 3, 6, .inr (.inr (.inr (.inr (fun _ => none))))))]) C0 hW hinX3 tyX3 tyX3_ok nmX3 0 rfl rfl 0 (by decide) hf11 rfl hin rfl (by decide +kernel) rfl rfl (Nat.le_of_ble_eq_true rfl) dX3_init_10 rfl rfl (fun H locs hW => ?_)
  refine lv_iconst (v := (0 : Int32)) hx hb dX3_init_13 (by decide) ?_
  refine lv_istore_n (lv' := [(1, .int (0 : Int32)), (0, .ref h)]) hx hb dX3_init_14 rfl hl (by decide) rfl (fun ls hl => ?_)
  refine lv_iload_n hx hb dX3_init_15 rfl (lv_at hl 0 rfl) ?_
  refine lv_bipush (v := (6 : Int32)) hx hb dX3_init_16 (by decide) ?_
  refine lv_icmp_ge (tgt := 40) hx hb dX3_init_18 (by decide) (fun hc => absurd hc (by decide)) (fun _ => ?_)
  refine lv_aload_n hx hb dX3_init_21 rfl (lv_at hl 1 rfl) ?_
  refine va_get (v := .ref q1) (C := RX3) (T := TX3) (N := 3) hx hb hts hinX3 hown hK hW.1 0 rfl rfl 0 (by decide) hf11 (fun _ h9 => h9) rfl dX3_init_22 ?_
  refine lv_iload_n hx hb dX3_init_25 rfl (lv_at hl 0 rfl) ?_
  refine q_newo (C := RX7) (T := TX7) (N := 7) (ci := 7) (fs := [.null, .null, .null, .null, .null, .null, .int 0]) C0 hW hinX7 tyX7 tyX7_ok (hts (.classLink RX3 9 RX7) (by decide +kernel)) (hts (.instantiable RX7 7) (by decide +kernel)) (hts (.initialized RX7) (by decide +kernel)) rfl (fun j hj => by rcases (show j = 0 ∨ j = 1 ∨ j = 2 ∨ j = 3 ∨ j = 4 ∨ j = 5 ∨ j = 6 by omega) with rfl | rfl | rfl | rfl | rfl | rfl | rfl <;> rfl) (Nat.le_of_ble_eq_true rfl) (Nat.le_of_ble_eq_true rfl) dX3_init_26 (fun q3 H hWn => ?_)
  refine lv_dup hx hb dX3_init_29 rfl ?_
  refine q_ctor (rest := [.ref q3, .int (0 : Int32), .ref q1]) (wf := fun u => wX7 k u q_S0) (Rp := fun u : Nat → Nat => u 0 = q3) (X := fun U => q_Z U (va_A [(q3, .inr (7, [.null, .null, .null, .null, .null, .null, .int 0]))] H.size) z ∧ q_N7 U) C0 hWn (m_X7_init l D k q3 _ z) (cwI 0 hts gX3_init_X7_init rfl rfl rfl (hts (.initialized RX7) (by decide +kernel)) (hts (.methodLink RX3 17 yX7_init) (by decide +kernel)) (hts (.instanceMethod yX7_init) (by decide +kernel)) rfl hdi_X7_init ⟨Nat.le_of_ble_eq_true rfl, Nat.le_of_ble_eq_true rfl⟩) (fun U hU hw => ⟨q_Z_sub Z0 hWn.2.2 (q_lastA C0 hWn) U hU hw, q_N7_warm hw N7⟩) (fun a U g mk h => ⟨q_Z_calling a U g mk h.1, q_N7_calling a U g mk h.2⟩) hl (Nat.le_of_ble_eq_true rfl) dX3_init_30 ⟨Nat.le_of_ble_eq_true rfl, Nat.le_of_ble_eq_true rfl⟩ (fun u4 H locs e4 hW => ?_)
  subst e4
  refine q_aast (wd' := [(h, .inr (3, [.ref q1, .int 0, .int 0]))] ++ [(q1, .inl (k 3, 6, .inr (.inr (.inr (.inr (va_up (fun _ => none) 0 (some (u4 0))))))))] ++ wX7 k u4 q_S0) C0 hW 1 2 rfl rfl (vs := fX7 u4 (q_S0 0)) rfl (by unfold vp_in; decide) (by decide) dX3_init_33 rfl (fun H locs hW => ?_)
  refine lv_iinc (v := (1 : Int32)) (lv' := [(1, .int (1 : Int32)), (0, .ref h)]) hx hb dX3_init_34 hl (k := 0) rfl (by decide) (by decide) rfl (fun ls hl => ?_)
  refine lv_goto (tgt := 15) hx hb dX3_init_37 (by decide) ?_
  refine lv_iload_n hx hb dX3_init_15 rfl (lv_at hl 0 rfl) ?_
  refine lv_bipush (v := (6 : Int32)) hx hb dX3_init_16 (by decide) ?_
  refine lv_icmp_ge (tgt := 40) hx hb dX3_init_18 (by decide) (fun hc => absurd hc (by decide)) (fun _ => ?_)
  refine lv_aload_n hx hb dX3_init_21 rfl (lv_at hl 1 rfl) ?_
  refine va_get (v := .ref q1) (C := RX3) (T := TX3) (N := 3) hx hb hts hinX3 hown hK hW.1 0 rfl rfl 0 (by decide) hf11 (fun _ h9 => h9) rfl dX3_init_22 ?_
  refine lv_iload_n hx hb dX3_init_25 rfl (lv_at hl 0 rfl) ?_
  refine q_newo (C := RX7) (T := TX7) (N := 7) (ci := 7) (fs := [.null, .null, .null, .null, .null, .null, .int 0]) C0 hW hinX7 tyX7 tyX7_ok (hts (.classLink RX3 9 RX7) (by decide +kernel)) (hts (.instantiable RX7 7) (by decide +kernel)) (hts (.initialized RX7) (by decide +kernel)) rfl (fun j hj => by rcases (show j = 0 ∨ j = 1 ∨ j = 2 ∨ j = 3 ∨ j = 4 ∨ j = 5 ∨ j = 6 by omega) with rfl | rfl | rfl | rfl | rfl | rfl | rfl <;> rfl) (Nat.le_of_ble_eq_true rfl) (Nat.le_of_ble_eq_true rfl) dX3_init_26 (fun q6 H hWn => ?_)
  refine lv_dup hx hb dX3_init_29 rfl ?_
  refine q_ctor (rest := [.ref q6, .int (1 : Int32), .ref q1]) (wf := fun u => wX7 k u q_S0) (Rp := fun u : Nat → Nat => u 0 = q6) (X := fun U => q_Z U (va_A [(q6, .inr (7, [.null, .null, .null, .null, .null, .null, .int 0]))] H.size) z ∧ q_N7 U) C0 hWn (m_X7_init l D k q6 _ z) (cwI 0 hts gX3_init_X7_init rfl rfl rfl (hts (.initialized RX7) (by decide +kernel)) (hts (.methodLink RX3 17 yX7_init) (by decide +kernel)) (hts (.instanceMethod yX7_init) (by decide +kernel)) rfl hdi_X7_init ⟨Nat.le_of_ble_eq_true rfl, Nat.le_of_ble_eq_true rfl⟩) (fun U hU hw => ⟨q_Z_sub Z0 hWn.2.2 (q_lastA C0 hWn) U hU hw, q_N7_warm hw N7⟩) (fun a U g mk h => ⟨q_Z_calling a U g mk h.1, q_N7_calling a U g mk h.2⟩) hl (Nat.le_of_ble_eq_true rfl) dX3_init_30 ⟨Nat.le_of_ble_eq_true rfl, Nat.le_of_ble_eq_true rfl⟩ (fun u7 H locs e7 hW => ?_)
  subst e7
  refine q_aast (wd' := [(h, .inr (3, [.ref q1, .int 0, .int 0]))] ++ [(q1, .inl (k 3, 6, .inr (.inr (.inr (.inr (va_up (va_up (fun _ => none) 0 (some (u4 0))) 1 (some (u7 0))))))))] ++ wX7 k u4 q_S0 ++ wX7 k u7 q_S0) C0 hW 1 19 rfl rfl (vs := fX7 u7 (q_S0 0)) rfl (by unfold vp_in; decide) (by decide) dX3_init_33 rfl (fun H locs hW => ?_)
  refine lv_iinc (v := (2 : Int32)) (lv' := [(1, .int (2 : Int32)), (0, .ref h)]) hx hb dX3_init_34 hl (k := 0) rfl (by decide) (by decide) rfl (fun ls hl => ?_)
  refine lv_goto (tgt := 15) hx hb dX3_init_37 (by decide) ?_
  refine lv_iload_n hx hb dX3_init_15 rfl (lv_at hl 0 rfl) ?_
  refine lv_bipush (v := (6 : Int32)) hx hb dX3_init_16 (by decide) ?_
  refine lv_icmp_ge (tgt := 40) hx hb dX3_init_18 (by decide) (fun hc => absurd hc (by decide)) (fun _ => ?_)
  refine lv_aload_n hx hb dX3_init_21 rfl (lv_at hl 1 rfl) ?_
  refine va_get (v := .ref q1) (C := RX3) (T := TX3) (N := 3) hx hb hts hinX3 hown hK hW.1 0 rfl rfl 0 (by decide) hf11 (fun _ h9 => h9) rfl dX3_init_22 ?_
  refine lv_iload_n hx hb dX3_init_25 rfl (lv_at hl 0 rfl) ?_
  refine q_newo (C := RX7) (T := TX7) (N := 7) (ci := 7) (fs := [.null, .null, .null, .null, .null, .null, .int 0]) C0 hW hinX7 tyX7 tyX7_ok (hts (.classLink RX3 9 RX7) (by decide +kernel)) (hts (.instantiable RX7 7) (by decide +kernel)) (hts (.initialized RX7) (by decide +kernel)) rfl (fun j hj => by rcases (show j = 0 ∨ j = 1 ∨ j = 2 ∨ j = 3 ∨ j = 4 ∨ j = 5 ∨ j = 6 by omega) with rfl | rfl | rfl | rfl | rfl | rfl | rfl <;> rfl) (Nat.le_of_ble_eq_true rfl) (Nat.le_of_ble_eq_true rfl) dX3_init_26 (fun q9 H hWn => ?_)
  refine lv_dup hx hb dX3_init_29 rfl ?_
  refine q_ctor (rest := [.ref q9, .int (2 : Int32), .ref q1]) (wf := fun u => wX7 k u q_S0) (Rp := fun u : Nat → Nat => u 0 = q9) (X := fun U => q_Z U (va_A [(q9, .inr (7, [.null, .null, .null, .null, .null, .null, .int 0]))] H.size) z ∧ q_N7 U) C0 hWn (m_X7_init l D k q9 _ z) (cwI 0 hts gX3_init_X7_init rfl rfl rfl (hts (.initialized RX7) (by decide +kernel)) (hts (.methodLink RX3 17 yX7_init) (by decide +kernel)) (hts (.instanceMethod yX7_init) (by decide +kernel)) rfl hdi_X7_init ⟨Nat.le_of_ble_eq_true rfl, Nat.le_of_ble_eq_true rfl⟩) (fun U hU hw => ⟨q_Z_sub Z0 hWn.2.2 (q_lastA C0 hWn) U hU hw, q_N7_warm hw N7⟩) (fun a U g mk h => ⟨q_Z_calling a U g mk h.1, q_N7_calling a U g mk h.2⟩) hl (Nat.le_of_ble_eq_true rfl) dX3_init_30 ⟨Nat.le_of_ble_eq_true rfl, Nat.le_of_ble_eq_true rfl⟩ (fun u10 H locs e10 hW => ?_)
  subst e10
  refine q_aast (wd' := [(h, .inr (3, [.ref q1, .int 0, .int 0]))] ++ [(q1, .inl (k 3, 6, .inr (.inr (.inr (.inr (va_up (va_up (va_up (fun _ => none) 0 (some (u4 0))) 1 (some (u7 0))) 2 (some (u10 0))))))))] ++ wX7 k u4 q_S0 ++ wX7 k u7 q_S0 ++ wX7 k u10 q_S0) C0 hW 1 36 rfl rfl (vs := fX7 u10 (q_S0 0)) rfl (by unfold vp_in; decide) (by decide) dX3_init_33 rfl (fun H locs hW => ?_)
  refine lv_iinc (v := (3 : Int32)) (lv' := [(1, .int (3 : Int32)), (0, .ref h)]) hx hb dX3_init_34 hl (k := 0) rfl (by decide) (by decide) rfl (fun ls hl => ?_)
  refine lv_goto (tgt := 15) hx hb dX3_init_37 (by decide) ?_
  refine lv_iload_n hx hb dX3_init_15 rfl (lv_at hl 0 rfl) ?_
  refine lv_bipush (v := (6 : Int32)) hx hb dX3_init_16 (by decide) ?_
  refine lv_icmp_ge (tgt := 40) hx hb dX3_init_18 (by decide) (fun hc => absurd hc (by decide)) (fun _ => ?_)
  refine lv_aload_n hx hb dX3_init_21 rfl (lv_at hl 1 rfl) ?_
  refine va_get (v := .ref q1) (C := RX3) (T := TX3) (N := 3) hx hb hts hinX3 hown hK hW.1 0 rfl rfl 0 (by decide) hf11 (fun _ h9 => h9) rfl dX3_init_22 ?_
  refine lv_iload_n hx hb dX3_init_25 rfl (lv_at hl 0 rfl) ?_
  refine q_newo (C := RX7) (T := TX7) (N := 7) (ci := 7) (fs := [.null, .null, .null, .null, .null, .null, .int 0]) C0 hW hinX7 tyX7 tyX7_ok (hts (.classLink RX3 9 RX7) (by decide +kernel)) (hts (.instantiable RX7 7) (by decide +kernel)) (hts (.initialized RX7) (by decide +kernel)) rfl (fun j hj => by rcases (show j = 0 ∨ j = 1 ∨ j = 2 ∨ j = 3 ∨ j = 4 ∨ j = 5 ∨ j = 6 by omega) with rfl | rfl | rfl | rfl | rfl | rfl | rfl <;> rfl) (Nat.le_of_ble_eq_true rfl) (Nat.le_of_ble_eq_true rfl) dX3_init_26 (fun q12 H hWn => ?_)
  refine lv_dup hx hb dX3_init_29 rfl ?_
  refine q_ctor (rest := [.ref q12, .int (3 : Int32), .ref q1]) (wf := fun u => wX7 k u q_S0) (Rp := fun u : Nat → Nat => u 0 = q12) (X := fun U => q_Z U (va_A [(q12, .inr (7, [.null, .null, .null, .null, .null, .null, .int 0]))] H.size) z ∧ q_N7 U) C0 hWn (m_X7_init l D k q12 _ z) (cwI 0 hts gX3_init_X7_init rfl rfl rfl (hts (.initialized RX7) (by decide +kernel)) (hts (.methodLink RX3 17 yX7_init) (by decide +kernel)) (hts (.instanceMethod yX7_init) (by decide +kernel)) rfl hdi_X7_init ⟨Nat.le_of_ble_eq_true rfl, Nat.le_of_ble_eq_true rfl⟩) (fun U hU hw => ⟨q_Z_sub Z0 hWn.2.2 (q_lastA C0 hWn) U hU hw, q_N7_warm hw N7⟩) (fun a U g mk h => ⟨q_Z_calling a U g mk h.1, q_N7_calling a U g mk h.2⟩) hl (Nat.le_of_ble_eq_true rfl) dX3_init_30 ⟨Nat.le_of_ble_eq_true rfl, Nat.le_of_ble_eq_true rfl⟩ (fun u13 H locs e13 hW => ?_)
  subst e13
  refine q_aast (wd' := [(h, .inr (3, [.ref q1, .int 0, .int 0]))] ++ [(q1, .inl (k 3, 6, .inr (.inr (.inr (.inr (va_up (va_up (va_up (va_up (fun _ => none) 0 (some (u4 0))) 1 (some (u7 0))) 2 (some (u10 0))) 3 (some (u13 0))))))))] ++ wX7 k u4 q_S0 ++ wX7 k u7 q_S0 ++ wX7 k u10 q_S0 ++ wX7 k u13 q_S0) C0 hW 1 53 rfl rfl (vs := fX7 u13 (q_S0 0)) rfl (by unfold vp_in; decide) (by decide) dX3_init_33 rfl (fun H locs hW => ?_)
  refine lv_iinc (v := (4 : Int32)) (lv' := [(1, .int (4 : Int32)), (0, .ref h)]) hx hb dX3_init_34 hl (k := 0) rfl (by decide) (by decide) rfl (fun ls hl => ?_)
  refine lv_goto (tgt := 15) hx hb dX3_init_37 (by decide) ?_
  refine lv_iload_n hx hb dX3_init_15 rfl (lv_at hl 0 rfl) ?_
  refine lv_bipush (v := (6 : Int32)) hx hb dX3_init_16 (by decide) ?_
  refine lv_icmp_ge (tgt := 40) hx hb dX3_init_18 (by decide) (fun hc => absurd hc (by decide)) (fun _ => ?_)
  refine lv_aload_n hx hb dX3_init_21 rfl (lv_at hl 1 rfl) ?_
  refine va_get (v := .ref q1) (C := RX3) (T := TX3) (N := 3) hx hb hts hinX3 hown hK hW.1 0 rfl rfl 0 (by decide) hf11 (fun _ h9 => h9) rfl dX3_init_22 ?_
  refine lv_iload_n hx hb dX3_init_25 rfl (lv_at hl 0 rfl) ?_
  refine q_newo (C := RX7) (T := TX7) (N := 7) (ci := 7) (fs := [.null, .null, .null, .null, .null, .null, .int 0]) C0 hW hinX7 tyX7 tyX7_ok (hts (.classLink RX3 9 RX7) (by decide +kernel)) (hts (.instantiable RX7 7) (by decide +kernel)) (hts (.initialized RX7) (by decide +kernel)) rfl (fun j hj => by rcases (show j = 0 ∨ j = 1 ∨ j = 2 ∨ j = 3 ∨ j = 4 ∨ j = 5 ∨ j = 6 by omega) with rfl | rfl | rfl | rfl | rfl | rfl | rfl <;> rfl) (Nat.le_of_ble_eq_true rfl) (Nat.le_of_ble_eq_true rfl) dX3_init_26 (fun q15 H hWn => ?_)
  refine lv_dup hx hb dX3_init_29 rfl ?_
  refine q_ctor (rest := [.ref q15, .int (4 : Int32), .ref q1]) (wf := fun u => wX7 k u q_S0) (Rp := fun u : Nat → Nat => u 0 = q15) (X := fun U => q_Z U (va_A [(q15, .inr (7, [.null, .null, .null, .null, .null, .null, .int 0]))] H.size) z ∧ q_N7 U) C0 hWn (m_X7_init l D k q15 _ z) (cwI 0 hts gX3_init_X7_init rfl rfl rfl (hts (.initialized RX7) (by decide +kernel)) (hts (.methodLink RX3 17 yX7_init) (by decide +kernel)) (hts (.instanceMethod yX7_init) (by decide +kernel)) rfl hdi_X7_init ⟨Nat.le_of_ble_eq_true rfl, Nat.le_of_ble_eq_true rfl⟩) (fun U hU hw => ⟨q_Z_sub Z0 hWn.2.2 (q_lastA C0 hWn) U hU hw, q_N7_warm hw N7⟩) (fun a U g mk h => ⟨q_Z_calling a U g mk h.1, q_N7_calling a U g mk h.2⟩) hl (Nat.le_of_ble_eq_true rfl) dX3_init_30 ⟨Nat.le_of_ble_eq_true rfl, Nat.le_of_ble_eq_true rfl⟩ (fun u16 H locs e16 hW => ?_)
  subst e16
  refine q_aast (wd' := [(h, .inr (3, [.ref q1, .int 0, .int 0]))] ++ [(q1, .inl (k 3, 6, .inr (.inr (.inr (.inr (va_up (va_up (va_up (va_up (va_up (fun _ => none) 0 (some (u4 0))) 1 (some (u7 0))) 2 (some (u10 0))) 3 (some (u13 0))) 4 (some (u16 0))))))))] ++ wX7 k u4 q_S0 ++ wX7 k u7 q_S0 ++ wX7 k u10 q_S0 ++ wX7 k u13 q_S0 ++ wX7 k u16 q_S0) C0 hW 1 70 rfl rfl (vs := fX7 u16 (q_S0 0)) rfl (by unfold vp_in; decide) (by decide) dX3_init_33 rfl (fun H locs hW => ?_)
  refine lv_iinc (v := (5 : Int32)) (lv' := [(1, .int (5 : Int32)), (0, .ref h)]) hx hb dX3_init_34 hl (k := 0) rfl (by decide) (by decide) rfl (fun ls hl => ?_)
  refine lv_goto (tgt := 15) hx hb dX3_init_37 (by decide) ?_
  refine lv_iload_n hx hb dX3_init_15 rfl (lv_at hl 0 rfl) ?_
  refine lv_bipush (v := (6 : Int32)) hx hb dX3_init_16 (by decide) ?_
  refine lv_icmp_ge (tgt := 40) hx hb dX3_init_18 (by decide) (fun hc => absurd hc (by decide)) (fun _ => ?_)
  refine lv_aload_n hx hb dX3_init_21 rfl (lv_at hl 1 rfl) ?_
  refine va_get (v := .ref q1) (C := RX3) (T := TX3) (N := 3) hx hb hts hinX3 hown hK hW.1 0 rfl rfl 0 (by decide) hf11 (fun _ h9 => h9) rfl dX3_init_22 ?_
  refine lv_iload_n hx hb dX3_init_25 rfl (lv_at hl 0 rfl) ?_
  refine q_newo (C := RX7) (T := TX7) (N := 7) (ci := 7) (fs := [.null, .null, .null, .null, .null, .null, .int 0]) C0 hW hinX7 tyX7 tyX7_ok (hts (.classLink RX3 9 RX7) (by decide +kernel)) (hts (.instantiable RX7 7) (by decide +kernel)) (hts (.initialized RX7) (by decide +kernel)) rfl (fun j hj => by rcases (show j = 0 ∨ j = 1 ∨ j = 2 ∨ j = 3 ∨ j = 4 ∨ j = 5 ∨ j = 6 by omega) with rfl | rfl | rfl | rfl | rfl | rfl | rfl <;> rfl) (Nat.le_of_ble_eq_true rfl) (Nat.le_of_ble_eq_true rfl) dX3_init_26 (fun q18 H hWn => ?_)
  refine lv_dup hx hb dX3_init_29 rfl ?_
  refine q_ctor (rest := [.ref q18, .int (5 : Int32), .ref q1]) (wf := fun u => wX7 k u q_S0) (Rp := fun u : Nat → Nat => u 0 = q18) (X := fun U => q_Z U (va_A [(q18, .inr (7, [.null, .null, .null, .null, .null, .null, .int 0]))] H.size) z ∧ q_N7 U) C0 hWn (m_X7_init l D k q18 _ z) (cwI 0 hts gX3_init_X7_init rfl rfl rfl (hts (.initialized RX7) (by decide +kernel)) (hts (.methodLink RX3 17 yX7_init) (by decide +kernel)) (hts (.instanceMethod yX7_init) (by decide +kernel)) rfl hdi_X7_init ⟨Nat.le_of_ble_eq_true rfl, Nat.le_of_ble_eq_true rfl⟩) (fun U hU hw => ⟨q_Z_sub Z0 hWn.2.2 (q_lastA C0 hWn) U hU hw, q_N7_warm hw N7⟩) (fun a U g mk h => ⟨q_Z_calling a U g mk h.1, q_N7_calling a U g mk h.2⟩) hl (Nat.le_of_ble_eq_true rfl) dX3_init_30 ⟨Nat.le_of_ble_eq_true rfl, Nat.le_of_ble_eq_true rfl⟩ (fun u19 H locs e19 hW => ?_)
  subst e19
  refine q_aast (wd' := [(h, .inr (3, [.ref q1, .int 0, .int 0]))] ++ [(q1, .inl (k 3, 6, .inr (.inr (.inr (.inr (va_up (va_up (va_up (va_up (va_up (va_up (fun _ => none) 0 (some (u4 0))) 1 (some (u7 0))) 2 (some (u10 0))) 3 (some (u13 0))) 4 (some (u16 0))) 5 (some (u19 0))))))))] ++ wX7 k u4 q_S0 ++ wX7 k u7 q_S0 ++ wX7 k u10 q_S0 ++ wX7 k u13 q_S0 ++ wX7 k u16 q_S0 ++ wX7 k u19 q_S0) C0 hW 1 87 rfl rfl (vs := fX7 u19 (q_S0 0)) rfl (by unfold vp_in; decide) (by decide) dX3_init_33 rfl (fun H locs hW => ?_)
  refine lv_iinc (v := (6 : Int32)) (lv' := [(1, .int (6 : Int32)), (0, .ref h)]) hx hb dX3_init_34 hl (k := 0) rfl (by decide) (by decide) rfl (fun ls hl => ?_)
  refine lv_goto (tgt := 15) hx hb dX3_init_37 (by decide) ?_
  refine lv_iload_n hx hb dX3_init_15 rfl (lv_at hl 0 rfl) ?_
  refine lv_bipush (v := (6 : Int32)) hx hb dX3_init_16 (by decide) ?_
  refine lv_icmp_ge (tgt := 40) hx hb dX3_init_18 (by decide) (fun _ => ?_) (fun hc => absurd (by decide) hc)
  obtain ⟨a, ha⟩ : ∃ a : Nat → Nat, a = (fun j => if j < 1 then h else if j < 2 then q1 else if j < 19 then u4 (j - 2) else if j < 36 then u7 (j - 19) else if j < 53 then u10 (j - 36) else if j < 70 then u13 (j - 53) else if j < 87 then u16 (j - 70) else u19 (j - 87)) := ⟨_, rfl⟩
  have hf9 : ∀ i, i < 6 → (va_up (va_up (va_up (va_up (va_up (va_up (fun _ => none) 0 (some (u4 0))) 1 (some (u7 0))) 2 (some (u10 0))) 3 (some (u13 0))) 4 (some (u16 0))) 5 (some (u19 0))) i = (fun i => if i < 6 then some (a (2 + 17 * i)) else none) i := by
    intro i hi
    rcases (show i = 0 ∨ i = 1 ∨ i = 2 ∨ i = 3 ∨ i = 4 ∨ i = 5 by omega) with rfl | rfl | rfl | rfl | rfl | rfl <;> (rw [ha]; rfl)
  have hW := q_arrf (w1 := [(h, .inr (3, [.ref q1, .int 0, .int 0]))]) (w2 := wX7 k u4 q_S0 ++ (wX7 k u7 q_S0 ++ (wX7 k u10 q_S0 ++ (wX7 k u13 q_S0 ++ (wX7 k u16 q_S0 ++ (wX7 k u19 q_S0)))))) hf9 (by simpa only [List.append_assoc, List.cons_append, List.nil_append] using hW)
  have hu0 : ∀ j, j < 17 → a (2 + j) = u4 j := fun j hj => by
      show _ = _
      rw [ha]
      dsimp only
      rw [if_neg (show ¬ 2 + j < 1 by omega)]
      rw [if_neg (show ¬ 2 + j < 2 by omega)]
      rw [if_pos (show 2 + j < 19 by omega)]
      rw [show 2 + j - 2 = j by omega]
  have hu1 : ∀ j, j < 17 → a (19 + j) = u7 j := fun j hj => by
      show _ = _
      rw [ha]
      dsimp only
      rw [if_neg (show ¬ 19 + j < 1 by omega)]
      rw [if_neg (show ¬ 19 + j < 2 by omega)]
      rw [if_neg (show ¬ 19 + j < 19 by omega)]
      rw [if_pos (show 19 + j < 36 by omega)]
      rw [show 19 + j - 19 = j by omega]
  have hu2 : ∀ j, j < 17 → a (36 + j) = u10 j := fun j hj => by
      show _ = _
      rw [ha]
      dsimp only
      rw [if_neg (show ¬ 36 + j < 1 by omega)]
      rw [if_neg (show ¬ 36 + j < 2 by omega)]
      rw [if_neg (show ¬ 36 + j < 19 by omega)]
      rw [if_neg (show ¬ 36 + j < 36 by omega)]
      rw [if_pos (show 36 + j < 53 by omega)]
      rw [show 36 + j - 36 = j by omega]
  have hu3 : ∀ j, j < 17 → a (53 + j) = u13 j := fun j hj => by
      show _ = _
      rw [ha]
      dsimp only
      rw [if_neg (show ¬ 53 + j < 1 by omega)]
      rw [if_neg (show ¬ 53 + j < 2 by omega)]
      rw [if_neg (show ¬ 53 + j < 19 by omega)]
      rw [if_neg (show ¬ 53 + j < 36 by omega)]
      rw [if_neg (show ¬ 53 + j < 53 by omega)]
      rw [if_pos (show 53 + j < 70 by omega)]
      rw [show 53 + j - 53 = j by omega]
  have hu4 : ∀ j, j < 17 → a (70 + j) = u16 j := fun j hj => by
      show _ = _
      rw [ha]
      dsimp only
      rw [if_neg (show ¬ 70 + j < 1 by omega)]
      rw [if_neg (show ¬ 70 + j < 2 by omega)]
      rw [if_neg (show ¬ 70 + j < 19 by omega)]
      rw [if_neg (show ¬ 70 + j < 36 by omega)]
      rw [if_neg (show ¬ 70 + j < 53 by omega)]
      rw [if_neg (show ¬ 70 + j < 70 by omega)]
      rw [if_pos (show 70 + j < 87 by omega)]
      rw [show 70 + j - 70 = j by omega]
  have hu5 : ∀ j, j < 17 → a (87 + j) = u19 j := fun j hj => by
      show _ = _
      rw [ha]
      dsimp only
      rw [if_neg (show ¬ 87 + j < 1 by omega)]
      rw [if_neg (show ¬ 87 + j < 2 by omega)]
      rw [if_neg (show ¬ 87 + j < 19 by omega)]
      rw [if_neg (show ¬ 87 + j < 36 by omega)]
      rw [if_neg (show ¬ 87 + j < 53 by omega)]
      rw [if_neg (show ¬ 87 + j < 70 by omega)]
      rw [if_neg (show ¬ 87 + j < 87 by omega)]
      rw [show 87 + j - 87 = j by omega]
  have ea0 : a 0 = h := by rw [ha]; rfl
  have ea1 : a 1 = q1 := by rw [ha]; rfl
  have e0 : ([(h, .inr (3, [.ref q1, .int 0, .int 0]))] ++ [(q1, .inl (k 3, 6, .inr (.inr (.inr (.inr (fun i => if i < 6 then some (a (2 + 17 * i)) else none))))))] : va_W) = q_w 2 a (EwX3 k a) q_S3 := by
    rw [← ea0, ← ea1]
    rfl
  have e9 : ((((((([(h, .inr (3, [.ref q1, .int 0, .int 0]))] ++ [(q1, .inl (k 3, 6, .inr (.inr (.inr (.inr (fun i => if i < 6 then some (a (2 + 17 * i)) else none))))))] : va_W) ++ wX7 k u4 q_S0) ++ wX7 k u7 q_S0) ++ wX7 k u10 q_S0) ++ wX7 k u13 q_S0) ++ wX7 k u16 q_S0) ++ wX7 k u19 q_S0) = wX3 k a q_S3 := by
    rw [e0, q_w_snoc (X3_blk k a u4 2 0 rfl (by decide) hu0), q_w_snoc (X3_blk k a u7 19 1 rfl (by decide) hu1), q_w_snoc (X3_blk k a u10 36 2 rfl (by decide) hu2), q_w_snoc (X3_blk k a u13 53 3 rfl (by decide) hu3), q_w_snoc (X3_blk k a u16 70 4 rfl (by decide) hu4), q_w_snoc (X3_blk k a u19 87 5 rfl (by decide) hu5)]
    rfl
  have hW : q_W D A s.heap (wX3 k a q_S3) H locs := by
    rw [← e9]
    simpa only [List.append_assoc, List.cons_append, List.nil_append] using hW
  refine W.widen (k := 103) (n := 4110) (by omega) (by omega) ?_
  exact W.vret hx hb hr (fun t ht hw => ⟨⟨a, rfl, by rw [ha]; rfl, by rw [ht]; exact hW.1, va_K.moved hw.alike hK, hW.2.1⟩, hW.2.2.F ht⟩) hW.2.2.2.2 dX3_init_40 hlocks
