/-! own rows: constructors (new arrays and objects, final fields, calls of constructors) -/
section QCT
variable {p : Program} {l : Launch} {e : Env} {Rm : Room} {s : State} {m : MethodId} {args : Array Value} {below : List Frame} {meth : Method} {c : Code} {H H0 : Heap} {locs : List Loc} {cells slots : Nat} {Q : State → Prop}
variable {pc : Nat} {ls : Array Slot} {rest st0 : List Value} {A : Nat → Prop} {own : String} {cc : ByteArray} {maxL : Nat} {ret : Option FieldType} {ws : List Cond} {D : va_G} {tys : List (ClassId × FieldType)} {wd : va_W} {k9 : Nat → ClassId}

theorem q_new_int {n : Int32} {N' : Nat} (C0 : q_C p s m meth c args own cc maxL ret ws D (tyL k9) A) (hW : q_W D A s.heap wd H locs) (harr : (Cond.arrayClass .int).before args s = true) (hn : ¬ n < 0) (hN : n.toNatClampNeg = N') (hbytes : N' * componentBytes .int ≤ 536870912) (hcells : cells + 1 ≤ Rm.cells) (hslots : slots + N' ≤ Rm.slots) (hdg : decode cc pc = .ok (.newarray .int, 2))
    (kk : ∀ (q : Nat) (H1 : Heap), q_W D A s.heap (wd ++ [(q, .inl (k9 0, N', .inl (fun _ => 0)))]) H1 locs → W p l e Rm s m args below meth c H1 locs (cells + 1) (slots + N') Q (F0 m (pc + 2) ls (.ref q :: rest))) : W p l e Rm s m args below meth c H locs cells slots Q (F0 m pc ls (.int n :: rest)) := by
  obtain ⟨hx, hb, hr, hml, hts, hown, hlocks, hK, hA⟩ := C0
  refine va_newa (atype := .int) (ty := .int) (a0 := (N', .inl (fun _ => 0))) hx hb harr rfl hK hW.1 hW.2.1 hW.2.2 hA (fun cA => rfl) hn hN hbytes hcells hslots hdg (fun q cA H1 hK1 hP hD hS => ?_)
  have h1 : s.vm.findClass ("[" ++ (FieldType.int).toString) = some cA := (hK1.2 4 (cA, .int) rfl).2
  have h2 : s.vm.findClass ("[" ++ (FieldType.int).toString) = some (k9 0) := (hK.2 0 (k9 0, .int) rfl).2
  have h3 : cA = k9 0 := Option.some.inj (h1.symm.trans h2)
  subst h3
  exact kk q H1 ⟨hP, hD, hS⟩
theorem q_new_boolean {n : Int32} {N' : Nat} (C0 : q_C p s m meth c args own cc maxL ret ws D (tyL k9) A) (hW : q_W D A s.heap wd H locs) (harr : (Cond.arrayClass .boolean).before args s = true) (hn : ¬ n < 0) (hN : n.toNatClampNeg = N') (hbytes : N' * componentBytes .boolean ≤ 536870912) (hcells : cells + 1 ≤ Rm.cells) (hslots : slots + N' ≤ Rm.slots) (hdg : decode cc pc = .ok (.newarray .boolean, 2))
    (kk : ∀ (q : Nat) (H1 : Heap), q_W D A s.heap (wd ++ [(q, .inl (k9 1, N', .inl (fun _ => 0)))]) H1 locs → W p l e Rm s m args below meth c H1 locs (cells + 1) (slots + N') Q (F0 m (pc + 2) ls (.ref q :: rest))) : W p l e Rm s m args below meth c H locs cells slots Q (F0 m pc ls (.int n :: rest)) := by
  obtain ⟨hx, hb, hr, hml, hts, hown, hlocks, hK, hA⟩ := C0
  refine va_newa (atype := .boolean) (ty := .boolean) (a0 := (N', .inl (fun _ => 0))) hx hb harr rfl hK hW.1 hW.2.1 hW.2.2 hA (fun cA => rfl) hn hN hbytes hcells hslots hdg (fun q cA H1 hK1 hP hD hS => ?_)
  have h1 : s.vm.findClass ("[" ++ (FieldType.boolean).toString) = some cA := (hK1.2 4 (cA, .boolean) rfl).2
  have h2 : s.vm.findClass ("[" ++ (FieldType.boolean).toString) = some (k9 1) := (hK.2 1 (k9 1, .boolean) rfl).2
  have h3 : cA = k9 1 := Option.some.inj (h1.symm.trans h2)
  subst h3
  exact kk q H1 ⟨hP, hD, hS⟩
theorem q_new_char {n : Int32} {N' : Nat} (C0 : q_C p s m meth c args own cc maxL ret ws D (tyL k9) A) (hW : q_W D A s.heap wd H locs) (harr : (Cond.arrayClass .char).before args s = true) (hn : ¬ n < 0) (hN : n.toNatClampNeg = N') (hbytes : N' * componentBytes .char ≤ 536870912) (hcells : cells + 1 ≤ Rm.cells) (hslots : slots + N' ≤ Rm.slots) (hdg : decode cc pc = .ok (.newarray .char, 2))
    (kk : ∀ (q : Nat) (H1 : Heap), q_W D A s.heap (wd ++ [(q, .inl (k9 2, N', .inl (fun _ => 0)))]) H1 locs → W p l e Rm s m args below meth c H1 locs (cells + 1) (slots + N') Q (F0 m (pc + 2) ls (.ref q :: rest))) : W p l e Rm s m args below meth c H locs cells slots Q (F0 m pc ls (.int n :: rest)) := by
  obtain ⟨hx, hb, hr, hml, hts, hown, hlocks, hK, hA⟩ := C0
  refine va_newa (atype := .char) (ty := .char) (a0 := (N', .inl (fun _ => 0))) hx hb harr rfl hK hW.1 hW.2.1 hW.2.2 hA (fun cA => rfl) hn hN hbytes hcells hslots hdg (fun q cA H1 hK1 hP hD hS => ?_)
  have h1 : s.vm.findClass ("[" ++ (FieldType.char).toString) = some cA := (hK1.2 4 (cA, .char) rfl).2
  have h2 : s.vm.findClass ("[" ++ (FieldType.char).toString) = some (k9 2) := (hK.2 2 (k9 2, .char) rfl).2
  have h3 : cA = k9 2 := Option.some.inj (h1.symm.trans h2)
  subst h3
  exact kk q H1 ⟨hP, hD, hS⟩
theorem q_newo {C : String} {T : u_T} {N ci index : Nat} {fs : List Value} (C0 : q_C p s m meth c args own cc maxL ret ws D tys A) (hW : q_W D A s.heap wd H locs) (hin : ∀ w ∈ u_ws C T N, w ∈ ws) (ty : Nat → FieldType) (hty : ∀ k, k < N → parseFieldDescriptor (T k).2.2.1 = some (ty k)) (hcl : (Cond.classLink own index C).before args s = true) (hinst : (Cond.instantiable C N).before args s = true) (hini : (Cond.initialized C).before args s = true) (hc : vwCl[ci]? = some (C, T, N)) (hfs : ∀ j, j < N → defaultValue (ty j) = vp_V fs j) (hcells : cells + 1 ≤ Rm.cells) (hslots : slots + N ≤ Rm.slots) (hdg : decode cc pc = .ok (.new index, 3))
    (kk : ∀ (q : Nat) (H1 : Heap), q_W D A s.heap (wd ++ [(q, .inr (ci, fs))]) H1 locs → W p l e Rm s m args below meth c H1 locs (cells + 1) (slots + N) Q (F0 m (pc + 3) ls (.ref q :: rest))) : W p l e Rm s m args below meth c H locs cells slots Q (F0 m pc ls rest) := by
  obtain ⟨hx, hb, hr, hml, hts, hown, hlocks, hK, hA⟩ := C0
  exact va_new (C := C) (T := T) (N := N) hx hb hts hin ty hty hown hcl hinst hini hK hW.1 hW.2.1 hW.2.2 hA hc hfs hcells hslots hdg (fun q H1 hP hD hS => kk q H1 ⟨hP, hD, hS⟩)
theorem q_putF {b : Nat} {C : String} {T : u_T} {N ci index : Nat} {wd' : va_W} (C0 : q_C p s m meth c args own cc maxL ret ws D tys A) (hW : q_W D A s.heap wd H locs) (hin : ∀ w ∈ u_ws C T N, w ∈ ws) (ty0 : Nat → FieldType) (hty : ∀ k, k < N → parseFieldDescriptor (T k).2.2.1 = some (ty0 k)) (hnm : ∀ a, a < N → ∀ b, b < N → a ≠ b → (T a).2.1 ≠ (T b).2.1) (q0 : Nat) {fs fs' : List Value} (he : wd[q0]? = some (b, .inr (ci, fs))) (hc : vwCl[ci]? = some (C, T, N)) (k : Nat) (hk : k < N) (hlink : (Cond.fieldLink own index (T k).1 (T k).2.1 (T k).2.2.1).before args s = true) (hfin : (T k).2.2.2 = true) (hin2 : meth.name = "<init>") (hdecl : (T k).1 = own) {ty : FieldType} {v : Value} (hd : parseFieldDescriptor (T k).2.2.1 = some ty) (hn : narrow ty v = v) (hfit : fits ty v = true) (hl : k < fs.length)
    (hdg : decode cc pc = .ok (.putfield index, 3)) (h1 : fs.set k v = fs') (h2 : wd.set q0 (b, .inr (ci, fs')) = wd') (kk : ∀ (H1 : Heap) (locs1 : List Loc), q_W D A s.heap wd' H1 locs1 → W p l e Rm s m args below meth c H1 locs1 cells slots Q (F0 m (pc + 3) ls rest)) : W p l e Rm s m args below meth c H locs cells slots Q (F0 m pc ls (v :: .ref b :: rest)) := by
  obtain ⟨hx, hb, hr, hml, hts, hown, hlocks, hK, hA⟩ := C0
  refine va_putF (D := D) (ci := ci) (v := v) (ty := ty) (C := C) (T := T) (N := N) hx hb hts hin ty0 hty hnm hown hK hW.1 hW.2.1 hW.2.2 q0 he hc k hk hlink (fun _ h9 => h9) hfin hin2 hdecl hd hn hfit hl hdg (fun H1 locs1 hP hD hS => kk H1 locs1 ⟨?_, ?_, hS⟩)
  · rw [← h2, ← h1]; exact hP
  · rw [← h2, ← h1]; exact hD
theorem q_objI {index : Nat} (C0 : q_C p s m meth c args own cc maxL ret ws D tys A) {lv : List (Nat × Value)} (hl : lv_has ls maxL lv) (hlink : (Cond.methodLink own index objectInit).before args s = true) (hinst : (Cond.instanceMethod objectInit).before args s = true) (hcode : (Cond.code objectInit ⟨#[0xb1]⟩ 1 none).before args s = true) {a : Addr} (hdg : decode cc pc = .ok (.invokespecial index, 3)) (hframes : 1 ≤ Rm.frames) (hlocals : 12 ≤ Rm.locals)
    (kk : W p l e Rm s m args below meth c H locs cells slots Q (F0 m (pc + 3) ls [])) : W p l e Rm s m args below meth c H locs cells slots Q (F0 m pc ls [.ref a]) := by
  obtain ⟨hx, hb, hr, hml, hts, hown, hlocks, hK, hA⟩ := C0
  refine W.objInit hx hb hown hlink hinst hcode rfl (by rw [hml]; exact hl.1) rfl hdg hframes (by show 2 * 0 + 0 + 12 ≤ _; omega) ?_
  exact W.eq (g2 := F0 m (pc + 3) ls []) rfl kk
/-- what came back of the last cell's constructor stands behind the rest -/
theorem q_last {wr w1 : va_W} {x : Nat × va_E} {H1 : Heap} {locs1 : List Loc} (hA : ∀ q : Nat, H0.size ≤ q → A q) (hW : q_W D A H0 (wr ++ [x]) H locs)
    (hk : ∀ q : Nat, q < H.size → ¬ va_A [x] H.size q → H1[q]? = H[q]?) (hP1 : va_P D vwCl w1 H1) (hD1 : va_D (va_A [x] H.size) w1) (hS1 : va_S A H0 H1 locs1) : q_W D A H0 (wr ++ w1) H1 locs1 := by
  have hin : ∀ (k : Nat) (q : Nat × va_E), wr[k]? = some q → (wr ++ [x])[k]? = some q := fun k q hq => by
    rw [List.getElem?_append_left (List.getElem?_eq_some_iff.mp hq).1]; exact hq
  have hx : (wr ++ [x])[wr.length]? = some x := by simp
  have apart : ∀ (k : Nat) (q : Nat × va_E), wr[k]? = some q → q.1 < H.size ∧ ¬ va_A [x] H.size q.1 := by
    intro k q hq
    have h1 := hin k q hq
    have hl := (hW.1 k q h1).lt
    refine ⟨hl, fun h => ?_⟩
    rcases h with ⟨k2, e2, h⟩ | h
    · have h3 : x = (q.1, e2) := by
        cases k2 with
        | zero => exact Option.some.inj h
        | succ k3 => simp at h
      have h4 := hW.2.1.1 k wr.length q x h1 hx (by rw [h3])
      have h5 := (List.getElem?_eq_some_iff.mp hq).1
      omega
    · omega
  have hF : ∀ q, va_A [x] H.size q → A q := by
    intro q h
    rcases h with ⟨k2, e2, h⟩ | h
    · have h3 : x = (q, e2) := by
        cases k2 with
        | zero => exact Option.some.inj h
        | succ k3 => simp at h
      have h4 := hW.2.1.2 wr.length x hx
      rw [h3] at h4
      exact h4
    · exact hA q (Nat.le_trans hW.2.2.1 h)
  refine ⟨va_P.app (fun k q hq => ?_) hP1, va_D.app ⟨fun i j y z hy hz hyz => hW.2.1.1 i j y z (hin i y hy) (hin j z hz) hyz, fun k q hq => hW.2.1.2 k q (hin k q hq)⟩ (hD1.weaken (fun k q _ h => hF q.1 h)) (fun i j y z hy hz hyz => ?_), hS1⟩
  · obtain ⟨g1, g2⟩ := apart k q hq
    exact (hW.1 k q (hin k q hq)).kept (hk q.1 g1 g2)
  · exact (apart i y hy).2 (by rw [hyz]; exact hD1.2 j z hz)
variable {y : MethodName} {bytes : ByteArray} {maxLc index mc ms : Nat} {wsc : List Cond} {rmc : Room} {b : Nat} {lv : List (Nat × Value)} {S : Type} {wf : S → va_W} {Rp : S → Prop} {wr : va_W} {ev : va_E} {host : String}
theorem q_pre {X : State → Prop} (C0 : q_C p s m meth c args own cc maxL ret ws D tys A) (hW : q_W D A s.heap (wr ++ [(b, ev)]) H locs) (hX : ∀ U : State, U.heap = H → s.WarmedH U.vm → X U) : ∀ U : State, U.heap = H → s.WarmedH U.vm → q_B D tys [(b, ev)] H.size U ∧ X U := by
  intro U hU hw
  have hx : (wr ++ [(b, ev)])[wr.length]? = some (b, ev) := by simp
  refine ⟨⟨by rw [hU], fun k q hk => ?_, va_K.moved hw.alike C0.2.2.2.2.2.2.2.1, ?_, fun _ _ _ => trivial⟩, hX U hU hw⟩
  · cases k with
    | zero => rw [hU, ← Option.some.inj hk]; exact hW.1 wr.length _ hx
    | succ k => simp at hk
  · intro i j q r hi hj _
    cases i with
    | succ i => simp at hi
    | zero =>
      cases j with
      | succ j => simp at hj
      | zero => rfl
/-- a constructor of a class of ours, of the cell that was made last -/
theorem q_ctor {X : State → Prop} (C0 : q_C p s m meth c args own cc maxL ret ws D tys A) (hW : q_W D A s.heap (wr ++ [(b, ev)]) H locs)
    (hM : Met l y wsc rmc (va_Pc [.ref b] (fun U => q_B D tys [(b, ev)] H.size U ∧ X U)) (va_Qv Rp (fun u => q_E D tys (va_A [(b, ev)] H.size) (wf u)) (va_A [(b, ev)] H.size)) mc ms (va_A [(b, ev)] H.size))
    (cw : CallB Rm s args own index y bytes maxLc none wsc rmc mc ms 0 ∧ y.name = "<init>" ∧ (Cond.instanceMethod y).before args s = true)
    (hX : ∀ U : State, U.heap = H → s.WarmedH U.vm → X U) (hXb : ∀ (a : Array Value) (U : State) (g : JFrame) (mk : MethodId), X U → X (U.calling g mk a))
    (hl : lv_has ls maxL lv) (hcat : (rest.map fun v => v.category).sum ≤ 8) (hdg : decode cc pc = .ok (.invokespecial index, 3)) (hf : cells + mc ≤ Rm.cells ∧ slots + ms ≤ Rm.slots)
    (kk : ∀ (u : S) (H1 : Heap) (locs1 : List Loc), Rp u → q_W D A s.heap (wr ++ wf u) H1 locs1 → W p l e Rm s m args below meth c H1 locs1 (cells + mc) (slots + ms) Q (F0 m (pc + 3) ls rest)) : W p l e Rm s m args below meth c H locs cells slots Q (F0 m pc ls (.ref b :: rest)) := by
  have hF : ∀ q, va_A [(b, ev)] H.size q → A q := by
    intro q h
    rcases h with ⟨k2, e2, h⟩ | h
    · have h3 : (b, ev) = (q, e2) := by
        cases k2 with
        | zero => exact Option.some.inj h
        | succ k3 => simp at h
      have h4 := hW.2.1.2 wr.length (b, ev) (by simp)
      have h5 : b = q := congrArg Prod.fst h3
      rw [← h5]; exact h4
    · exact C0.2.2.2.2.2.2.2.2 q (Nat.le_trans hW.2.2.1 h)
  refine va_callv (va_runI (As := []) (rest := rest) (q_fix C0) hM cw ⟨fun a U g mk q => ?_, fun U hU hw => ⟨rfl, q_pre C0 hW hX U hU hw⟩⟩ rfl rfl hl.1 rfl (lv_room hcat) hdg hf) hW.2.2 (fun q _ h => hF q h) hF (fun u t H1 locs1 hth hvm hw hB hz1 hk1 hS => ?_)
  · exact ⟨q.1, (q_B_blind a U g mk ⟨q.1, q.2.1⟩).2, hXb a U g mk q.2.2⟩
  · obtain ⟨hP1, hK1, hD1⟩ := hB
    rw [hth] at hP1
    exact kk u H1 locs1 hw (q_last C0.2.2.2.2.2.2.2.2 hW hk1 hP1 hD1 hS)
/-- the same of a nest mate's private constructor -/
theorem q_ctorN {X : State → Prop} (C0 : q_C p s m meth c args own cc maxL ret ws D tys A) (hW : q_W D A s.heap (wr ++ [(b, ev)]) H locs)
    (hM : Met l y wsc rmc (va_Pc [.ref b] (fun U => q_B D tys [(b, ev)] H.size U ∧ X U)) (va_Qv Rp (fun u => q_E D tys (va_A [(b, ev)] H.size) (wf u)) (va_A [(b, ev)] H.size)) mc ms (va_A [(b, ev)] H.size))
    (cw : va_CN Rm s args own index y host bytes maxLc none wsc rmc mc ms 0 ∧ y.name = "<init>" ∧ (Cond.instanceMethod y).before args s = true)
    (hX : ∀ U : State, U.heap = H → s.WarmedH U.vm → X U) (hXb : ∀ (a : Array Value) (U : State) (g : JFrame) (mk : MethodId), X U → X (U.calling g mk a))
    (hl : lv_has ls maxL lv) (hcat : (rest.map fun v => v.category).sum ≤ 8) (hdg : decode cc pc = .ok (.invokespecial index, 3)) (hf : cells + mc ≤ Rm.cells ∧ slots + ms ≤ Rm.slots)
    (kk : ∀ (u : S) (H1 : Heap) (locs1 : List Loc), Rp u → q_W D A s.heap (wr ++ wf u) H1 locs1 → W p l e Rm s m args below meth c H1 locs1 (cells + mc) (slots + ms) Q (F0 m (pc + 3) ls rest)) : W p l e Rm s m args below meth c H locs cells slots Q (F0 m pc ls (.ref b :: rest)) := by
  have hF : ∀ q, va_A [(b, ev)] H.size q → A q := by
    intro q h
    rcases h with ⟨k2, e2, h⟩ | h
    · have h3 : (b, ev) = (q, e2) := by
        cases k2 with
        | zero => exact Option.some.inj h
        | succ k3 => simp at h
      have h4 := hW.2.1.2 wr.length (b, ev) (by simp)
      have h5 : b = q := congrArg Prod.fst h3
      rw [← h5]; exact h4
    · exact C0.2.2.2.2.2.2.2.2 q (Nat.le_trans hW.2.2.1 h)
  refine va_callv (va_runIN (As := []) (rest := rest) (q_fix C0) hM cw ⟨fun a U g mk q => ?_, fun U hU hw => ⟨rfl, q_pre C0 hW hX U hU hw⟩⟩ rfl rfl hl.1 rfl (lv_room hcat) hdg hf) hW.2.2 (fun q _ h => hF q h) hF (fun u t H1 locs1 hth hvm hw hB hz1 hk1 hS => ?_)
  · exact ⟨q.1, (q_B_blind a U g mk ⟨q.1, q.2.1⟩).2, hXb a U g mk q.2.2⟩
  · obtain ⟨hP1, hK1, hD1⟩ := hB
    rw [hth] at hP1
    exact kk u H1 locs1 hw (q_last C0.2.2.2.2.2.2.2.2 hW hk1 hP1 hD1 hS)
/-- the static tables go on holding, for any part of the cells -/
theorem q_Z_sub {B : Nat → Prop} {z : Nat → Nat} (Z0 : q_Z s A z) (hS : va_S A s.heap H locs) (hBA : ∀ q, B q → A q) : ∀ U : State, U.heap = H → s.WarmedH U.vm → q_Z U B z := by
  intro U hU hw
  have mz : ∀ {n : String} {v : Value}, va_Z "BeatFollower" n "[I" v A s s.heap → va_Z "BeatFollower" n "[I" v B U U.heap := fun h => by
    rw [hU]
    exact (((h.kept (H1 := H) hS.2.1).moved hw.alike).narrow hBA)
  have mt : ∀ {t : Nat} {f : Nat → Value}, va_T .int t 8 f A s s.heap → va_T .int t 8 f B U U.heap := fun h => by
    rw [hU]
    exact (((h.kept (H1 := H) hS.2.1).moved hw.alike).narrow hBA)
  exact ⟨mz Z0.1, mt Z0.2.1, mz Z0.2.2.1, mt Z0.2.2.2.1, mz Z0.2.2.2.2.1, mt Z0.2.2.2.2.2⟩
theorem q_Z_calling {z : Nat → Nat} (a : Array Value) (U : State) (g : JFrame) (mk : MethodId) (h : q_Z U A z) : q_Z (U.calling g mk a) A z := by
  have al : U.vm.Alike (U.calling g mk a).vm := Vm.Alike.refl U.vm
  exact ⟨va_Z.moved (u := U) al h.1, va_T.moved (u := U) al h.2.1, va_Z.moved (u := U) al h.2.2.1, va_T.moved (u := U) al h.2.2.2.1, va_Z.moved (u := U) al h.2.2.2.2.1, va_T.moved (u := U) al h.2.2.2.2.2⟩
/-- the first eight numbers of a static table are laid into a row of eight -/
theorem q_cpyT {b t : Nat} {f g : Nat → Int32} {index : Nat} {q1 : Nat} {wd' : va_W} (C0 : q_C p s m meth c args own cc maxL ret ws D (tyL k9) A) (hW : q_W D A s.heap wd H locs) (hT0 : va_T .int t 8 (fun j => .int (f j)) A s s.heap) (ha1 : wd[q1]? = some (b, .inl (k9 0, 8, .inl g)))
    (hml : c.maxLocals = ls.size) (hlink : (Cond.methodLink own index arraycopyName).before args s = true) (hnat : (Cond.native arraycopyName).before args s = true) (hstat : (Cond.static arraycopyName).before args s = true) (hini : (Cond.initialized "java/lang/System").before args s = true)
    (hframes : 1 ≤ Rm.frames) (hlocals : (rest.map fun v => v.category).sum + (nativeFrameWords "java/lang/System" "arraycopy" 5 + 11) ≤ Rm.locals) (hdg : decode cc pc = .ok (.invokestatic index, 3))
    (h2 : wd.set q1 (b, .inl (k9 0, 8, .inl (va_cpy f g 0 0 8))) = wd') (kk : ∀ (H1 : Heap) (locs1 : List Loc), q_W D A s.heap wd' H1 locs1 → W p l e Rm s m args below meth c H1 locs1 cells slots Q (F0 m (pc + 3) ls rest)) : W p l e Rm s m args below meth c H locs cells slots Q (F0 m pc ls (.int 8 :: .int 0 :: .ref b :: .int 0 :: .ref t :: rest)) := by
  obtain ⟨hx, hb, -, -, hts, hown, -, hK, -⟩ := C0
  obtain ⟨hP, hD, hS⟩ := hW
  obtain ⟨src, a1, a2, a3, a4, -, a5, a6⟩ := hT0
  have i8 : (8 : Int32).toInt = 8 := by decide
  have i0 : (0 : Int32).toInt = 0 := by decide
  have n8 : (8 : Int32).toNatClampNeg = 8 := by decide
  have n0 : (0 : Int32).toNatClampNeg = 0 := by decide
  have hsrc : H[t]? = some src := by rw [hS.2.1 t (Array.getElem?_eq_some_iff.mp a1).1 a6]; exact a1
  have hdst : H[b]? = some (vp_cell (k9 0) (8, .inl g)) := hP q1 _ ha1
  obtain ⟨a7, k0, hk0, cm0, hkk0⟩ := a2
  obtain ⟨-, k1, hk1, cm1, hkk1⟩ := (hK.2 0 (k9 0, .int) rfl).1 8 (fun j => .int (g j))
  intro T hT X
  obtain ⟨vm', X', step⟩ := X.arraycopy hx hown hlink hnat hstat hini (src := t) (dst := b) (cs := src) (cd := vp_cell (k9 0) (8, .inl g)) (srcPos := 0) (destPos := 0) (n := 8) (by rw [hT]; exact hsrc) (by rw [hT]; exact hdst)
    a7 (fun _ h => by cases h) a3 (fun h => by cases h) hk0 hk1 hkk0 hkk1 (by simp [refKind]) (by decide) (by decide) (by decide)
    (by rw [i8, i0]; omega) (by rw [i8, i0]; show ¬ _ > ((arrV (k9 0) 8 (fun j => .int (g j))).slots.size : Int); rw [arrV_size]; decide)
    (fun vm₁ _ i hi => by
      have hi8 : i < 8 := by rw [n8] at hi; exact hi
      have e0 : src.slots.getD ((0 : Int32).toNatClampNeg + i) .null = .int (f i) := by
        rw [n0, Nat.zero_add, Array.getD_eq_getD_getElem?, a5 i hi8]
        rfl
      rw [e0]
      exact ⟨rfl, trivial⟩)
    (g := F0 m pc ls (.int 8 :: .int 0 :: .ref b :: .int 0 :: .ref t :: rest)) rfl (by rw [hml]) (rest := rest) rfl (by rw [hb]; exact hdg) hframes (by show 2 * 0 + _ + _ ≤ _; omega)
  have e1 : copied src (vp_cell (k9 0) (8, .inl g)) 0 0 8 = vp_cell (k9 0) (8, .inl (va_cpy f g 0 0 8)) := va_copiedX (fun z => .int z) (sp := 0) (dp := 0) (n := 8) src (k9 0) f g a5 (by decide)
  rw [e1] at X' step
  generalize hc9 : vp_cell (k9 0) (8, .inl (va_cpy f g 0 0 8)) = c9 at X' step
  have hlt : b < H.size := (Array.getElem?_eq_some_iff.mp hdst).1
  have hheap : ((T.setVm vm').setCell b c9).heap = H.setIfInBounds b c9 := by rw [← hT]; rfl
  have oq : ∀ q : Nat, q ≠ b → (H.setIfInBounds b c9)[q]? = H[q]? := fun q hq => by simp [Array.getElem?_setIfInBounds, Ne.symm hq]
  have hat : va_at D vwCl (b, .inl (k9 0, 8, .inl (va_cpy f g 0 0 8))) (H.setIfInBounds b c9) := by
    show (H.setIfInBounds b c9)[b]? = some (vp_cell (k9 0) (8, .inl (va_cpy f g 0 0 8)))
    rw [hc9]
    simp [Array.getElem?_setIfInBounds, hlt]
  have hbA : A b := hD.2 q1 _ ha1
  obtain ⟨tt, b1, b2⟩ := kk _ _ ⟨by rw [← h2]; exact hP.set hD ha1 hat oq, by rw [← h2]; exact hD.set ha1, by simp; exact hS.1, fun q g1 g2 => by rw [oq q (fun e => g2 (by rw [e]; exact hbA))]; exact hS.2.1 q g1 g2, fun q hq => by
      rcases List.mem_append.mp hq with h | h
      · exact hS.2.2 q h
      · obtain ⟨z, -, hz⟩ := List.mem_map.mp h
        rw [← hz]
        exact hbA⟩ _ hheap X'
  exact ⟨tt, step tt b1, b2⟩
def q_ad (l : List Nat) : Nat → Nat := fun j => l.getD j 0
end QCT
