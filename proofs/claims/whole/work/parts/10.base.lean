/-! own rows: states as functions, worlds as lists out of them, one row a call -/
section QBASE
abbrev T1 := Nat → Int32
abbrev T2 := Nat → T1
def u2 (σ : T2) (c : Nat) (f : T1) : T2 := fun j => if j = c then f else σ j
theorem FU_ex : ∃ n : Nat, n = 5000 := ⟨5000, rfl⟩
/-- how many turns a loop may take; its value is told by FU_eq alone, so that nothing counts it down -/
noncomputable def FU : Nat := Classical.choose FU_ex
theorem FU_eq : FU = 5000 := Classical.choose_spec FU_ex
def q_B (D : va_G) (tys : List (ClassId × FieldType)) (wd : va_W) (sz : Nat) : State → Prop := fun U => U.heap.size = sz ∧ va_P D vwCl wd U.heap ∧ va_K D vwCl tys U ∧ va_D (fun _ => True) wd
def q_E (D : va_G) (tys : List (ClassId × FieldType)) (A : Nat → Prop) (wd : va_W) : State → Prop := fun t => va_P D vwCl wd t.heap ∧ va_K D vwCl tys t ∧ va_D A wd
def q_C (p : Program) (s : State) (m : MethodId) (meth : Method) (c : Code) (args : Array Value) (own : String) (cc : ByteArray) (maxL : Nat) (ret : Option FieldType) (ws : List Cond) (D : va_G) (tys : List (ClassId × FieldType)) (A : Nat → Prop) : Prop :=
  p.tables.exec = Jvm.exec ∧ c.code = cc ∧ meth.sig.returnType = ret ∧ c.maxLocals = maxL ∧ (∀ w ∈ ws, w.before args s = true) ∧ s.vm.findClass own = some m.cls ∧ meth.locks = false ∧ va_K D vwCl tys s ∧ (∀ q : Nat, s.heap.size ≤ q → A q)
def q_W (D : va_G) (A : Nat → Prop) (H0 : Heap) (wd : va_W) (H : Heap) (locs : List Loc) : Prop := va_P D vwCl wd H ∧ va_D A wd ∧ va_S A H0 H locs
theorem u2_same (σ : T2) (j : Nat) (f g : T1) : u2 (u2 σ j f) j g = u2 σ j g := by
  funext i
  unfold u2
  split <;> rfl
/-- a part of the places of a state, from one on -/
def sb (σ : T2) (o n : Nat) (τ : T2) : T2 := fun j => if o ≤ j ∧ j < o + n then τ (j - o) else σ j
def sel {α : Type} (f : Nat → α) (o1 n1 o2 : Nat) : Nat → α := fun j => if j < n1 then f (o1 + j) else f (o2 + (j - n1))
def sb2 (σ : T2) (o1 n1 o2 n2 : Nat) (τ : T2) : T2 := fun j => if o1 ≤ j ∧ j < o1 + n1 then τ (j - o1) else if o2 ≤ j ∧ j < o2 + n2 then τ (n1 + (j - o2)) else σ j
def tyL (k : Nat → ClassId) : List (ClassId × FieldType) := [(k 0, .int), (k 1, .boolean), (k 2, .char), (k 3, .object "BeatFollower$Scene")]
theorem q_nb {x : Int32} (h : x = 0 ∨ x = 1) : narrow .boolean (.int x) = .int x := by rcases h with rfl | rfl <;> decide
theorem q_fb {x : Int32} (h : x = 0 ∨ x = 1) : fits .boolean (.int x) = true := by rcases h with rfl | rfl <;> decide
def q_C1 (p : Program) (s : State) (m : MethodId) (meth : Method) (c : Code) (args : Array Value) (own : String) (cc : ByteArray) (maxL : Nat) (ret : Option FieldType) (ws : List Cond) : Prop :=
  p.tables.exec = Jvm.exec ∧ c.code = cc ∧ meth.sig.returnType = ret ∧ c.maxLocals = maxL ∧ (∀ w ∈ ws, w.before args s = true) ∧ s.vm.findClass own = some m.cls ∧ meth.locks = false
set_option maxHeartbeats 4000000 in
theorem q_mets {l : Launch} {y : MethodName} {ws ws' : List Cond} {rm : Room} {Qc : Array Value → State → Outcome → State → Prop} {mc ms : Nat} {free : Addr → Prop} {cc : ByteArray} {maxL : Nat} {ret : Option FieldType} (av : List Value)
    (hy : plainName y.cls = true) (hw : ws = Cond.code y cc maxL ret :: ws') (hlen : (lg_sl av).length ≤ maxL)
    (body : ∀ (p : Program) (e : Env) (s : State) (m : MethodId) (args : Array Value) (below : List Frame) (meth : Method) (c : Code) (ls : Array Slot), q_C1 p s m meth c args y.cls cc maxL ret ws → lv_has ls maxL (lv_args 0 av) →
      W p l e rm s m args below meth c s.heap [] 0 0 (MQ below Qc args s mc ms free) (F0 m 0 ls [])) :
    Met l y ws rm (va_Pc av (fun _ => True)) Qc mc ms free := by
  refine Met.ofW (cc := cc) (maxL := maxL) (ret := ret) hy hw ?_
  intro p e s m args below meth c s₁ B hml hv
  obtain ⟨rfl, -⟩ := hv
  have hts := atoms_spec (ws := ws) B.pre
  have hown : s.vm.findClass y.cls = some m.cls := findClass_of_methodNamed B.named
  have hl := lv_entry av (n := maxL) hlen
  rw [lg_entry_eq]
  exact body p e s m _ below meth c _ ⟨B.exec, B.bytes, B.returns, hml, hts, hown, B.notSynchronized⟩ hl
theorem q_out {x : Int32} (n : Nat) (hn : n < 2 ^ 31) (h : ∀ j : Nat, j ≤ n → ¬ x = nI j) : x.toInt < 0 ∨ (n : Int) < x.toInt := by
  by_cases h0 : x < 0
  · exact Or.inl (by simpa [Int32.lt_iff_toInt_lt] using h0)
  · obtain ⟨j, hj, e⟩ := nI_of h0
    refine Or.inr ?_
    rw [e, nI_toInt hj]
    have hlt : ¬ j ≤ n := fun hle => h j hle e
    omega
theorem q_lit {x y : Int32} {z : Int} (hz : y.toInt = z) (h : ¬ x = y) : ¬ x.toInt = z := fun e => h (Int32.toInt_inj.mp (e.trans hz.symm))
theorem q_B_blind {av : List Value} {D : va_G} {tys : List (ClassId × FieldType)} {wd : va_W} {sz : Nat} : FrameBlind (va_Pc av (q_B D tys wd sz)) := fun a U g mk q => by
  obtain ⟨q0, q1, qP, qK, qD⟩ := q
  exact ⟨q0, q1, qP, va_K.moved (u := U) (U := U.calling g mk a) (Vm.Alike.refl U.vm) qK, qD⟩
set_option maxHeartbeats 4000000 in
theorem q_met {l : Launch} {y : MethodName} {ws ws' : List Cond} {rm : Room} {Qc : Array Value → State → Outcome → State → Prop} {mc ms : Nat} {free : Addr → Prop} {cc : ByteArray} {maxL : Nat} {ret : Option FieldType} {D : va_G} {tys : List (ClassId × FieldType)} (av : List Value) (wd : va_W) (sz : Nat)
    (hy : plainName y.cls = true) (hw : ws = Cond.code y cc maxL ret :: ws') (hlen : (lg_sl av).length ≤ maxL)
    (body : ∀ (p : Program) (e : Env) (s : State) (m : MethodId) (args : Array Value) (below : List Frame) (meth : Method) (c : Code) (ls : Array Slot), s.heap.size = sz → q_C p s m meth c args y.cls cc maxL ret ws D tys (va_A wd sz) → q_W D (va_A wd sz) s.heap wd s.heap [] → lv_has ls maxL (lv_args 0 av) → meth.name = y.name →
      W p l e rm s m args below meth c s.heap [] 0 0 (MQ below Qc args s mc ms free) (F0 m 0 ls [])) :
    Met l y ws rm (va_Pc av (q_B D tys wd sz)) Qc mc ms free := by
  refine Met.ofW (cc := cc) (maxL := maxL) (ret := ret) hy hw ?_
  intro p e s m args below meth c s₁ B hml hv
  obtain ⟨rfl, hsz, hP, hK, hD0⟩ := hv
  have hts := atoms_spec (ws := ws) B.pre
  have hown : s.vm.findClass y.cls = some m.cls := findClass_of_methodNamed B.named
  have hin : meth.name = y.name := (name_of_methodNamed B.named B.method).1
  subst hsz
  have hD := hD0.self (sz := s.heap.size)
  have hl := lv_entry av (n := maxL) hlen
  rw [lg_entry_eq]
  exact body p e s m _ below meth c _ rfl ⟨B.exec, B.bytes, B.returns, hml, hts, hown, B.notSynchronized, hK, fun q h => Or.inr h⟩ ⟨hP, hD, va_S.rf⟩ hl hin
section QV
variable {p : Program} {l : Launch} {e : Env} {Rm : Room} {s : State} {m : MethodId} {args : Array Value} {below : List Frame} {meth : Method} {c : Code} {H H0 : Heap} {locs : List Loc} {cells slots : Nat} {Q : State → Prop}
variable {pc : Nat} {ls : Array Slot} {rest st0 : List Value} {A : Nat → Prop} {own : String} {cc : ByteArray} {maxL : Nat} {ret : Option FieldType} {ws : List Cond} {D : va_G} {tys : List (ClassId × FieldType)} {wd : va_W} {k9 : Nat → ClassId}
-- ends
theorem q_iret {S : Type} {wf : S → va_W} {R : Int32 × S} {u : S} {v : Int32} (C0 : q_C p s m meth c args own cc maxL (some .int) ws D tys A) (hW : q_W D A s.heap (wf u) H locs) (hR : (v, u) = R) (hdg : decode cc pc = .ok (.ireturn, 1)) :
    W p l e Rm s m args below meth c H locs cells slots (MQ below (va_Qi (fun r u => (r, u) = R) (fun u => q_E D tys A (wf u)) A) args s cells slots A) (F0 m pc ls [.int v]) := by
  obtain ⟨hx, hb, hr, hml, hts, hown, hlocks, hK, hA⟩ := C0
  obtain ⟨hP, hD, hS⟩ := hW
  exact W.iret (v := v) hx hb hr (fun t ht hw => ⟨⟨v, u, rfl, hR, by rw [ht]; exact hP, va_K.moved hw.alike hK, hD⟩, hS.F ht⟩) hS.2.2 hdg hlocks
theorem q_zret {S : Type} {wf : S → va_W} {R : Int32 × S} {u : S} {v : Int32} (C0 : q_C p s m meth c args own cc maxL (some .boolean) ws D tys A) (hn : narrow .boolean (.int v) = .int v) (hW : q_W D A s.heap (wf u) H locs) (hR : (v, u) = R) (hdg : decode cc pc = .ok (.ireturn, 1)) :
    W p l e Rm s m args below meth c H locs cells slots (MQ below (va_Qi (fun r u => (r, u) = R) (fun u => q_E D tys A (wf u)) A) args s cells slots A) (F0 m pc ls [.int v]) := by
  obtain ⟨hx, hb, hr, hml, hts, hown, hlocks, hK, hA⟩ := C0
  obtain ⟨hP, hD, hS⟩ := hW
  exact W.zret (v := v) hx hb hr hn (fun t ht hw => ⟨⟨v, u, rfl, hR, by rw [ht]; exact hP, va_K.moved hw.alike hK, hD⟩, hS.F ht⟩) hS.2.2 hdg hlocks
theorem q_vret {S : Type} {wf : S → va_W} {R : S} {u : S} (C0 : q_C p s m meth c args own cc maxL none ws D tys A) (hW : q_W D A s.heap (wf u) H locs) (hR : u = R) (hdg : decode cc pc = .ok (.return_, 1)) :
    W p l e Rm s m args below meth c H locs cells slots (MQ below (va_Qv (fun u => u = R) (fun u => q_E D tys A (wf u)) A) args s cells slots A) (F0 m pc ls []) := by
  obtain ⟨hx, hb, hr, hml, hts, hown, hlocks, hK, hA⟩ := C0
  obtain ⟨hP, hD, hS⟩ := hW
  exact W.vret hx hb hr (fun t ht hw => ⟨⟨u, rfl, hR, by rw [ht]; exact hP, va_K.moved hw.alike hK, hD⟩, hS.F ht⟩) hS.2.2 hdg hlocks
theorem q_iretr {R v : Int32} (C0 : q_C p s m meth c args own cc maxL (some .int) ws D tys A) (hR : v = R) (hdg : decode cc pc = .ok (.ireturn, 1)) :
    W p l e Rm s m args below meth c s.heap [] cells slots (MQ below (vp_Si (fun r => r = R)) args s cells slots (fun _ => False)) (F0 m pc ls [.int v]) := by
  obtain ⟨hx, hb, hr, hml, hts, hown, hlocks, hK, hA⟩ := C0
  exact W.iret (v := v) hx hb hr (fun t ht hw => ⟨v, rfl, hR, ht⟩) (fun q h => by cases h) hdg hlocks
theorem q_zretr {R v : Int32} (C0 : q_C p s m meth c args own cc maxL (some .boolean) ws D tys A) (hn : narrow .boolean (.int v) = .int v) (hR : v = R) (hdg : decode cc pc = .ok (.ireturn, 1)) :
    W p l e Rm s m args below meth c s.heap [] cells slots (MQ below (vp_Si (fun r => r = R)) args s cells slots (fun _ => False)) (F0 m pc ls [.int v]) := by
  obtain ⟨hx, hb, hr, hml, hts, hown, hlocks, hK, hA⟩ := C0
  exact W.zret (v := v) hx hb hr hn (fun t ht hw => ⟨v, rfl, hR, ht⟩) (fun q h => by cases h) hdg hlocks
theorem q_iretrs {R v : Int32} (C0 : q_C1 p s m meth c args own cc maxL (some .int) ws) (hR : v = R) (hdg : decode cc pc = .ok (.ireturn, 1)) :
    W p l e Rm s m args below meth c s.heap [] cells slots (MQ below (vp_Si (fun r => r = R)) args s cells slots (fun _ => False)) (F0 m pc ls [.int v]) := by
  obtain ⟨hx, hb, hr, hml, hts, hown, hlocks⟩ := C0
  exact W.iret (v := v) hx hb hr (fun t ht hw => ⟨v, rfl, hR, ht⟩) (fun q h => by cases h) hdg hlocks
theorem q_zretrs {R v : Int32} (C0 : q_C1 p s m meth c args own cc maxL (some .boolean) ws) (hn : narrow .boolean (.int v) = .int v) (hR : v = R) (hdg : decode cc pc = .ok (.ireturn, 1)) :
    W p l e Rm s m args below meth c s.heap [] cells slots (MQ below (vp_Si (fun r => r = R)) args s cells slots (fun _ => False)) (F0 m pc ls [.int v]) := by
  obtain ⟨hx, hb, hr, hml, hts, hown, hlocks⟩ := C0
  exact W.zret (v := v) hx hb hr hn (fun t ht hw => ⟨v, rfl, hR, ht⟩) (fun q h => by cases h) hdg hlocks
-- fields and rows
theorem q_putf {b : Nat} {C : String} {T : u_T} {N ci index : Nat} {wd' : va_W} (C0 : q_C p s m meth c args own cc maxL ret ws D tys A) (hW : q_W D A s.heap wd H locs) (hin : ∀ w ∈ u_ws C T N, w ∈ ws) (ty0 : Nat → FieldType) (hty : ∀ k, k < N → parseFieldDescriptor (T k).2.2.1 = some (ty0 k)) (hnm : ∀ a, a < N → ∀ b, b < N → a ≠ b → (T a).2.1 ≠ (T b).2.1) (q0 : Nat) {fs fs' : List Value} (he : wd[q0]? = some (b, .inr (ci, fs))) (hc : vwCl[ci]? = some (C, T, N)) (k : Nat) (hk : k < N) (hlink : (Cond.fieldLink own index (T k).1 (T k).2.1 (T k).2.2.1).before args s = true) (hfin : (T k).2.2.2 = false) {ty : FieldType} {v : Value} (hd : parseFieldDescriptor (T k).2.2.1 = some ty) (hn : narrow ty v = v) (hfit : fits ty v = true) (hl : k < fs.length)
    (hdg : decode cc pc = .ok (.putfield index, 3)) (h1 : fs.set k v = fs') (h2 : wd.set q0 (b, .inr (ci, fs')) = wd') (kk : ∀ (H1 : Heap) (locs1 : List Loc), q_W D A s.heap wd' H1 locs1 → W p l e Rm s m args below meth c H1 locs1 cells slots Q (F0 m (pc + 3) ls rest)) : W p l e Rm s m args below meth c H locs cells slots Q (F0 m pc ls (v :: .ref b :: rest)) := by
  obtain ⟨hx, hb, hr, hml, hts, hown, hlocks, hK, hA⟩ := C0
  refine va_put (D := D) (ci := ci) (v := v) (ty := ty) (C := C) (T := T) (N := N) hx hb hts hin ty0 hty hnm hown hK hW.1 hW.2.1 hW.2.2 q0 he hc k hk hlink (fun _ h9 => h9) hfin hd hn hfit hl hdg (fun H1 locs1 hP hD hS => kk H1 locs1 ⟨?_, ?_, hS⟩)
  · rw [← h2, ← h1]; exact hP
  · rw [← h2, ← h1]; exact hD
variable {b9 kn t0 : Nat} {n9 : Nat} {cA : ClassId} {f : Nat → Int32} {i v x : Int32}
theorem q_iald {b : Nat} (C0 : q_C p s m meth c args own cc maxL ret ws D (tyL k9) A) (hW : q_W D A s.heap wd H locs) (q0 : Nat) (ha : wd[q0]? = some (b, .inl (cA, n9, .inl f))) (ht : (tyL k9)[0]? = some (cA, .int)) (hin : vp_in i n9) (hi : i.toNatClampNeg = kn) (hv : f kn = v) (hdg : decode cc pc = .ok (.iaload, 1))
    (kk : W p l e Rm s m args below meth c H locs cells slots Q (F0 m (pc + 1) ls (.int v :: rest))) : W p l e Rm s m args below meth c H locs cells slots Q (F0 m pc ls (.int i :: .ref b :: rest)) := by
  refine va_iald C0.1 C0.2.1 C0.2.2.2.2.2.2.2.1 hW.1 q0 0 ha ht hin hdg ?_
  rw [hi, hv]; exact kk
theorem q_zald {b : Nat} (C0 : q_C p s m meth c args own cc maxL ret ws D (tyL k9) A) (hW : q_W D A s.heap wd H locs) (q0 : Nat) (ha : wd[q0]? = some (b, .inl (cA, n9, .inl f))) (ht : (tyL k9)[1]? = some (cA, .boolean)) (hin : vp_in i n9) (hi : i.toNatClampNeg = kn) (hv : f kn = v) (hdg : decode cc pc = .ok (.baload, 1))
    (kk : W p l e Rm s m args below meth c H locs cells slots Q (F0 m (pc + 1) ls (.int v :: rest))) : W p l e Rm s m args below meth c H locs cells slots Q (F0 m pc ls (.int i :: .ref b :: rest)) := by
  refine va_zald C0.1 C0.2.1 C0.2.2.2.2.2.2.2.1 hW.1 q0 1 ha ht hin hdg ?_
  rw [hi, hv]; exact kk
theorem q_cald {b : Nat} (C0 : q_C p s m meth c args own cc maxL ret ws D (tyL k9) A) (hW : q_W D A s.heap wd H locs) (q0 : Nat) (ha : wd[q0]? = some (b, .inl (cA, n9, .inl f))) (ht : (tyL k9)[2]? = some (cA, .char)) (hin : vp_in i n9) (hi : i.toNatClampNeg = kn) (hv : f kn = v) (hdg : decode cc pc = .ok (.caload, 1))
    (kk : W p l e Rm s m args below meth c H locs cells slots Q (F0 m (pc + 1) ls (.int v :: rest))) : W p l e Rm s m args below meth c H locs cells slots Q (F0 m pc ls (.int i :: .ref b :: rest)) := by
  refine va_cald C0.1 C0.2.1 C0.2.2.2.2.2.2.2.1 hW.1 q0 2 ha ht hin hdg ?_
  rw [hi, hv]; exact kk
theorem q_iast {b : Nat} {wd' : va_W} (C0 : q_C p s m meth c args own cc maxL ret ws D (tyL k9) A) (hW : q_W D A s.heap wd H locs) (q0 : Nat) (ha : wd[q0]? = some (b, .inl (cA, n9, .inl f))) (ht : (tyL k9)[0]? = some (cA, .int)) (hin : vp_in i n9) (hi : i.toNatClampNeg = kn) (hdg : decode cc pc = .ok (.iastore, 1))
    (h2 : wd.set q0 (b, .inl (cA, n9, .inl (upd f kn x))) = wd') (kk : ∀ (H1 : Heap) (locs1 : List Loc), q_W D A s.heap wd' H1 locs1 → W p l e Rm s m args below meth c H1 locs1 cells slots Q (F0 m (pc + 1) ls rest)) : W p l e Rm s m args below meth c H locs cells slots Q (F0 m pc ls (.int x :: .int i :: .ref b :: rest)) := by
  refine va_iast C0.1 C0.2.1 C0.2.2.2.2.2.2.2.1 hW.1 hW.2.1 hW.2.2 q0 0 ha ht hin hdg (fun H1 locs1 hP hD hS => kk H1 locs1 ⟨?_, ?_, hS⟩)
  · rw [← h2, ← hi]; exact hP
  · rw [← h2, ← hi]; exact hD
theorem q_zast {b : Nat} {wd' : va_W} (C0 : q_C p s m meth c args own cc maxL ret ws D (tyL k9) A) (hW : q_W D A s.heap wd H locs) (q0 : Nat) (ha : wd[q0]? = some (b, .inl (cA, n9, .inl f))) (ht : (tyL k9)[1]? = some (cA, .boolean)) (hin : vp_in i n9) (hi : i.toNatClampNeg = kn) (hdg : decode cc pc = .ok (.bastore, 1))
    (h2 : wd.set q0 (b, .inl (cA, n9, .inl (upd f kn (vp_nar .boolean x)))) = wd') (kk : ∀ (H1 : Heap) (locs1 : List Loc), q_W D A s.heap wd' H1 locs1 → W p l e Rm s m args below meth c H1 locs1 cells slots Q (F0 m (pc + 1) ls rest)) : W p l e Rm s m args below meth c H locs cells slots Q (F0 m pc ls (.int x :: .int i :: .ref b :: rest)) := by
  refine va_zast C0.1 C0.2.1 C0.2.2.2.2.2.2.2.1 hW.1 hW.2.1 hW.2.2 q0 1 ha ht hin hdg (fun H1 locs1 hP hD hS => kk H1 locs1 ⟨?_, ?_, hS⟩)
  · rw [← h2, ← hi]; exact hP
  · rw [← h2, ← hi]; exact hD
theorem q_cast {b : Nat} {wd' : va_W} (C0 : q_C p s m meth c args own cc maxL ret ws D (tyL k9) A) (hW : q_W D A s.heap wd H locs) (q0 : Nat) (ha : wd[q0]? = some (b, .inl (cA, n9, .inl f))) (ht : (tyL k9)[2]? = some (cA, .char)) (hin : vp_in i n9) (hi : i.toNatClampNeg = kn) (hdg : decode cc pc = .ok (.castore, 1))
    (h2 : wd.set q0 (b, .inl (cA, n9, .inl (upd f kn (vp_nar .char x)))) = wd') (kk : ∀ (H1 : Heap) (locs1 : List Loc), q_W D A s.heap wd' H1 locs1 → W p l e Rm s m args below meth c H1 locs1 cells slots Q (F0 m (pc + 1) ls rest)) : W p l e Rm s m args below meth c H locs cells slots Q (F0 m pc ls (.int x :: .int i :: .ref b :: rest)) := by
  refine va_cast C0.1 C0.2.1 C0.2.2.2.2.2.2.2.1 hW.1 hW.2.1 hW.2.2 q0 2 ha ht hin hdg (fun H1 locs1 hP hD hS => kk H1 locs1 ⟨?_, ?_, hS⟩)
  · rw [← h2, ← hi]; exact hP
  · rw [← h2, ← hi]; exact hD
theorem q_cpy {b b0 : Nat} {wd' : va_W} {g : Nat → Int32} {n1 index : Nat} {n : Int32} (C0 : q_C p s m meth c args own cc maxL ret ws D (tyL k9) A) (hW : q_W D A s.heap wd H locs) (q0 q1 : Nat) (ha0 : wd[q0]? = some (b0, .inl (cA, n9, .inl f))) (ha1 : wd[q1]? = some (b, .inl (cA, n1, .inl g))) (ht : (tyL k9)[0]? = some (cA, .int))
    (hml : c.maxLocals = ls.size) (hlink : (Cond.methodLink own index arraycopyName).before args s = true) (hnat : (Cond.native arraycopyName).before args s = true) (hstat : (Cond.static arraycopyName).before args s = true) (hini : (Cond.initialized "java/lang/System").before args s = true)
    (hn0 : ¬ n < 0) (hn : n.toNatClampNeg = kn) (h4 : kn ≤ n9) (h5 : kn ≤ n1) (hframes : 1 ≤ Rm.frames) (hlocals : (rest.map fun v => v.category).sum + (nativeFrameWords "java/lang/System" "arraycopy" 5 + 11) ≤ Rm.locals) (hdg : decode cc pc = .ok (.invokestatic index, 3))
    (h2 : wd.set q1 (b, .inl (cA, n1, .inl (va_cpy f g 0 0 kn))) = wd') (kk : ∀ (H1 : Heap) (locs1 : List Loc), q_W D A s.heap wd' H1 locs1 → W p l e Rm s m args below meth c H1 locs1 cells slots Q (F0 m (pc + 3) ls rest)) : W p l e Rm s m args below meth c H locs cells slots Q (F0 m pc ls (.int n :: .int 0 :: .ref b :: .int 0 :: .ref b0 :: rest)) := by
  have z0 : (0 : Int32).toNatClampNeg = 0 := by decide
  refine va_copyi C0.1 C0.2.1 hml C0.2.2.2.2.2.1 hlink hnat hstat hini C0.2.2.2.2.2.2.2.1 hW.1 hW.2.1 hW.2.2 q0 q1 0 0 ha0 ha1 ht ht rfl (by decide) (by decide) hn0 (by rw [z0, hn]; omega) (by rw [z0, hn]; omega) (fun _ _ => rfl) hframes hlocals hdg (fun H1 locs1 hP hD hS => kk H1 locs1 ⟨?_, ?_, hS⟩)
  · rw [z0, hn, h2] at hP; exact hP
  · rw [z0, hn, h2] at hD; exact hD
theorem q_aald {b : Nat} {fo : Nat → Option Nat} {r : Nat} (C0 : q_C p s m meth c args own cc maxL ret ws D (tyL k9) A) (hW : q_W D A s.heap wd H locs) (q0 : Nat) (ha : wd[q0]? = some (b, .inl (cA, n9, .inr (.inr (.inr (.inr fo)))))) (ht : (tyL k9)[3]? = some (cA, .object "BeatFollower$Scene")) (hin : vp_in i n9) (hi : i.toNatClampNeg = kn) (hv : fo kn = some r) (hdg : decode cc pc = .ok (.aaload, 1))
    (kk : W p l e Rm s m args below meth c H locs cells slots Q (F0 m (pc + 1) ls (.ref r :: rest))) : W p l e Rm s m args below meth c H locs cells slots Q (F0 m pc ls (.int i :: .ref b :: rest)) := by
  refine va_aldq C0.1 C0.2.1 C0.2.2.2.2.2.2.2.1 hW.1 q0 3 ha ht hin hdg ?_
  rw [hi, hv]; exact kk
-- calls: the callee's world is a part of the caller's, by places
variable {y : MethodName} {bytes : ByteArray} {maxLc n index : Nat} {retc : Option FieldType} {wsc : List Cond} {rmc : Room} {C : String} {b : Addr} {As : List Value} {wc : va_W} {lv : List (Nat × Value)} {tysc : List (ClassId × FieldType)}
theorem q_sub {is : List Nat} (C0 : q_C p s m meth c args own cc maxL ret ws D tys A) (hW : q_W D A s.heap wd H locs) (hn : va_nd is = true) (hs : is.map (fun i => wd[i]?) = wc.map some) (it : List Nat) (ht : it.filterMap (fun i => tys[i]?) = tysc) : ∀ U : State, U.heap = H → s.WarmedH U.vm → q_B D tysc wc H.size U := by
  intro U hU hw
  refine ⟨by rw [hU], ?_, va_K.moved hw.alike (C0.2.2.2.2.2.2.2.1.sub it ht), (hW.2.1.sub is hn hs).weaken (fun _ _ _ _ => trivial)⟩
  rw [hU]
  intro k q hk
  have h1 : (is.map (fun i => wd[i]?))[k]? = some (some q) := by rw [hs, List.getElem?_map, hk]; rfl
  rw [List.getElem?_map] at h1
  cases hi : is[k]? with
  | none => rw [hi] at h1; cases h1
  | some i => rw [hi] at h1; exact hW.1 i q (Option.some.inj h1)
theorem q_fix (C0 : q_C p s m meth c args own cc maxL ret ws D tys A) : CallFix p m c cc maxL s args ws own := ⟨C0.1, C0.2.1, C0.2.2.2.1, C0.2.2.2.2.2.1, C0.2.2.2.2.1⟩
/-- a virtual call of a method that only reads -/
theorem q_Vi {R : Int32} (is it : List Nat) (q0 ci : Nat) {qc : vw_C} {fs : List Value} (C0 : q_C p s m meth c args own cc maxL ret ws D tys A) (hW : q_W D A s.heap wd H locs)
    (hM : Met l y wsc rmc (va_Pc (.ref b :: As) (q_B D tysc wc H.size)) (vp_Si (fun r => r = R)) 0 0 (fun _ => False))
    (cw : CallW Rm s args own qc.1 index y bytes maxLc retc wsc rmc 0 0 n)
    (hn : va_nd is = true) (hs : is.map (fun i => wd[i]?) = wc.map some) (ht : it.filterMap (fun i => tys[i]?) = tysc) (hrec : wd[q0]? = some (b, .inr (ci, fs))) (hc : vwCl[ci]? = some qc)
    (hl : lv_has ls maxL lv) (hlen : As.length = n) (hst : st0 = As.reverse ++ .ref b :: rest) (hcat : (rest.map fun v => v.category).sum ≤ 8) (hdg : decode cc pc = .ok (.invokevirtual index, 3)) (hf : cells + 0 ≤ Rm.cells ∧ slots + 0 ≤ Rm.slots)
    (kk : W p l e Rm s m args below meth c H locs cells slots Q (F0 m (pc + 3) ls (.int R :: rest))) : W p l e Rm s m args below meth c H locs cells slots Q (F0 m pc ls st0) := by
  refine vp_callSi (W.runV (As := As) (rest := rest) (q_fix C0) hM cw ⟨q_B_blind, va_recv C0.2.2.2.2.2.2.2.1 hW.1 hc hrec, fun U hU hw => ⟨rfl, q_sub C0 hW hn hs it ht U hU hw⟩⟩ rfl hlen hl.1 hst (lv_room hcat) hdg hf) (fun r hr => ?_)
  subst hr
  exact kk
/-- a static call of a method that reads nothing -/
theorem q_Si {R : Int32} (C0 : CallFix p m c cc maxL s args ws own)
    (hM : Met l y wsc rmc (va_Pc As (fun _ => True)) (vp_Si (fun r => r = R)) 0 0 (fun _ => False))
    (cw : CallB Rm s args own index y bytes maxLc retc wsc rmc 0 0 n ∧ (Cond.static y).before args s = true)
    (hl : lv_has ls maxL lv) (hlen : As.length = n) (hst : st0 = As.reverse ++ rest) (hcat : (rest.map fun v => v.category).sum ≤ 8) (hdg : decode cc pc = .ok (.invokestatic index, 3)) (hf : cells + 0 ≤ Rm.cells ∧ slots + 0 ≤ Rm.slots)
    (kk : W p l e Rm s m args below meth c H locs cells slots Q (F0 m (pc + 3) ls (.int R :: rest))) : W p l e Rm s m args below meth c H locs cells slots Q (F0 m pc ls st0) := by
  refine vp_callSi (W.runS (As := As) (rest := rest) C0 hM cw ⟨fun a U g mk q => ⟨q.1, trivial⟩, fun U hU hw => ⟨rfl, trivial⟩⟩ rfl hlen hl.1 hst (lv_room hcat) hdg hf) (fun r hr => ?_)
  subst hr
  exact kk
/-- the cells of a part are put back at their places -/
def q_put : va_W → List Nat → va_W → va_W
  | wd, i :: is, q :: w => q_put (wd.set i q) is w
  | wd, _, _ => wd
theorem q_put_in : ∀ (is : List Nat) (w1 wd : va_W) (k : Nat) (q : Nat × va_E), (q_put wd is w1)[k]? = some q → q ∈ w1 ∨ (wd[k]? = some q ∧ (k ∉ is ∨ is.length ≠ w1.length))
  | [], w1, wd, k, q, h => Or.inr ⟨by simpa [q_put] using h, Or.inl List.not_mem_nil⟩
  | i :: is, [], wd, k, q, h => Or.inr ⟨by simpa [q_put] using h, Or.inr (by simp)⟩
  | i :: is, x :: w, wd, k, q, h => by
    rcases q_put_in is w (wd.set i x) k q h with h1 | ⟨h1, h2⟩
    · exact Or.inl (List.mem_cons_of_mem _ h1)
    · by_cases hk : i = k
      · subst hk
        by_cases hlt : i < wd.length
        · rw [List.getElem?_set_self hlt] at h1
          exact Or.inl (by rw [← Option.some.inj h1]; exact List.mem_cons_self)
        · rw [List.getElem?_eq_none (by rw [List.length_set]; omega)] at h1
          cases h1
      · rw [List.getElem?_set_ne hk] at h1
        refine Or.inr ⟨h1, ?_⟩
        rcases h2 with h2 | h2
        · exact Or.inl (fun hm => (List.mem_cons.mp hm).elim (fun e => hk e.symm) h2)
        · exact Or.inr (by simpa using h2)
theorem q_put_fst : ∀ (is : List Nat) (w1 wd : va_W), is.map (fun i => (wd[i]?).map Prod.fst) = w1.map (fun q => some q.1) → (q_put wd is w1).map Prod.fst = wd.map Prod.fst
  | [], w1, wd, h => by simp [q_put]
  | i :: is, [], wd, h => by simp [q_put]
  | i :: is, x :: w, wd, h => by
    have hx : (wd.set i x).map Prod.fst = wd.map Prod.fst := by
      have h1 : (wd[i]?).map Prod.fst = some x.1 := by simpa using (List.cons.inj h).1
      rw [List.map_set]
      refine List.ext_getElem? (fun k => ?_)
      by_cases hk : i = k
      · subst hk
        cases hw : wd[i]? with
        | none => rw [hw] at h1; cases h1
        | some q =>
          rw [hw] at h1
          have hlt : i < (wd.map Prod.fst).length := by rw [List.length_map]; exact (List.getElem?_eq_some_iff.mp hw).1
          rw [List.getElem?_set_self hlt, List.getElem?_map, hw]
          exact h1.symm
      · rw [List.getElem?_set_ne hk]
    have hg : ∀ j : Nat, ((wd.set i x)[j]?).map Prod.fst = (wd[j]?).map Prod.fst := fun j => by
      rw [← List.getElem?_map, ← List.getElem?_map, hx]
    show (q_put (wd.set i x) is w).map Prod.fst = _
    rw [q_put_fst is w (wd.set i x) (by rw [← (List.cons.inj h).2]; exact List.map_congr_left (fun j _ => hg j)), hx]
theorem q_D_fst {B : Nat → Prop} {w1 w2 : va_W} (h : w2.map Prod.fst = w1.map Prod.fst) (hD : va_D B w1) : va_D B w2 := by
  have g : ∀ (k : Nat) (q : Nat × va_E), w2[k]? = some q → ∃ q', w1[k]? = some q' ∧ q'.1 = q.1 := fun k q hk => by
    have h1 : (w2.map Prod.fst)[k]? = some q.1 := by rw [List.getElem?_map, hk]; rfl
    rw [h, List.getElem?_map] at h1
    cases hw : w1[k]? with
    | none => rw [hw] at h1; cases h1
    | some q' => rw [hw] at h1; exact ⟨q', rfl, Option.some.inj h1⟩
  refine ⟨fun i j x z hx hz hxz => ?_, fun k q hk => ?_⟩
  · obtain ⟨x', hx1, hx2⟩ := g i x hx
    obtain ⟨z', hz1, hz2⟩ := g j z hz
    exact hD.1 i j x' z' hx1 hz1 (by rw [hx2, hz2, hxz])
  · obtain ⟨q', h1, h2⟩ := g k q hk
    rw [← h2]
    exact hD.2 k q' h1
theorem q_back {is : List Nat} {w1 wd' : va_W} {H1 : Heap} {locs1 : List Loc} (hW : q_W D A H0 wd H locs) (hs : is.map (fun i => wd[i]?) = wc.map some) (hf : w1.map Prod.fst = wc.map Prod.fst) (hp : q_put wd is w1 = wd')
    (hk : ∀ q : Nat, q < H.size → ¬ va_A wc H.size q → H1[q]? = H[q]?) (hP1 : va_P D vwCl w1 H1) (hS1 : va_S A H0 H1 locs1) : q_W D A H0 wd' H1 locs1 := by
  have hlen : is.length = w1.length := by
    have h1 := congrArg List.length hs
    have h2 := congrArg List.length hf
    simp only [List.length_map] at h1 h2
    omega
  refine ⟨fun k q hq => ?_, ?_, hS1⟩
  · rw [← hp] at hq
    rcases q_put_in is w1 wd k q hq with h | ⟨h, h2⟩
    · obtain ⟨i, hi⟩ := List.getElem?_of_mem h
      exact hP1 i q hi
    · have hni : k ∉ is := h2.elim id (fun h3 => absurd hlen h3)
      have hlt := (hW.1 k q h).lt
      refine (hW.1 k q h).kept (hk q.1 hlt (fun hA => ?_))
      rcases hA with ⟨k2, e2, h3⟩ | h3
      · have h4 : (is.map (fun i => wd[i]?))[k2]? = some (some (q.1, e2)) := by rw [hs, List.getElem?_map, h3]; rfl
        rw [List.getElem?_map] at h4
        cases hi : is[k2]? with
        | none => rw [hi] at h4; cases h4
        | some i =>
          rw [hi] at h4
          have h5 := hW.2.1.1 i k (q.1, e2) q (Option.some.inj h4) h rfl
          exact hni (h5 ▸ List.mem_of_getElem? hi)
      · omega
  · rw [← hp]
    refine q_D_fst (q_put_fst is w1 wd ?_) hW.2.1
    have h1 : is.map (fun i => (wd[i]?).map Prod.fst) = (is.map (fun i => wd[i]?)).map (fun o => o.map Prod.fst) := by rw [List.map_map]; rfl
    rw [h1, hs, List.map_map]
    have h2 : w1.map (fun q => some q.1) = (w1.map Prod.fst).map some := by rw [List.map_map]; rfl
    rw [h2, hf, List.map_map]
    rfl
/-- a virtual call of a method that answers an int, and writes -/
theorem q_Viw {S : Type} {wf : S → va_W} {R : Int32 × S} {wd' : va_W} (is it : List Nat) (q0 ci : Nat) {qc : vw_C} {fs : List Value} (C0 : q_C p s m meth c args own cc maxL ret ws D tys A) (hW : q_W D A s.heap wd H locs)
    (hM : Met l y wsc rmc (va_Pc (.ref b :: As) (q_B D tysc wc H.size)) (va_Qi (fun r u => (r, u) = R) (fun u => q_E D tysc (va_A wc H.size) (wf u)) (va_A wc H.size)) 0 0 (va_A wc H.size))
    (cw : CallW Rm s args own qc.1 index y bytes maxLc retc wsc rmc 0 0 n)
    (hn : va_nd is = true) (hs : is.map (fun i => wd[i]?) = wc.map some) (ht : it.filterMap (fun i => tys[i]?) = tysc) (hrec : wd[q0]? = some (b, .inr (ci, fs))) (hc : vwCl[ci]? = some qc)
    (hfst : (wf R.2).map Prod.fst = wc.map Prod.fst) (hput : q_put wd is (wf R.2) = wd')
    (hl : lv_has ls maxL lv) (hlen : As.length = n) (hst : st0 = As.reverse ++ .ref b :: rest) (hcat : (rest.map fun v => v.category).sum ≤ 8) (hdg : decode cc pc = .ok (.invokevirtual index, 3)) (hf : cells + 0 ≤ Rm.cells ∧ slots + 0 ≤ Rm.slots)
    (kk : ∀ (H1 : Heap) (locs1 : List Loc), q_W D A s.heap wd' H1 locs1 → W p l e Rm s m args below meth c H1 locs1 cells slots Q (F0 m (pc + 3) ls (.int R.1 :: rest))) : W p l e Rm s m args below meth c H locs cells slots Q (F0 m pc ls st0) := by
  have hF := va_free (wc := wc) hW.2.1 hW.2.2 C0.2.2.2.2.2.2.2.2 is hs
  refine va_calli (va_runV (As := As) (rest := rest) (q_fix C0) hM cw ⟨q_B_blind, va_recv C0.2.2.2.2.2.2.2.1 hW.1 hc hrec, fun U hU hw => ⟨rfl, q_sub C0 hW hn hs it ht U hU hw⟩⟩ rfl hlen hl.1 hst (lv_room hcat) hdg hf) hW.2.2 (fun q _ h => hF q h) hF (fun r u t H1 locs1 hth hvm hw hB hz1 hk1 hS => ?_)
  subst hw
  obtain ⟨hP1, hK1, hD1⟩ := hB
  rw [hth] at hP1
  exact kk H1 locs1 (q_back hW hs hfst hput hk1 hP1 hS)
/-- a virtual call of a method without an answer -/
theorem q_Vv {S : Type} {wf : S → va_W} {R : S} {wd' : va_W} (is it : List Nat) (q0 ci : Nat) {qc : vw_C} {fs : List Value} (C0 : q_C p s m meth c args own cc maxL ret ws D tys A) (hW : q_W D A s.heap wd H locs)
    (hM : Met l y wsc rmc (va_Pc (.ref b :: As) (q_B D tysc wc H.size)) (va_Qv (fun u => u = R) (fun u => q_E D tysc (va_A wc H.size) (wf u)) (va_A wc H.size)) 0 0 (va_A wc H.size))
    (cw : CallW Rm s args own qc.1 index y bytes maxLc retc wsc rmc 0 0 n)
    (hn : va_nd is = true) (hs : is.map (fun i => wd[i]?) = wc.map some) (ht : it.filterMap (fun i => tys[i]?) = tysc) (hrec : wd[q0]? = some (b, .inr (ci, fs))) (hc : vwCl[ci]? = some qc)
    (hfst : (wf R).map Prod.fst = wc.map Prod.fst) (hput : q_put wd is (wf R) = wd')
    (hl : lv_has ls maxL lv) (hlen : As.length = n) (hst : st0 = As.reverse ++ .ref b :: rest) (hcat : (rest.map fun v => v.category).sum ≤ 8) (hdg : decode cc pc = .ok (.invokevirtual index, 3)) (hf : cells + 0 ≤ Rm.cells ∧ slots + 0 ≤ Rm.slots)
    (kk : ∀ (H1 : Heap) (locs1 : List Loc), q_W D A s.heap wd' H1 locs1 → W p l e Rm s m args below meth c H1 locs1 cells slots Q (F0 m (pc + 3) ls rest)) : W p l e Rm s m args below meth c H locs cells slots Q (F0 m pc ls st0) := by
  have hF := va_free (wc := wc) hW.2.1 hW.2.2 C0.2.2.2.2.2.2.2.2 is hs
  refine va_callv (va_runV (As := As) (rest := rest) (q_fix C0) hM cw ⟨q_B_blind, va_recv C0.2.2.2.2.2.2.2.1 hW.1 hc hrec, fun U hU hw => ⟨rfl, q_sub C0 hW hn hs it ht U hU hw⟩⟩ rfl hlen hl.1 hst (lv_room hcat) hdg hf) hW.2.2 (fun q _ h => hF q h) hF (fun u t H1 locs1 hth hvm hw hB hz1 hk1 hS => ?_)
  subst hw
  obtain ⟨hP1, hK1, hD1⟩ := hB
  rw [hth] at hP1
  exact kk H1 locs1 (q_back hW hs hfst hput hk1 hP1 hS)
end QV
end QBASE
