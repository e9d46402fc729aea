/-! own rows: static tables; a method that reads them -/
section QZ
def q_lo : Nat → Int32 := fun j => match j with
  | 0 => 20 | 1 => 5 | 2 => 0 | 3 => 0 | 4 => 0 | 5 => 1 | 6 => 1 | _ => 1
def q_hi : Nat → Int32 := fun j => match j with
  | 0 => 400 | 1 => 50 | 2 => 16 | 3 => 16 | 4 => 40 | 5 => 8 | 6 => 8 | _ => 20
def q_fi : Nat → Int32 := fun j => match j with
  | 0 => 100 | 1 => 30 | 2 => 8 | 3 => 4 | 4 => 8 | 5 => 3 | 6 => 3 | _ => 6
def q_Z (U : State) (A : Nat → Prop) (z : Nat → Nat) : Prop :=
  va_Z "BeatFollower" "LOWEST" "[I" (.ref (z 0)) A U U.heap ∧ va_T .int (z 0) 8 (fun j => .int (q_lo j)) A U U.heap ∧
  va_Z "BeatFollower" "HIGHEST" "[I" (.ref (z 1)) A U U.heap ∧ va_T .int (z 1) 8 (fun j => .int (q_hi j)) A U U.heap ∧
  va_Z "BeatFollower" "FIRST" "[I" (.ref (z 2)) A U U.heap ∧ va_T .int (z 2) 8 (fun j => .int (q_fi j)) A U U.heap
set_option maxHeartbeats 4000000 in
theorem q_metz {l : Launch} {y : MethodName} {ws ws' : List Cond} {rm : Room} {Qc : Array Value → State → Outcome → State → Prop} {mc ms : Nat} {free : Addr → Prop} {cc : ByteArray} {maxL : Nat} {ret : Option FieldType} {D : va_G} {tys : List (ClassId × FieldType)} (av : List Value) (wd : va_W) (sz : Nat) (X : State → Prop)
    (hy : plainName y.cls = true) (hw : ws = Cond.code y cc maxL ret :: ws') (hlen : (lg_sl av).length ≤ maxL)
    (body : ∀ (p : Program) (e : Env) (s : State) (m : MethodId) (args : Array Value) (below : List Frame) (meth : Method) (c : Code) (ls : Array Slot), s.heap.size = sz → X s → q_C p s m meth c args y.cls cc maxL ret ws D tys (va_A wd sz) → q_W D (va_A wd sz) s.heap wd s.heap [] → lv_has ls maxL (lv_args 0 av) → meth.name = y.name →
      W p l e rm s m args below meth c s.heap [] 0 0 (MQ below Qc args s mc ms free) (F0 m 0 ls [])) :
    Met l y ws rm (va_Pc av (fun U => q_B D tys wd sz U ∧ X U)) Qc mc ms free := by
  refine Met.ofW (cc := cc) (maxL := maxL) (ret := ret) hy hw ?_
  intro p e s m args below meth c s₁ B hml hv
  obtain ⟨rfl, ⟨hsz, hP, hK, hD0⟩, hX⟩ := hv
  have hts := atoms_spec (ws := ws) B.pre
  have hown : s.vm.findClass y.cls = some m.cls := findClass_of_methodNamed B.named
  have hin : meth.name = y.name := (name_of_methodNamed B.named B.method).1
  subst hsz
  have hD := hD0.self (sz := s.heap.size)
  have hl := lv_entry av (n := maxL) hlen
  rw [lg_entry_eq]
  exact body p e s m _ below meth c _ rfl hX ⟨B.exec, B.bytes, B.returns, hml, hts, hown, B.notSynchronized, hK, fun q h => Or.inr h⟩ ⟨hP, hD, va_S.rf⟩ hl hin
set_option maxHeartbeats 4000000 in
theorem q_metsF {l : Launch} {y : MethodName} {ws ws' : List Cond} {rm : Room} {Qc : Array Value → State → Outcome → State → Prop} {mc ms : Nat} {free : Addr → Prop} {cc : ByteArray} {maxL : Nat} {ret : Option FieldType} (av : List Value)
    (hy : plainFor y = true) (hw : ws = Cond.code y cc maxL ret :: ws') (hlen : (lg_sl av).length ≤ maxL)
    (body : ∀ (p : Program) (e : Env) (s : State) (m : MethodId) (args : Array Value) (below : List Frame) (meth : Method) (c : Code) (ls : Array Slot), q_C1 p s m meth c args y.cls cc maxL ret ws → lv_has ls maxL (lv_args 0 av) →
      W p l e rm s m args below meth c s.heap [] 0 0 (MQ below Qc args s mc ms free) (F0 m 0 ls [])) :
    Met l y ws rm (va_Pc av (fun _ => True)) Qc mc ms free := by
  refine va_MetF (cc := cc) (maxL := maxL) (ret := ret) hy hw ?_
  intro p e s m args below meth c s₁ B hml hv
  obtain ⟨rfl, -⟩ := hv
  have hts := atoms_spec (ws := ws) B.pre
  have hown : s.vm.findClass y.cls = some m.cls := findClass_of_methodNamed B.named
  have hl := lv_entry av (n := maxL) hlen
  rw [lg_entry_eq]
  exact body p e s m _ below meth c _ ⟨B.exec, B.bytes, B.returns, hml, hts, hown, B.notSynchronized⟩ hl
end QZ
