/-! own rows: the class's world beside the model's; the arrays' classes at the start -/
section QLAW
theorem ap_l_pl (w1 w2 : va_W) (n : Nat) (h : w1.length = n) : ((List.range n).map (fun i => i)).map (fun i => (w1 ++ w2)[i]?) = w1.map some := by
  subst h
  rw [List.map_map]
  refine List.ext_getElem? (fun j => ?_)
  rw [List.getElem?_map, List.getElem?_map]
  rcases Nat.lt_or_ge j w1.length with hj | hj
  · rw [List.getElem?_range hj, List.getElem?_eq_getElem hj]
    show some ((w1 ++ w2)[j]?) = _
    rw [List.getElem?_append_left hj, List.getElem?_eq_getElem hj]
    rfl
  · rw [List.getElem?_eq_none (by simpa using hj), List.getElem?_eq_none hj]
    rfl
theorem ap_r_pl (w1 w2 : va_W) (m n : Nat) (h1 : w1.length = m) (h : w2.length = n) : ((List.range n).map (fun i => m + i)).map (fun i => (w1 ++ w2)[i]?) = w2.map some := by
  subst h; subst h1
  rw [List.map_map]
  refine List.ext_getElem? (fun j => ?_)
  rw [List.getElem?_map, List.getElem?_map]
  rcases Nat.lt_or_ge j w2.length with hj | hj
  · rw [List.getElem?_range hj, List.getElem?_eq_getElem hj]
    show some ((w1 ++ w2)[w1.length + j]?) = _
    rw [List.getElem?_append_right (by omega), show w1.length + j - w1.length = j by omega, List.getElem?_eq_getElem hj]
    rfl
  · rw [List.getElem?_eq_none (by simpa using hj), List.getElem?_eq_none hj]
    rfl
theorem ap_put {w1 w3 wd : va_W} {n m : Nat} (f : Nat → Nat) (hinj : ∀ i j, i < n → j < n → f i = f j → i = j) (hn : w1.length = n) (hm : wd.length = m) (h3 : w3.length = m) (hb : ∀ i, i < n → f i < m) (hin : ∀ i, i < n → w3[f i]? = w1[i]?) (hout : ∀ k, k < m → (∀ i, i < n → f i ≠ k) → w3[k]? = wd[k]?) : q_put wd ((List.range n).map f) w1 = w3 := by
  have hl : ((List.range n).map f).length = w1.length := by simp [hn]
  have hg : ∀ i, i < n → ((List.range n).map f)[i]? = some (f i) := fun i hi => by rw [List.getElem?_map, List.getElem?_range hi]; rfl
  refine List.ext_getElem? (fun k => ?_)
  rcases Nat.lt_or_ge k m with hk | hk
  · by_cases hex : ∃ i, i < n ∧ f i = k
    · obtain ⟨i, hi, e⟩ := hex
      subst e
      rw [q_put_at _ _ _ i (f i) hl (fun i1 i2 h1 h2 h9 => ?_) (hg i hi) (by rw [hm]; exact hk), hin i hi]
      have h1' : i1 < n := by simpa using h1
      have h2' : i2 < n := by simpa using h2
      rw [hg i1 h1', hg i2 h2'] at h9
      exact hinj i1 i2 h1' h2' (Option.some.inj h9)
    · have hno : ∀ i, i < n → f i ≠ k := fun i hi e => hex ⟨i, hi, e⟩
      rw [q_put_get _ _ _ k hl (fun hm9 => ?_), hout k hk hno]
      obtain ⟨i, hi, e⟩ := List.mem_map.mp hm9
      exact hno i (List.mem_range.mp hi) e
  · rw [List.getElem?_eq_none (by rw [q_put_len, hm]; exact hk), List.getElem?_eq_none (by rw [h3]; exact hk)]
theorem ap_l_put (w1 w1' w2 : va_W) (n : Nat) (h : w1.length = n) (h' : w1'.length = n) : q_put (w1 ++ w2) ((List.range n).map (fun i => i)) w1' = w1' ++ w2 := by
  refine ap_put (n := n) (m := n + w2.length) (fun i => i) (fun i j _ _ e => e) h' (by simp [h]) (by simp [h']) (fun i hi => by omega) (fun i hi => ?_) (fun k hk hno => ?_)
  · rw [List.getElem?_append_left (by rw [h']; exact hi)]
  · have hk2 : n ≤ k := by
      rcases Nat.lt_or_ge k n with q | q
      · exact absurd rfl (hno k q)
      · exact q
    rw [List.getElem?_append_right (by rw [h']; exact hk2), List.getElem?_append_right (by rw [h]; exact hk2), h, h']
theorem ap_r_put (w1 w2 w2' : va_W) (m n : Nat) (h1 : w1.length = m) (h : w2.length = n) (h' : w2'.length = n) : q_put (w1 ++ w2) ((List.range n).map (fun i => m + i)) w2' = w1 ++ w2' := by
  refine ap_put (n := n) (m := m + n) (fun i => m + i) (fun i j _ _ e => by omega) h' (by simp [h, h1]) (by simp [h', h1]) (fun i hi => by omega) (fun i hi => ?_) (fun k hk hno => ?_)
  · rw [List.getElem?_append_right (by omega)]
    congr 1
    omega
  · have hk2 : k < m := by
      rcases Nat.lt_or_ge k m with q | q
      · exact q
      · exact absurd (show m + (k - m) = k by omega) (hno (k - m) (by omega))
    rw [List.getElem?_append_left (by rw [h1]; exact hk2), List.getElem?_append_left (by rw [h1]; exact hk2)]
theorem q_tyL {args : Array Value} {s : State} (hi : (Cond.arrayClass .int).before args s = true) (hz : (Cond.arrayClass .boolean).before args s = true) (hc : (Cond.arrayClass .char).before args s = true) (ho : (Cond.arrayOver (.object "BeatFollower$Scene")).before args s = true) :
    ∃ k : Nat → ClassId, ∀ (i : Nat) (q : ClassId × FieldType), (tyL k)[i]? = some q → ArrOfT s q.1 q.2 ∧ va_RA s q.1 q.2 := by
  obtain ⟨c0, k0, p0, a0, b0, d0⟩ := Cond.arrayClass_spec hi
  obtain ⟨c1, k1, p1, a1, b1, d1⟩ := Cond.arrayClass_spec hz
  obtain ⟨c2, k2, p2, a2, b2, d2⟩ := Cond.arrayClass_spec hc
  obtain ⟨p3, c3, k3, a3, -, b3, d3, e3⟩ := Cond.arrayOver_spec ho
  refine ⟨fun j => if j = 0 then c0 else if j = 1 then c1 else if j = 2 then c2 else c3, fun i q hq => ?_⟩
  match i, hq with
  | 0, hq => cases hq; exact ⟨fun n z => ⟨fun _ h => (by cases h), k0, b0, p0, d0⟩, a0⟩
  | 1, hq => cases hq; exact ⟨fun n z => ⟨fun _ h => (by cases h), k1, b1, p1, d1⟩, a1⟩
  | 2, hq => cases hq; exact ⟨fun n z => ⟨fun _ h => (by cases h), k2, b2, p2, d2⟩, a2⟩
  | 3, hq => cases hq; exact ⟨fun n z => ⟨fun _ h => (by cases h), k3, b3, p3, d3⟩, k3, p3, b3, d3, a3, e3⟩
  | i + 4, hq => simp [tyL] at hq
variable {p : Program} {l : Launch} {e : Env} {Rm : Room} {s : State} {m : MethodId} {args : Array Value} {below : List Frame} {meth : Method} {c : Code} {H H0 : Heap} {locs : List Loc} {cells slots : Nat} {Q : State → Prop}
variable {pc : Nat} {ls : Array Slot} {rest st0 : List Value} {A : Nat → Prop} {own : String} {cc : ByteArray} {maxL : Nat} {ret : Option FieldType} {ws : List Cond} {D : va_G} {tys : List (ClassId × FieldType)} {wd : va_W}
variable {y : MethodName} {bytes : ByteArray} {maxLc n index : Nat} {retc : Option FieldType} {wsc : List Cond} {rmc : Room} {b : Addr} {As : List Value} {wc : va_W} {lv : List (Nat × Value)} {tysc : List (ClassId × FieldType)}
/-- as q_Viw, of a method that reads static tables too -/
theorem q_ViwX {S : Type} {wf : S → va_W} {R : Int32 × S} {wd' : va_W} {X : State → Prop} (is it : List Nat) (q0 ci : Nat) {qc : vw_C} {fs : List Value} (C0 : q_C p s m meth c args own cc maxL ret ws D tys A) (hW : q_W D A s.heap wd H locs)
    (hM : Met l y wsc rmc (va_Pc (.ref b :: As) (fun U => q_B D tysc wc H.size U ∧ X U)) (va_Qi (fun r u => (r, u) = R) (fun u => q_E D tysc (va_A wc H.size) (wf u)) (va_A wc H.size)) 0 0 (va_A wc H.size))
    (cw : CallW Rm s args own qc.1 index y bytes maxLc retc wsc rmc 0 0 n)
    (hX : (∀ q, va_A wc H.size q → A q) → ∀ U : State, U.heap = H → s.WarmedH U.vm → X U) (hXb : ∀ (a : Array Value) (U : State) (g : JFrame) (mk : MethodId), X U → X (U.calling g mk a))
    (hn : va_nd is = true) (hs : is.map (fun i => wd[i]?) = wc.map some) (ht : it.filterMap (fun i => tys[i]?) = tysc) (hrec : wd[q0]? = some (b, .inr (ci, fs))) (hc : vwCl[ci]? = some qc)
    (hfst : (wf R.2).map Prod.fst = wc.map Prod.fst) (hput : q_put wd is (wf R.2) = wd')
    (hl : lv_has ls maxL lv) (hlen : As.length = n) (hst : st0 = As.reverse ++ .ref b :: rest) (hcat : (rest.map fun v => v.category).sum ≤ 8) (hdg : decode cc pc = .ok (.invokevirtual index, 3)) (hf : cells + 0 ≤ Rm.cells ∧ slots + 0 ≤ Rm.slots)
    (kk : ∀ (H1 : Heap) (locs1 : List Loc), q_W D A s.heap wd' H1 locs1 → W p l e Rm s m args below meth c H1 locs1 cells slots Q (F0 m (pc + 3) ls (.int R.1 :: rest))) : W p l e Rm s m args below meth c H locs cells slots Q (F0 m pc ls st0) := by
  have hF := va_free (wc := wc) hW.2.1 hW.2.2 C0.2.2.2.2.2.2.2.2 is hs
  refine va_calli (va_runV (As := As) (rest := rest) (q_fix C0) hM cw ⟨fun a U g mk q => ?_, va_recv C0.2.2.2.2.2.2.2.1 hW.1 hc hrec, fun U hU hw => ⟨rfl, q_sub C0 hW hn hs it ht U hU hw, hX hF U hU hw⟩⟩ rfl hlen hl.1 hst (lv_room hcat) hdg hf) hW.2.2 (fun q _ h => hF q h) hF (fun r u t H1 locs1 hth hvm hw hB hz1 hk1 hS => ?_)
  · exact ⟨q.1, (q_B_blind a U g mk ⟨q.1, q.2.1⟩).2, hXb a U g mk q.2.2⟩
  · subst hw
    obtain ⟨hP1, hK1, hD1⟩ := hB
    rw [hth] at hP1
    exact kk H1 locs1 (q_back hW hs hfst hput hk1 hP1 hS)
theorem wX9_len (k : Nat → ClassId) (a : Nat → Nat) (σ : T2) : (wX9 k a σ).length = 180 := q_w_len
theorem wX10_len (k : Nat → ClassId) (a : Nat → Nat) (σ : T2) : (wX10 k a σ).length = 9 := rfl
def is_10 : List Nat := (List.range 9).map (fun i => 180 + i)
theorem is_10_nd : va_nd is_10 = true := q_w_nd _ (fun i j _ _ h => by omega)
end QLAW
