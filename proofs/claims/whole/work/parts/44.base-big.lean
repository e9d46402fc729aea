/-! own rows: worlds of many cells, each cell told by a function of its place -/
section QBIG
def q_w (n : Nat) (a : Nat → Nat) (E : Nat → T1 → va_E) (σ : T2) : va_W := (List.range n).map (fun j => (a j, E j (σ j)))
theorem q_w_len {n : Nat} {a : Nat → Nat} {E : Nat → T1 → va_E} {σ : T2} : (q_w n a E σ).length = n := by simp [q_w]
theorem q_w_get {n : Nat} {a : Nat → Nat} {E : Nat → T1 → va_E} {σ : T2} (j : Nat) (h : j < n) : (q_w n a E σ)[j]? = some (a j, E j (σ j)) := by
  unfold q_w
  rw [List.getElem?_map, List.getElem?_range h]
  rfl
theorem q_w_out {n : Nat} {a : Nat → Nat} {E : Nat → T1 → va_E} {σ : T2} (j : Nat) (h : n ≤ j) : (q_w n a E σ)[j]? = none := List.getElem?_eq_none (by rw [q_w_len]; exact h)
theorem q_w_fst {n : Nat} {a : Nat → Nat} {E : Nat → T1 → va_E} {σ : T2} : (q_w n a E σ).map Prod.fst = (List.range n).map a := by
  unfold q_w
  rw [List.map_map]
  rfl
theorem q_w_set {n : Nat} {a : Nat → Nat} {E : Nat → T1 → va_E} {σ : T2} (j : Nat) (h : j < n) (g : T1) : (q_w n a E σ).set j (a j, E j g) = q_w n a E (u2 σ j g) := by
  refine List.ext_getElem? (fun i => ?_)
  rcases Nat.lt_or_ge i n with hi | hi
  · rw [q_w_get i hi]
    by_cases e : j = i
    · subst e
      rw [List.getElem?_set_self (by rw [q_w_len]; exact h)]
      simp [u2]
    · rw [List.getElem?_set_ne e, q_w_get i hi]
      have e2 : ¬ i = j := fun x => e x.symm
      simp [u2, e2]
  · rw [q_w_out i hi, List.getElem?_eq_none (by rw [List.length_set, q_w_len]; exact hi)]
/-- a part of a world, by the places f 0, f 1 .. -/
theorem q_w_pl {n m : Nat} {a a' : Nat → Nat} {E E' : Nat → T1 → va_E} {σ σ' : T2} (f : Nat → Nat) (h : ∀ i, i < m → f i < n ∧ a (f i) = a' i ∧ E (f i) (σ (f i)) = E' i (σ' i)) : ((List.range m).map f).map (fun i => (q_w n a E σ)[i]?) = (q_w m a' E' σ').map some := by
  unfold q_w
  rw [List.map_map, List.map_map]
  refine List.map_congr_left (fun i hi => ?_)
  obtain ⟨h1, h2, h3⟩ := h i (List.mem_range.mp hi)
  show (q_w n a E σ)[f i]? = some (a' i, E' i (σ' i))
  rw [q_w_get (f i) h1, h2, h3]
theorem q_put_get : ∀ (is : List Nat) (w1 wd : va_W) (k : Nat), is.length = w1.length → k ∉ is → (q_put wd is w1)[k]? = wd[k]?
  | [], w1, wd, k, _, _ => by simp [q_put]
  | i :: is, [], wd, k, h, _ => by simp at h
  | i :: is, x :: w, wd, k, h, hk => by
    show (q_put (wd.set i x) is w)[k]? = _
    rw [q_put_get is w (wd.set i x) k (by simpa using h) (fun hm => hk (List.mem_cons_of_mem _ hm)), List.getElem?_set_ne (fun e => hk (by rw [e]; exact List.mem_cons_self))]
theorem q_put_len : ∀ (is : List Nat) (w1 wd : va_W), (q_put wd is w1).length = wd.length
  | [], w1, wd => by simp [q_put]
  | i :: is, [], wd => by simp [q_put]
  | i :: is, x :: w, wd => by
    show (q_put (wd.set i x) is w).length = _
    rw [q_put_len is w (wd.set i x), List.length_set]
theorem q_put_at : ∀ (is : List Nat) (w1 wd : va_W) (j k : Nat), is.length = w1.length → (∀ i i2, i < is.length → i2 < is.length → is[i]? = is[i2]? → i = i2) → is[j]? = some k → k < wd.length → (q_put wd is w1)[k]? = w1[j]?
  | [], w1, wd, j, k, _, _, h, _ => by simp at h
  | i :: is, [], wd, j, k, h, _, _, _ => by simp at h
  | i :: is, x :: w, wd, j, k, hl, hin, hj, hk => by
    show (q_put (wd.set i x) is w)[k]? = _
    have hl2 : is.length = w.length := by simpa using hl
    have hin2 : ∀ i1 i2, i1 < is.length → i2 < is.length → is[i1]? = is[i2]? → i1 = i2 := fun i1 i2 h1 h2 h3 => by
      have := hin (i1 + 1) (i2 + 1) (by simpa using h1) (by simpa using h2) (by simpa using h3)
      omega
    cases j with
    | zero =>
      have e : i = k := by simpa using hj
      subst e
      have hni : i ∉ is := fun hm => by
        obtain ⟨q, hq⟩ := List.getElem?_of_mem hm
        have h1 := (List.getElem?_eq_some_iff.mp hq).1
        have := hin 0 (q + 1) (by simp) (by simpa using h1) (by simpa using hq.symm)
        omega
      rw [q_put_get is w (wd.set i x) i hl2 hni, List.getElem?_set_self hk]
      rfl
    | succ j =>
      have hj2 : is[j]? = some k := by simpa using hj
      rw [q_put_at is w (wd.set i x) j k hl2 hin2 hj2 (by rw [List.length_set]; exact hk)]
      rfl
theorem q_w_pt {n m : Nat} {a a' : Nat → Nat} {E E' : Nat → T1 → va_E} {σ τ ρ : T2} (f : Nat → Nat) (hinj : ∀ i j, i < m → j < m → f i = f j → i = j) (h : ∀ i, i < m → f i < n ∧ a (f i) = a' i ∧ E (f i) (ρ (f i)) = E' i (τ i)) (ho : ∀ j, j < n → (∀ i, i < m → f i ≠ j) → ρ j = σ j) :
    q_put (q_w n a E σ) ((List.range m).map f) (q_w m a' E' τ) = q_w n a E ρ := by
  have hl : ((List.range m).map f).length = (q_w m a' E' τ).length := by rw [List.length_map, List.length_range, q_w_len]
  have hg : ∀ i, i < m → ((List.range m).map f)[i]? = some (f i) := fun i hi => by rw [List.getElem?_map, List.getElem?_range hi]; rfl
  refine List.ext_getElem? (fun j => ?_)
  rcases Nat.lt_or_ge j n with hj | hj
  · rw [q_w_get j hj]
    by_cases hex : ∃ i, i < m ∧ f i = j
    · obtain ⟨i, hi, e⟩ := hex
      subst e
      obtain ⟨h1, h2, h3⟩ := h i hi
      rw [q_put_at _ _ _ i (f i) hl (fun i1 i2 h1 h2 h3 => ?_) (hg i hi) (by rw [q_w_len]; exact h1), q_w_get i hi, h2, h3]
      have h1' : i1 < m := by simpa using h1
      have h2' : i2 < m := by simpa using h2
      rw [hg i1 h1', hg i2 h2'] at h3
      exact hinj i1 i2 h1' h2' (Option.some.inj h3)
    · have hno : ∀ i, i < m → f i ≠ j := fun i hi e => hex ⟨i, hi, e⟩
      rw [q_put_get _ _ _ j hl (fun hm => ?_), q_w_get j hj, ho j hj hno]
      obtain ⟨i, hi, e⟩ := List.mem_map.mp hm
      exact hno i (List.mem_range.mp hi) e
  · rw [q_w_out j hj, List.getElem?_eq_none (by rw [q_put_len, q_w_len]; exact hj)]
theorem q_nd_of : ∀ (l : List Nat), l.Nodup → va_nd l = true
  | [], _ => rfl
  | x :: l, h => by
    have h2 := List.nodup_cons.mp h
    have h3 := q_nd_of l h2.2
    simp [va_nd, h3, h2.1]
theorem q_w_nd {m : Nat} (f : Nat → Nat) (hinj : ∀ i j, i < m → j < m → f i = f j → i = j) : va_nd ((List.range m).map f) = true := by
  refine q_nd_of _ ?_
  unfold List.Nodup
  rw [List.pairwise_map]
  refine List.Pairwise.imp_of_mem (fun ha hb hab e => hab (hinj _ _ (List.mem_range.mp ha) (List.mem_range.mp hb) e)) List.nodup_range
theorem q_inv {i : Int32} {n : Nat} (h : vp_in i n) : i.toNatClampNeg < n := Nat.not_le.mp (fun q => h (Or.inr q))
theorem q_ifv {i : Int32} {n : Nat} {x : Nat} (h : vp_in i n) : (if i.toNatClampNeg < n then some x else none) = some x := if_pos (q_inv h)
end QBIG
