def Ok_set (Rel : Nat → T2 → T2 → Prop) : Prop := ∀ (n : Nat) (ξ μ : T2) (x0 : Int32) (x1 : Int32), n < 512 → Rel n ξ μ → S_X9_set ξ x0 x1 ∧ S_X10_set μ x0 x1 ∧ (P_X9_set ξ x0 x1).1 = (P_X10_set μ x0 x1).1 ∧ Rel (n + 1) (P_X9_set ξ x0 x1).2 (P_X10_set μ x0 x1).2
def Ok_beat (Rel : Nat → T2 → T2 → Prop) : Prop := ∀ (n : Nat) (ξ μ : T2) (x0 : Int32) (x1 : Int32), n < 512 → Rel n ξ μ → S_X9_beat ξ x0 x1 ∧ S_X10_beat μ x0 x1 ∧ (P_X9_beat ξ x0 x1).1 = (P_X10_beat μ x0 x1).1 ∧ Rel (n + 1) (P_X9_beat ξ x0 x1).2 (P_X10_beat μ x0 x1).2
def Ok_cut (Rel : Nat → T2 → T2 → Prop) : Prop := ∀ (n : Nat) (ξ μ : T2) (x0 : Int32), n < 512 → Rel n ξ μ → S_X9_cut ξ x0 ∧ S_X10_cut μ x0 ∧ (P_X9_cut ξ x0).1 = (P_X10_cut μ x0).1 ∧ Rel (n + 1) (P_X9_cut ξ x0).2 (P_X10_cut μ x0).2
def Ok_pass (Rel : Nat → T2 → T2 → Prop) : Prop := ∀ (n : Nat) (ξ μ : T2) (x0 : Int32), n < 512 → Rel n ξ μ → S_X9_pass ξ x0 ∧ S_X10_pass μ x0 ∧ (P_X9_pass ξ x0).1 = (P_X10_pass μ x0).1 ∧ Rel (n + 1) (P_X9_pass ξ x0).2 (P_X10_pass μ x0).2
def Ok_anew (Rel : Nat → T2 → T2 → Prop) : Prop := ∀ (n : Nat) (ξ μ : T2), n < 512 → Rel n ξ μ → S_X9_anew ξ ∧ S_X10_anew μ ∧ (P_X9_anew ξ).1 = (P_X10_anew μ).1 ∧ Rel (n + 1) (P_X9_anew ξ).2 (P_X10_anew μ).2
def Ok_ofBeat (Rel : Nat → T2 → T2 → Prop) : Prop := ∀ (n : Nat) (ξ μ : T2) (x0 : Int32) (x1 : Int32), n < 512 → Rel n ξ μ → S_X9_ofBeat ξ x0 x1 ∧ S_X10_ofBeat μ x0 x1 ∧ P_X9_ofBeat ξ x0 x1 = P_X10_ofBeat μ x0 x1 ∧ Rel (n + 1) ξ μ
def Ok_ofBlow (Rel : Nat → T2 → T2 → Prop) : Prop := ∀ (n : Nat) (ξ μ : T2) (x0 : Int32) (x1 : Int32), n < 512 → Rel n ξ μ → S_X9_ofBlow ξ x0 x1 ∧ S_X10_ofBlow μ x0 x1 ∧ P_X9_ofBlow ξ x0 x1 = P_X10_ofBlow μ x0 x1 ∧ Rel (n + 1) ξ μ
def Ok_count (Rel : Nat → T2 → T2 → Prop) : Prop := ∀ (n : Nat) (ξ μ : T2) (x0 : Int32), n < 512 → Rel n ξ μ → S_X9_count ξ x0 ∧ S_X10_count μ x0 ∧ P_X9_count ξ x0 = P_X10_count μ x0 ∧ Rel (n + 1) ξ μ
def Ok_slips (Rel : Nat → T2 → T2 → Prop) : Prop := ∀ (n : Nat) (ξ μ : T2), n < 512 → Rel n ξ μ → S_X9_slips ξ ∧ S_X10_slips μ ∧ P_X9_slips ξ = P_X10_slips μ ∧ Rel (n + 1) ξ μ
def Ok_nextBlow (Rel : Nat → T2 → T2 → Prop) : Prop := ∀ (n : Nat) (ξ μ : T2) (x0 : Int32), n < 512 → Rel n ξ μ → S_X9_nextBlow ξ x0 ∧ S_X10_nextBlow μ x0 ∧ P_X9_nextBlow ξ x0 = P_X10_nextBlow μ x0 ∧ Rel (n + 1) ξ μ
def Ok_ifHeard (Rel : Nat → T2 → T2 → Prop) : Prop := ∀ (n : Nat) (ξ μ : T2) (x0 : Int32), n < 512 → Rel n ξ μ → S_X9_ifHeard ξ x0 ∧ S_X10_ifHeard μ x0 ∧ (P_X9_ifHeard ξ x0).1 = (P_X10_ifHeard μ x0).1 ∧ Rel (n + 1) (P_X9_ifHeard ξ x0).2 (P_X10_ifHeard μ x0).2
def Ok_endWith (Rel : Nat → T2 → T2 → Prop) : Prop := ∀ (n : Nat) (ξ μ : T2) (x0 : Int32) (x1 : Int32) (x2 : Int32), n < 512 → Rel n ξ μ → S_X9_endWith ξ x0 x1 x2 ∧ S_X10_endWith μ x0 x1 x2 ∧ (P_X9_endWith ξ x0 x1 x2).1 = (P_X10_endWith μ x0 x1 x2).1 ∧ Rel (n + 1) (P_X9_endWith ξ x0 x1 x2).2 (P_X10_endWith μ x0 x1 x2).2
def Ok_bestNudge (Rel : Nat → T2 → T2 → Prop) : Prop := ∀ (n : Nat) (ξ μ : T2) (x0 : Int32), n < 512 → Rel n ξ μ → S_X9_bestNudge ξ x0 ∧ S_X10_bestNudge μ x0 ∧ (P_X9_bestNudge ξ x0).1 = (P_X10_bestNudge μ x0).1 ∧ Rel (n + 1) (P_X9_bestNudge ξ x0).2 (P_X10_bestNudge μ x0).2
def Ok_worstBeat (Rel : Nat → T2 → T2 → Prop) : Prop := ∀ (n : Nat) (ξ μ : T2) (x0 : Int32), n < 512 → Rel n ξ μ → S_X9_worstBeat ξ x0 ∧ S_X10_worstBeat μ x0 ∧ (P_X9_worstBeat ξ x0).1 = (P_X10_worstBeat μ x0).1 ∧ Rel (n + 1) (P_X9_worstBeat ξ x0).2 (P_X10_worstBeat μ x0).2
def Ok_put (Rel : Nat → T2 → T2 → Prop) : Prop := ∀ (n : Nat) (ξ μ : T2) (x0 : Int64), n < 512 → Rel n ξ μ → S_X9_put ξ x0 ∧ S_X10_put μ x0 ∧ (P_X9_put ξ x0).1 = (P_X10_put μ x0).1 ∧ Rel (n + 1) (P_X9_put ξ x0).2 (P_X10_put μ x0).2
def Ok_wipe (Rel : Nat → T2 → T2 → Prop) : Prop := ∀ (n : Nat) (ξ μ : T2), n < 512 → Rel n ξ μ → S_X9_wipe ξ ∧ S_X10_wipe μ ∧ (P_X9_wipe ξ).1 = (P_X10_wipe μ).1 ∧ Rel (n + 1) (P_X9_wipe ξ).2 (P_X10_wipe μ).2
def Ok_fault (Rel : Nat → T2 → T2 → Prop) : Prop := ∀ (n : Nat) (ξ μ : T2), n < 512 → Rel n ξ μ → S_X9_fault ξ ∧ S_X10_fault μ ∧ (P_X9_fault ξ).1 = (P_X10_fault μ).1 ∧ Rel (n + 1) (P_X9_fault ξ).2 (P_X10_fault μ).2
def Ok_plan (Rel : Nat → T2 → T2 → Prop) : Prop := ∀ (n : Nat) (ξ μ : T2), n < 512 → Rel n ξ μ → S_X9_plan ξ ∧ S_X10_plan μ ∧ (P_X9_plan ξ).1 = (P_X10_plan μ).1 ∧ Rel (n + 1) (P_X9_plan ξ).2 (P_X10_plan μ).2
def Ok_undo (Rel : Nat → T2 → T2 → Prop) : Prop := ∀ (n : Nat) (ξ μ : T2), n < 512 → Rel n ξ μ → S_X9_undo ξ ∧ S_X10_undo μ ∧ (P_X9_undo ξ).1 = (P_X10_undo μ).1 ∧ Rel (n + 1) (P_X9_undo ξ).2 (P_X10_undo μ).2
def Ok_save (Rel : Nat → T2 → T2 → Prop) : Prop := ∀ (n : Nat) (ξ μ : T2) (x0 : Int32), n < 512 → Rel n ξ μ → S_X9_save ξ x0 ∧ S_X10_save μ x0 ∧ (P_X9_save ξ x0).1 = (P_X10_save μ x0).1 ∧ Rel (n + 1) (P_X9_save ξ x0).2 (P_X10_save μ x0).2
def Ok_restore (Rel : Nat → T2 → T2 → Prop) : Prop := ∀ (n : Nat) (ξ μ : T2) (x0 : Int32), n < 512 → Rel n ξ μ → S_X9_restore ξ x0 ∧ S_X10_restore μ x0 ∧ (P_X9_restore ξ x0).1 = (P_X10_restore μ x0).1 ∧ Rel (n + 1) (P_X9_restore ξ x0).2 (P_X10_restore μ x0).2
set_option maxHeartbeats 2000000 in
set_option maxRecDepth 100000 in
theorem law_c0 {p : Program} {e : Env} {s : State} {m : MethodId} {below : List Frame} {meth : Method} {c : Code} (l : Launch) {b L : Nat} {xs : Nat → Int32} (hL : L ≤ 2048) (D : va_G) (k : Nat → ClassId) (a bq : Nat → Nat) (A : Nat → Prop) (C0 : q_C p s m meth c #[Value.ref b] RL cL_law 4 ret wsL_law D (tyL k) A) (hX : va_X b L xs s s.heap) (hbl : b < s.heap.size) (hbA : ¬ A b) (z : Nat → Nat) (Z0 : q_Z s A z) (Rel : Nat → T2 → T2 → Prop) (ok : Ok_set Rel) (n i : Nat) (hi : i + 4 ≤ L) (hn : n < 512) (ξ μ : T2) (hR : Rel n ξ μ) (kk : ∀ (ξ μ : T2) (H : Heap) (locs : List Loc) (ls : Array Slot), Rel (n + 1) ξ μ → q_W D A s.heap (wX9 k a ξ ++ wX10 k bq μ) H locs → lv_has ls 4 [(0, .ref b), (1, .ref (a 0)), (2, .ref (bq 0)), (3, .int (nI i))] → W p l e room_1 s m #[Value.ref b] below meth c H locs 600000 7302250 (lw_Z below #[Value.ref b] s) (F0 m 645 ls [])) (H : Heap) (locs : List Loc) (ls : Array Slot) (hW : q_W D A s.heap (wX9 k a ξ ++ wX10 k bq μ) H locs) (hl : lv_has ls 4 [(0, .ref b), (1, .ref (a 0)), (2, .ref (bq 0)), (3, .int (nI i))]) : W p l e room_1 s m #[Value.ref b] below meth c H locs 600000 7302250 (lw_Z below #[Value.ref b] s) (F0 m 132 ls []) := by
  obtain ⟨hx, hb, hr, hml, hts, hown, hlocks, hK, hA⟩ := id C0
  have h_1 : vp_in (nI i + (1 : Int32)) L := by
    show vp_in (nI i + nI 1) L
    rw [nI_add]
    exact vp_in_nI (by omega) (by omega)
  have h_2 : vp_in (nI i + (2 : Int32)) L := by
    show vp_in (nI i + nI 2) L
    rw [nI_add]
    exact vp_in_nI (by omega) (by omega)
  have hq := ok n ξ μ (xs ((nI i) + (1 : Int32)).toNatClampNeg) (xs ((nI i) + (2 : Int32)).toNatClampNeg) hn hR
  refine lv_aload_n hx hb dL_law_132 rfl (lv_at hl 1 rfl) ?_
  refine lv_aload_n hx hb dL_law_133 rfl (lv_at hl 0 rfl) ?_
  refine lv_iload_n hx hb dL_law_134 rfl (lv_at hl 3 rfl) ?_
  refine lv_iconst (v := (1 : Int32)) hx hb dL_law_135 (by decide) ?_
  refine lv_iadd hx hb dL_law_136 ?_
  refine va_sld hx hb hX hbl hbA hW.2.2 h_1 dL_law_137 ?_
  refine lv_aload_n hx hb dL_law_138 rfl (lv_at hl 0 rfl) ?_
  refine lv_iload_n hx hb dL_law_139 rfl (lv_at hl 3 rfl) ?_
  refine lv_iconst (v := (2 : Int32)) hx hb dL_law_140 (by decide) ?_
  refine lv_iadd hx hb dL_law_141 ?_
  refine va_sld hx hb hX hbl hbA hW.2.2 h_2 dL_law_142 ?_
  refine q_ViwX (As := [.int (xs ((nI i) + (1 : Int32)).toNatClampNeg), .int (xs ((nI i) + (2 : Int32)).toNatClampNeg)]) (rest := []) (wf := wX9 k a) (R := P_X9_set ξ (xs ((nI i) + (1 : Int32)).toNatClampNeg) (xs ((nI i) + (2 : Int32)).toNatClampNeg)) (wd' := (wX9 k a (P_X9_set ξ (xs ((nI i) + (1 : Int32)).toNatClampNeg) (xs ((nI i) + (2 : Int32)).toNatClampNeg)).2 ++ wX10 k bq μ)) (X := fun U => q_Z U (va_A (wX9 k a ξ) H.size) z) wX9_is [0, 1, 2, 3] 0 9 C0 hW (m_X9_set l D k a H.size z ξ (xs ((nI i) + (1 : Int32)).toNatClampNeg) (xs ((nI i) + (2 : Int32)).toNatClampNeg) hq.1) (cwV 2 hts gL_law_X9_set rfl rfl rfl hd_X9_set ⟨Nat.le_of_ble_eq_true rfl, Nat.le_of_ble_eq_true rfl⟩) (fun hF => q_Z_sub Z0 hW.2.2 hF) (fun a U g mk h => q_Z_calling a U g mk h) wX9_nd (ap_l_pl _ _ 180 (wX9_len k a _)) rfl (by rw [List.getElem?_append_left (by rw [wX9_len]; decide)]; exact wX9_rec k a _) rfl (wX9_fst k a _ _) (ap_l_put _ _ _ 180 (wX9_len k a _) (wX9_len k a _)) hl rfl rfl (Nat.le_of_ble_eq_true rfl) dL_law_143 ⟨Nat.le_refl _, Nat.le_refl _⟩ (fun H locs hW => ?_)
  refine lv_aload_n hx hb dL_law_146 rfl (lv_at hl 2 rfl) ?_
  refine lv_aload_n hx hb dL_law_147 rfl (lv_at hl 0 rfl) ?_
  refine lv_iload_n hx hb dL_law_148 rfl (lv_at hl 3 rfl) ?_
  refine lv_iconst (v := (1 : Int32)) hx hb dL_law_149 (by decide) ?_
  refine lv_iadd hx hb dL_law_150 ?_
  refine va_sld hx hb hX hbl hbA hW.2.2 h_1 dL_law_151 ?_
  refine lv_aload_n hx hb dL_law_152 rfl (lv_at hl 0 rfl) ?_
  refine lv_iload_n hx hb dL_law_153 rfl (lv_at hl 3 rfl) ?_
  refine lv_iconst (v := (2 : Int32)) hx hb dL_law_154 (by decide) ?_
  refine lv_iadd hx hb dL_law_155 ?_
  refine va_sld hx hb hX hbl hbA hW.2.2 h_2 dL_law_156 ?_
  refine q_Viw (As := [.int (xs ((nI i) + (1 : Int32)).toNatClampNeg), .int (xs ((nI i) + (2 : Int32)).toNatClampNeg)]) (rest := [.int (P_X9_set ξ (xs ((nI i) + (1 : Int32)).toNatClampNeg) (xs ((nI i) + (2 : Int32)).toNatClampNeg)).1]) (wf := wX10 k bq) (R := P_X10_set μ (xs ((nI i) + (1 : Int32)).toNatClampNeg) (xs ((nI i) + (2 : Int32)).toNatClampNeg)) (wd' := (wX9 k a (P_X9_set ξ (xs ((nI i) + (1 : Int32)).toNatClampNeg) (xs ((nI i) + (2 : Int32)).toNatClampNeg)).2 ++ wX10 k bq (P_X10_set μ (xs ((nI i) + (1 : Int32)).toNatClampNeg) (xs ((nI i) + (2 : Int32)).toNatClampNeg)).2)) is_10 [0, 1, 2, 3] 180 10 C0 hW (m_X10_set l D k bq H.size μ (xs ((nI i) + (1 : Int32)).toNatClampNeg) (xs ((nI i) + (2 : Int32)).toNatClampNeg) hq.2.1) (cwV 2 hts gL_law_X10_set rfl rfl rfl hd_X10_set ⟨Nat.le_of_ble_eq_true rfl, Nat.le_of_ble_eq_true rfl⟩) is_10_nd (ap_r_pl _ _ 180 9 (wX9_len k a _) (wX10_len k bq _)) rfl (by rw [List.getElem?_append_right (by rw [wX9_len]; decide), wX9_len]; exact wX10_rec k bq _) rfl (wX10_fst k bq _ _) (ap_r_put _ _ _ 180 9 (wX9_len k a _) (wX10_len k bq _) (wX10_len k bq _)) hl rfl rfl (Nat.le_of_ble_eq_true rfl) dL_law_157 ⟨Nat.le_refl _, Nat.le_refl _⟩ (fun H locs hW => ?_)
  exact lv_icmp_eq (tgt := 645) hx hb dL_law_160 (by decide) (fun _ => kk _ _ H locs ls hq.2.2.2 hW hl) (fun hc => absurd hq.2.2.1 hc)
set_option maxHeartbeats 2000000 in
set_option maxRecDepth 100000 in
theorem law_c1 {p : Program} {e : Env} {s : State} {m : MethodId} {below : List Frame} {meth : Method} {c : Code} (l : Launch) {b L : Nat} {xs : Nat → Int32} (hL : L ≤ 2048) (D : va_G) (k : Nat → ClassId) (a bq : Nat → Nat) (A : Nat → Prop) (C0 : q_C p s m meth c #[Value.ref b] RL cL_law 4 ret wsL_law D (tyL k) A) (hX : va_X b L xs s s.heap) (hbl : b < s.heap.size) (hbA : ¬ A b) (Rel : Nat → T2 → T2 → Prop) (ok : Ok_beat Rel) (n i : Nat) (hi : i + 4 ≤ L) (hn : n < 512) (ξ μ : T2) (hR : Rel n ξ μ) (kk : ∀ (ξ μ : T2) (H : Heap) (locs : List Loc) (ls : Array Slot), Rel (n + 1) ξ μ → q_W D A s.heap (wX9 k a ξ ++ wX10 k bq μ) H locs → lv_has ls 4 [(0, .ref b), (1, .ref (a 0)), (2, .ref (bq 0)), (3, .int (nI i))] → W p l e room_1 s m #[Value.ref b] below meth c H locs 600000 7302250 (lw_Z below #[Value.ref b] s) (F0 m 645 ls [])) (H : Heap) (locs : List Loc) (ls : Array Slot) (hW : q_W D A s.heap (wX9 k a ξ ++ wX10 k bq μ) H locs) (hl : lv_has ls 4 [(0, .ref b), (1, .ref (a 0)), (2, .ref (bq 0)), (3, .int (nI i))]) : W p l e room_1 s m #[Value.ref b] below meth c H locs 600000 7302250 (lw_Z below #[Value.ref b] s) (F0 m 165 ls []) := by
  obtain ⟨hx, hb, hr, hml, hts, hown, hlocks, hK, hA⟩ := id C0
  have h_1 : vp_in (nI i + (1 : Int32)) L := by
    show vp_in (nI i + nI 1) L
    rw [nI_add]
    exact vp_in_nI (by omega) (by omega)
  have h_2 : vp_in (nI i + (2 : Int32)) L := by
    show vp_in (nI i + nI 2) L
    rw [nI_add]
    exact vp_in_nI (by omega) (by omega)
  have hq := ok n ξ μ (xs ((nI i) + (1 : Int32)).toNatClampNeg) (xs ((nI i) + (2 : Int32)).toNatClampNeg) hn hR
  refine lv_aload_n hx hb dL_law_165 rfl (lv_at hl 1 rfl) ?_
  refine lv_aload_n hx hb dL_law_166 rfl (lv_at hl 0 rfl) ?_
  refine lv_iload_n hx hb dL_law_167 rfl (lv_at hl 3 rfl) ?_
  refine lv_iconst (v := (1 : Int32)) hx hb dL_law_168 (by decide) ?_
  refine lv_iadd hx hb dL_law_169 ?_
  refine va_sld hx hb hX hbl hbA hW.2.2 h_1 dL_law_170 ?_
  refine lv_aload_n hx hb dL_law_171 rfl (lv_at hl 0 rfl) ?_
  refine lv_iload_n hx hb dL_law_172 rfl (lv_at hl 3 rfl) ?_
  refine lv_iconst (v := (2 : Int32)) hx hb dL_law_173 (by decide) ?_
  refine lv_iadd hx hb dL_law_174 ?_
  refine va_sld hx hb hX hbl hbA hW.2.2 h_2 dL_law_175 ?_
  refine q_Viw (As := [.int (xs ((nI i) + (1 : Int32)).toNatClampNeg), .int (xs ((nI i) + (2 : Int32)).toNatClampNeg)]) (rest := []) (wf := wX9 k a) (R := P_X9_beat ξ (xs ((nI i) + (1 : Int32)).toNatClampNeg) (xs ((nI i) + (2 : Int32)).toNatClampNeg)) (wd' := (wX9 k a (P_X9_beat ξ (xs ((nI i) + (1 : Int32)).toNatClampNeg) (xs ((nI i) + (2 : Int32)).toNatClampNeg)).2 ++ wX10 k bq μ)) wX9_is [0, 1, 2, 3] 0 9 C0 hW (m_X9_beat l D k a H.size ξ (xs ((nI i) + (1 : Int32)).toNatClampNeg) (xs ((nI i) + (2 : Int32)).toNatClampNeg) hq.1) (cwV 2 hts gL_law_X9_beat rfl rfl rfl hd_X9_beat ⟨Nat.le_of_ble_eq_true rfl, Nat.le_of_ble_eq_true rfl⟩) wX9_nd (ap_l_pl _ _ 180 (wX9_len k a _)) rfl (by rw [List.getElem?_append_left (by rw [wX9_len]; decide)]; exact wX9_rec k a _) rfl (wX9_fst k a _ _) (ap_l_put _ _ _ 180 (wX9_len k a _) (wX9_len k a _)) hl rfl rfl (Nat.le_of_ble_eq_true rfl) dL_law_176 ⟨Nat.le_refl _, Nat.le_refl _⟩ (fun H locs hW => ?_)
  refine lv_aload_n hx hb dL_law_179 rfl (lv_at hl 2 rfl) ?_
  refine lv_aload_n hx hb dL_law_180 rfl (lv_at hl 0 rfl) ?_
  refine lv_iload_n hx hb dL_law_181 rfl (lv_at hl 3 rfl) ?_
  refine lv_iconst (v := (1 : Int32)) hx hb dL_law_182 (by decide) ?_
  refine lv_iadd hx hb dL_law_183 ?_
  refine va_sld hx hb hX hbl hbA hW.2.2 h_1 dL_law_184 ?_
  refine lv_aload_n hx hb dL_law_185 rfl (lv_at hl 0 rfl) ?_
  refine lv_iload_n hx hb dL_law_186 rfl (lv_at hl 3 rfl) ?_
  refine lv_iconst (v := (2 : Int32)) hx hb dL_law_187 (by decide) ?_
  refine lv_iadd hx hb dL_law_188 ?_
  refine va_sld hx hb hX hbl hbA hW.2.2 h_2 dL_law_189 ?_
  refine q_Viw (As := [.int (xs ((nI i) + (1 : Int32)).toNatClampNeg), .int (xs ((nI i) + (2 : Int32)).toNatClampNeg)]) (rest := [.int (P_X9_beat ξ (xs ((nI i) + (1 : Int32)).toNatClampNeg) (xs ((nI i) + (2 : Int32)).toNatClampNeg)).1]) (wf := wX10 k bq) (R := P_X10_beat μ (xs ((nI i) + (1 : Int32)).toNatClampNeg) (xs ((nI i) + (2 : Int32)).toNatClampNeg)) (wd' := (wX9 k a (P_X9_beat ξ (xs ((nI i) + (1 : Int32)).toNatClampNeg) (xs ((nI i) + (2 : Int32)).toNatClampNeg)).2 ++ wX10 k bq (P_X10_beat μ (xs ((nI i) + (1 : Int32)).toNatClampNeg) (xs ((nI i) + (2 : Int32)).toNatClampNeg)).2)) is_10 [0, 1, 2, 3] 180 10 C0 hW (m_X10_beat l D k bq H.size μ (xs ((nI i) + (1 : Int32)).toNatClampNeg) (xs ((nI i) + (2 : Int32)).toNatClampNeg) hq.2.1) (cwV 2 hts gL_law_X10_beat rfl rfl rfl hd_X10_beat ⟨Nat.le_of_ble_eq_true rfl, Nat.le_of_ble_eq_true rfl⟩) is_10_nd (ap_r_pl _ _ 180 9 (wX9_len k a _) (wX10_len k bq _)) rfl (by rw [List.getElem?_append_right (by rw [wX9_len]; decide), wX9_len]; exact wX10_rec k bq _) rfl (wX10_fst k bq _ _) (ap_r_put _ _ _ 180 9 (wX9_len k a _) (wX10_len k bq _) (wX10_len k bq _)) hl rfl rfl (Nat.le_of_ble_eq_true rfl) dL_law_190 ⟨Nat.le_refl _, Nat.le_refl _⟩ (fun H locs hW => ?_)
  exact lv_icmp_eq (tgt := 645) hx hb dL_law_193 (by decide) (fun _ => kk _ _ H locs ls hq.2.2.2 hW hl) (fun hc => absurd hq.2.2.1 hc)
set_option maxHeartbeats 2000000 in
set_option maxRecDepth 100000 in
theorem law_c2 {p : Program} {e : Env} {s : State} {m : MethodId} {below : List Frame} {meth : Method} {c : Code} (l : Launch) {b L : Nat} {xs : Nat → Int32} (hL : L ≤ 2048) (D : va_G) (k : Nat → ClassId) (a bq : Nat → Nat) (A : Nat → Prop) (C0 : q_C p s m meth c #[Value.ref b] RL cL_law 4 ret wsL_law D (tyL k) A) (hX : va_X b L xs s s.heap) (hbl : b < s.heap.size) (hbA : ¬ A b) (Rel : Nat → T2 → T2 → Prop) (ok : Ok_cut Rel) (n i : Nat) (hi : i + 4 ≤ L) (hn : n < 512) (ξ μ : T2) (hR : Rel n ξ μ) (kk : ∀ (ξ μ : T2) (H : Heap) (locs : List Loc) (ls : Array Slot), Rel (n + 1) ξ μ → q_W D A s.heap (wX9 k a ξ ++ wX10 k bq μ) H locs → lv_has ls 4 [(0, .ref b), (1, .ref (a 0)), (2, .ref (bq 0)), (3, .int (nI i))] → W p l e room_1 s m #[Value.ref b] below meth c H locs 600000 7302250 (lw_Z below #[Value.ref b] s) (F0 m 645 ls [])) (H : Heap) (locs : List Loc) (ls : Array Slot) (hW : q_W D A s.heap (wX9 k a ξ ++ wX10 k bq μ) H locs) (hl : lv_has ls 4 [(0, .ref b), (1, .ref (a 0)), (2, .ref (bq 0)), (3, .int (nI i))]) : W p l e room_1 s m #[Value.ref b] below meth c H locs 600000 7302250 (lw_Z below #[Value.ref b] s) (F0 m 198 ls []) := by
  obtain ⟨hx, hb, hr, hml, hts, hown, hlocks, hK, hA⟩ := id C0
  have h_1 : vp_in (nI i + (1 : Int32)) L := by
    show vp_in (nI i + nI 1) L
    rw [nI_add]
    exact vp_in_nI (by omega) (by omega)
  have hq := ok n ξ μ (xs ((nI i) + (1 : Int32)).toNatClampNeg) hn hR
  refine lv_aload_n hx hb dL_law_198 rfl (lv_at hl 1 rfl) ?_
  refine lv_aload_n hx hb dL_law_199 rfl (lv_at hl 0 rfl) ?_
  refine lv_iload_n hx hb dL_law_200 rfl (lv_at hl 3 rfl) ?_
  refine lv_iconst (v := (1 : Int32)) hx hb dL_law_201 (by decide) ?_
  refine lv_iadd hx hb dL_law_202 ?_
  refine va_sld hx hb hX hbl hbA hW.2.2 h_1 dL_law_203 ?_
  refine q_Viw (As := [.int (xs ((nI i) + (1 : Int32)).toNatClampNeg)]) (rest := []) (wf := wX9 k a) (R := P_X9_cut ξ (xs ((nI i) + (1 : Int32)).toNatClampNeg)) (wd' := (wX9 k a (P_X9_cut ξ (xs ((nI i) + (1 : Int32)).toNatClampNeg)).2 ++ wX10 k bq μ)) wX9_is [0, 1, 2, 3] 0 9 C0 hW (m_X9_cut l D k a H.size ξ (xs ((nI i) + (1 : Int32)).toNatClampNeg) hq.1) (cwV 1 hts gL_law_X9_cut rfl rfl rfl hd_X9_cut ⟨Nat.le_of_ble_eq_true rfl, Nat.le_of_ble_eq_true rfl⟩) wX9_nd (ap_l_pl _ _ 180 (wX9_len k a _)) rfl (by rw [List.getElem?_append_left (by rw [wX9_len]; decide)]; exact wX9_rec k a _) rfl (wX9_fst k a _ _) (ap_l_put _ _ _ 180 (wX9_len k a _) (wX9_len k a _)) hl rfl rfl (Nat.le_of_ble_eq_true rfl) dL_law_204 ⟨Nat.le_refl _, Nat.le_refl _⟩ (fun H locs hW => ?_)
  refine lv_aload_n hx hb dL_law_207 rfl (lv_at hl 2 rfl) ?_
  refine lv_aload_n hx hb dL_law_208 rfl (lv_at hl 0 rfl) ?_
  refine lv_iload_n hx hb dL_law_209 rfl (lv_at hl 3 rfl) ?_
  refine lv_iconst (v := (1 : Int32)) hx hb dL_law_210 (by decide) ?_
  refine lv_iadd hx hb dL_law_211 ?_
  refine va_sld hx hb hX hbl hbA hW.2.2 h_1 dL_law_212 ?_
  refine q_Viw (As := [.int (xs ((nI i) + (1 : Int32)).toNatClampNeg)]) (rest := [.int (P_X9_cut ξ (xs ((nI i) + (1 : Int32)).toNatClampNeg)).1]) (wf := wX10 k bq) (R := P_X10_cut μ (xs ((nI i) + (1 : Int32)).toNatClampNeg)) (wd' := (wX9 k a (P_X9_cut ξ (xs ((nI i) + (1 : Int32)).toNatClampNeg)).2 ++ wX10 k bq (P_X10_cut μ (xs ((nI i) + (1 : Int32)).toNatClampNeg)).2)) is_10 [0, 1, 2, 3] 180 10 C0 hW (m_X10_cut l D k bq H.size μ (xs ((nI i) + (1 : Int32)).toNatClampNeg) hq.2.1) (cwV 1 hts gL_law_X10_cut rfl rfl rfl hd_X10_cut ⟨Nat.le_of_ble_eq_true rfl, Nat.le_of_ble_eq_true rfl⟩) is_10_nd (ap_r_pl _ _ 180 9 (wX9_len k a _) (wX10_len k bq _)) rfl (by rw [List.getElem?_append_right (by rw [wX9_len]; decide), wX9_len]; exact wX10_rec k bq _) rfl (wX10_fst k bq _ _) (ap_r_put _ _ _ 180 9 (wX9_len k a _) (wX10_len k bq _) (wX10_len k bq _)) hl rfl rfl (Nat.le_of_ble_eq_true rfl) dL_law_213 ⟨Nat.le_refl _, Nat.le_refl _⟩ (fun H locs hW => ?_)
  exact lv_icmp_eq (tgt := 645) hx hb dL_law_216 (by decide) (fun _ => kk _ _ H locs ls hq.2.2.2 hW hl) (fun hc => absurd hq.2.2.1 hc)
set_option maxHeartbeats 2000000 in
set_option maxRecDepth 100000 in
theorem law_c3 {p : Program} {e : Env} {s : State} {m : MethodId} {below : List Frame} {meth : Method} {c : Code} (l : Launch) {b L : Nat} {xs : Nat → Int32} (hL : L ≤ 2048) (D : va_G) (k : Nat → ClassId) (a bq : Nat → Nat) (A : Nat → Prop) (C0 : q_C p s m meth c #[Value.ref b] RL cL_law 4 ret wsL_law D (tyL k) A) (hX : va_X b L xs s s.heap) (hbl : b < s.heap.size) (hbA : ¬ A b) (Rel : Nat → T2 → T2 → Prop) (ok : Ok_pass Rel) (n i : Nat) (hi : i + 4 ≤ L) (hn : n < 512) (ξ μ : T2) (hR : Rel n ξ μ) (kk : ∀ (ξ μ : T2) (H : Heap) (locs : List Loc) (ls : Array Slot), Rel (n + 1) ξ μ → q_W D A s.heap (wX9 k a ξ ++ wX10 k bq μ) H locs → lv_has ls 4 [(0, .ref b), (1, .ref (a 0)), (2, .ref (bq 0)), (3, .int (nI i))] → W p l e room_1 s m #[Value.ref b] below meth c H locs 600000 7302250 (lw_Z below #[Value.ref b] s) (F0 m 645 ls [])) (H : Heap) (locs : List Loc) (ls : Array Slot) (hW : q_W D A s.heap (wX9 k a ξ ++ wX10 k bq μ) H locs) (hl : lv_has ls 4 [(0, .ref b), (1, .ref (a 0)), (2, .ref (bq 0)), (3, .int (nI i))]) : W p l e room_1 s m #[Value.ref b] below meth c H locs 600000 7302250 (lw_Z below #[Value.ref b] s) (F0 m 221 ls []) := by
  obtain ⟨hx, hb, hr, hml, hts, hown, hlocks, hK, hA⟩ := id C0
  have h_1 : vp_in (nI i + (1 : Int32)) L := by
    show vp_in (nI i + nI 1) L
    rw [nI_add]
    exact vp_in_nI (by omega) (by omega)
  have hq := ok n ξ μ (xs ((nI i) + (1 : Int32)).toNatClampNeg) hn hR
  refine lv_aload_n hx hb dL_law_221 rfl (lv_at hl 1 rfl) ?_
  refine lv_aload_n hx hb dL_law_222 rfl (lv_at hl 0 rfl) ?_
  refine lv_iload_n hx hb dL_law_223 rfl (lv_at hl 3 rfl) ?_
  refine lv_iconst (v := (1 : Int32)) hx hb dL_law_224 (by decide) ?_
  refine lv_iadd hx hb dL_law_225 ?_
  refine va_sld hx hb hX hbl hbA hW.2.2 h_1 dL_law_226 ?_
  refine q_Viw (As := [.int (xs ((nI i) + (1 : Int32)).toNatClampNeg)]) (rest := []) (wf := wX9 k a) (R := P_X9_pass ξ (xs ((nI i) + (1 : Int32)).toNatClampNeg)) (wd' := (wX9 k a (P_X9_pass ξ (xs ((nI i) + (1 : Int32)).toNatClampNeg)).2 ++ wX10 k bq μ)) wX9_is [0, 1, 2, 3] 0 9 C0 hW (m_X9_pass l D k a H.size ξ (xs ((nI i) + (1 : Int32)).toNatClampNeg) hq.1) (cwV 1 hts gL_law_X9_pass rfl rfl rfl hd_X9_pass ⟨Nat.le_of_ble_eq_true rfl, Nat.le_of_ble_eq_true rfl⟩) wX9_nd (ap_l_pl _ _ 180 (wX9_len k a _)) rfl (by rw [List.getElem?_append_left (by rw [wX9_len]; decide)]; exact wX9_rec k a _) rfl (wX9_fst k a _ _) (ap_l_put _ _ _ 180 (wX9_len k a _) (wX9_len k a _)) hl rfl rfl (Nat.le_of_ble_eq_true rfl) dL_law_227 ⟨Nat.le_refl _, Nat.le_refl _⟩ (fun H locs hW => ?_)
  refine lv_aload_n hx hb dL_law_230 rfl (lv_at hl 2 rfl) ?_
  refine lv_aload_n hx hb dL_law_231 rfl (lv_at hl 0 rfl) ?_
  refine lv_iload_n hx hb dL_law_232 rfl (lv_at hl 3 rfl) ?_
  refine lv_iconst (v := (1 : Int32)) hx hb dL_law_233 (by decide) ?_
  refine lv_iadd hx hb dL_law_234 ?_
  refine va_sld hx hb hX hbl hbA hW.2.2 h_1 dL_law_235 ?_
  refine q_Viw (As := [.int (xs ((nI i) + (1 : Int32)).toNatClampNeg)]) (rest := [.int (P_X9_pass ξ (xs ((nI i) + (1 : Int32)).toNatClampNeg)).1]) (wf := wX10 k bq) (R := P_X10_pass μ (xs ((nI i) + (1 : Int32)).toNatClampNeg)) (wd' := (wX9 k a (P_X9_pass ξ (xs ((nI i) + (1 : Int32)).toNatClampNeg)).2 ++ wX10 k bq (P_X10_pass μ (xs ((nI i) + (1 : Int32)).toNatClampNeg)).2)) is_10 [0, 1, 2, 3] 180 10 C0 hW (m_X10_pass l D k bq H.size μ (xs ((nI i) + (1 : Int32)).toNatClampNeg) hq.2.1) (cwV 1 hts gL_law_X10_pass rfl rfl rfl hd_X10_pass ⟨Nat.le_of_ble_eq_true rfl, Nat.le_of_ble_eq_true rfl⟩) is_10_nd (ap_r_pl _ _ 180 9 (wX9_len k a _) (wX10_len k bq _)) rfl (by rw [List.getElem?_append_right (by rw [wX9_len]; decide), wX9_len]; exact wX10_rec k bq _) rfl (wX10_fst k bq _ _) (ap_r_put _ _ _ 180 9 (wX9_len k a _) (wX10_len k bq _) (wX10_len k bq _)) hl rfl rfl (Nat.le_of_ble_eq_true rfl) dL_law_236 ⟨Nat.le_refl _, Nat.le_refl _⟩ (fun H locs hW => ?_)
  exact lv_icmp_eq (tgt := 645) hx hb dL_law_239 (by decide) (fun _ => kk _ _ H locs ls hq.2.2.2 hW hl) (fun hc => absurd hq.2.2.1 hc)
set_option maxHeartbeats 2000000 in
set_option maxRecDepth 100000 in
theorem law_c4 {p : Program} {e : Env} {s : State} {m : MethodId} {below : List Frame} {meth : Method} {c : Code} (l : Launch) {b L : Nat} {xs : Nat → Int32} (hL : L ≤ 2048) (D : va_G) (k : Nat → ClassId) (a bq : Nat → Nat) (A : Nat → Prop) (C0 : q_C p s m meth c #[Value.ref b] RL cL_law 4 ret wsL_law D (tyL k) A) (hX : va_X b L xs s s.heap) (hbl : b < s.heap.size) (hbA : ¬ A b) (Rel : Nat → T2 → T2 → Prop) (ok : Ok_anew Rel) (n i : Nat) (hi : i + 4 ≤ L) (hn : n < 512) (ξ μ : T2) (hR : Rel n ξ μ) (kk : ∀ (ξ μ : T2) (H : Heap) (locs : List Loc) (ls : Array Slot), Rel (n + 1) ξ μ → q_W D A s.heap (wX9 k a ξ ++ wX10 k bq μ) H locs → lv_has ls 4 [(0, .ref b), (1, .ref (a 0)), (2, .ref (bq 0)), (3, .int (nI i))] → W p l e room_1 s m #[Value.ref b] below meth c H locs 600000 7302250 (lw_Z below #[Value.ref b] s) (F0 m 645 ls [])) (H : Heap) (locs : List Loc) (ls : Array Slot) (hW : q_W D A s.heap (wX9 k a ξ ++ wX10 k bq μ) H locs) (hl : lv_has ls 4 [(0, .ref b), (1, .ref (a 0)), (2, .ref (bq 0)), (3, .int (nI i))]) : W p l e room_1 s m #[Value.ref b] below meth c H locs 600000 7302250 (lw_Z below #[Value.ref b] s) (F0 m 244 ls []) := by
  obtain ⟨hx, hb, hr, hml, hts, hown, hlocks, hK, hA⟩ := id C0
  have hq := ok n ξ μ  hn hR
  refine lv_aload_n hx hb dL_law_244 rfl (lv_at hl 1 rfl) ?_
  refine q_Viw (As := []) (rest := []) (wf := wX9 k a) (R := P_X9_anew ξ) (wd' := (wX9 k a (P_X9_anew ξ).2 ++ wX10 k bq μ)) wX9_is [0, 1, 2, 3] 0 9 C0 hW (m_X9_anew l D k a H.size ξ  hq.1) (cwV 0 hts gL_law_X9_anew rfl rfl rfl hd_X9_anew ⟨Nat.le_of_ble_eq_true rfl, Nat.le_of_ble_eq_true rfl⟩) wX9_nd (ap_l_pl _ _ 180 (wX9_len k a _)) rfl (by rw [List.getElem?_append_left (by rw [wX9_len]; decide)]; exact wX9_rec k a _) rfl (wX9_fst k a _ _) (ap_l_put _ _ _ 180 (wX9_len k a _) (wX9_len k a _)) hl rfl rfl (Nat.le_of_ble_eq_true rfl) dL_law_245 ⟨Nat.le_refl _, Nat.le_refl _⟩ (fun H locs hW => ?_)
  refine lv_aload_n hx hb dL_law_248 rfl (lv_at hl 2 rfl) ?_
  refine q_Viw (As := []) (rest := [.int (P_X9_anew ξ).1]) (wf := wX10 k bq) (R := P_X10_anew μ) (wd' := (wX9 k a (P_X9_anew ξ).2 ++ wX10 k bq (P_X10_anew μ).2)) is_10 [0, 1, 2, 3] 180 10 C0 hW (m_X10_anew l D k bq H.size μ  hq.2.1) (cwV 0 hts gL_law_X10_anew rfl rfl rfl hd_X10_anew ⟨Nat.le_of_ble_eq_true rfl, Nat.le_of_ble_eq_true rfl⟩) is_10_nd (ap_r_pl _ _ 180 9 (wX9_len k a _) (wX10_len k bq _)) rfl (by rw [List.getElem?_append_right (by rw [wX9_len]; decide), wX9_len]; exact wX10_rec k bq _) rfl (wX10_fst k bq _ _) (ap_r_put _ _ _ 180 9 (wX9_len k a _) (wX10_len k bq _) (wX10_len k bq _)) hl rfl rfl (Nat.le_of_ble_eq_true rfl) dL_law_249 ⟨Nat.le_refl _, Nat.le_refl _⟩ (fun H locs hW => ?_)
  exact lv_icmp_eq (tgt := 645) hx hb dL_law_252 (by decide) (fun _ => kk _ _ H locs ls hq.2.2.2 hW hl) (fun hc => absurd hq.2.2.1 hc)
set_option maxHeartbeats 2000000 in
set_option maxRecDepth 100000 in
theorem law_c5 {p : Program} {e : Env} {s : State} {m : MethodId} {below : List Frame} {meth : Method} {c : Code} (l : Launch) {b L : Nat} {xs : Nat → Int32} (hL : L ≤ 2048) (D : va_G) (k : Nat → ClassId) (a bq : Nat → Nat) (A : Nat → Prop) (C0 : q_C p s m meth c #[Value.ref b] RL cL_law 4 ret wsL_law D (tyL k) A) (hX : va_X b L xs s s.heap) (hbl : b < s.heap.size) (hbA : ¬ A b) (Rel : Nat → T2 → T2 → Prop) (ok : Ok_ofBeat Rel) (n i : Nat) (hi : i + 4 ≤ L) (hn : n < 512) (ξ μ : T2) (hR : Rel n ξ μ) (kk : ∀ (ξ μ : T2) (H : Heap) (locs : List Loc) (ls : Array Slot), Rel (n + 1) ξ μ → q_W D A s.heap (wX9 k a ξ ++ wX10 k bq μ) H locs → lv_has ls 4 [(0, .ref b), (1, .ref (a 0)), (2, .ref (bq 0)), (3, .int (nI i))] → W p l e room_1 s m #[Value.ref b] below meth c H locs 600000 7302250 (lw_Z below #[Value.ref b] s) (F0 m 645 ls [])) (H : Heap) (locs : List Loc) (ls : Array Slot) (hW : q_W D A s.heap (wX9 k a ξ ++ wX10 k bq μ) H locs) (hl : lv_has ls 4 [(0, .ref b), (1, .ref (a 0)), (2, .ref (bq 0)), (3, .int (nI i))]) : W p l e room_1 s m #[Value.ref b] below meth c H locs 600000 7302250 (lw_Z below #[Value.ref b] s) (F0 m 257 ls []) := by
  obtain ⟨hx, hb, hr, hml, hts, hown, hlocks, hK, hA⟩ := id C0
  have h_1 : vp_in (nI i + (1 : Int32)) L := by
    show vp_in (nI i + nI 1) L
    rw [nI_add]
    exact vp_in_nI (by omega) (by omega)
  have h_2 : vp_in (nI i + (2 : Int32)) L := by
    show vp_in (nI i + nI 2) L
    rw [nI_add]
    exact vp_in_nI (by omega) (by omega)
  have hq := ok n ξ μ (xs ((nI i) + (1 : Int32)).toNatClampNeg) (xs ((nI i) + (2 : Int32)).toNatClampNeg) hn hR
  refine lv_aload_n hx hb dL_law_257 rfl (lv_at hl 1 rfl) ?_
  refine lv_aload_n hx hb dL_law_258 rfl (lv_at hl 0 rfl) ?_
  refine lv_iload_n hx hb dL_law_259 rfl (lv_at hl 3 rfl) ?_
  refine lv_iconst (v := (1 : Int32)) hx hb dL_law_260 (by decide) ?_
  refine lv_iadd hx hb dL_law_261 ?_
  refine va_sld hx hb hX hbl hbA hW.2.2 h_1 dL_law_262 ?_
  refine lv_aload_n hx hb dL_law_263 rfl (lv_at hl 0 rfl) ?_
  refine lv_iload_n hx hb dL_law_264 rfl (lv_at hl 3 rfl) ?_
  refine lv_iconst (v := (2 : Int32)) hx hb dL_law_265 (by decide) ?_
  refine lv_iadd hx hb dL_law_266 ?_
  refine va_sld hx hb hX hbl hbA hW.2.2 h_2 dL_law_267 ?_
  refine q_Vi (As := [.int (xs ((nI i) + (1 : Int32)).toNatClampNeg), .int (xs ((nI i) + (2 : Int32)).toNatClampNeg)]) (rest := []) (R := P_X9_ofBeat ξ (xs ((nI i) + (1 : Int32)).toNatClampNeg) (xs ((nI i) + (2 : Int32)).toNatClampNeg)) wX9_is [0, 1, 2, 3] 0 9 C0 hW (m_X9_ofBeat l D k a _ ξ (xs ((nI i) + (1 : Int32)).toNatClampNeg) (xs ((nI i) + (2 : Int32)).toNatClampNeg) hq.1) (cwV 2 hts gL_law_X9_ofBeat rfl rfl rfl hd_X9_ofBeat ⟨Nat.le_of_ble_eq_true rfl, Nat.le_of_ble_eq_true rfl⟩) wX9_nd (ap_l_pl _ _ 180 (wX9_len k a _)) rfl (by rw [List.getElem?_append_left (by rw [wX9_len]; decide)]; exact wX9_rec k a _) rfl hl rfl rfl (Nat.le_of_ble_eq_true rfl) dL_law_268 ⟨Nat.le_refl _, Nat.le_refl _⟩ ?_
  refine lv_aload_n hx hb dL_law_271 rfl (lv_at hl 2 rfl) ?_
  refine lv_aload_n hx hb dL_law_272 rfl (lv_at hl 0 rfl) ?_
  refine lv_iload_n hx hb dL_law_273 rfl (lv_at hl 3 rfl) ?_
  refine lv_iconst (v := (1 : Int32)) hx hb dL_law_274 (by decide) ?_
  refine lv_iadd hx hb dL_law_275 ?_
  refine va_sld hx hb hX hbl hbA hW.2.2 h_1 dL_law_276 ?_
  refine lv_aload_n hx hb dL_law_277 rfl (lv_at hl 0 rfl) ?_
  refine lv_iload_n hx hb dL_law_278 rfl (lv_at hl 3 rfl) ?_
  refine lv_iconst (v := (2 : Int32)) hx hb dL_law_279 (by decide) ?_
  refine lv_iadd hx hb dL_law_280 ?_
  refine va_sld hx hb hX hbl hbA hW.2.2 h_2 dL_law_281 ?_
  refine q_Vi (As := [.int (xs ((nI i) + (1 : Int32)).toNatClampNeg), .int (xs ((nI i) + (2 : Int32)).toNatClampNeg)]) (rest := [.int (P_X9_ofBeat ξ (xs ((nI i) + (1 : Int32)).toNatClampNeg) (xs ((nI i) + (2 : Int32)).toNatClampNeg))]) (R := P_X10_ofBeat μ (xs ((nI i) + (1 : Int32)).toNatClampNeg) (xs ((nI i) + (2 : Int32)).toNatClampNeg)) is_10 [0, 1, 2, 3] 180 10 C0 hW (m_X10_ofBeat l D k bq _ μ (xs ((nI i) + (1 : Int32)).toNatClampNeg) (xs ((nI i) + (2 : Int32)).toNatClampNeg) hq.2.1) (cwV 2 hts gL_law_X10_ofBeat rfl rfl rfl hd_X10_ofBeat ⟨Nat.le_of_ble_eq_true rfl, Nat.le_of_ble_eq_true rfl⟩) is_10_nd (ap_r_pl _ _ 180 9 (wX9_len k a _) (wX10_len k bq _)) rfl (by rw [List.getElem?_append_right (by rw [wX9_len]; decide), wX9_len]; exact wX10_rec k bq _) rfl hl rfl rfl (Nat.le_of_ble_eq_true rfl) dL_law_282 ⟨Nat.le_refl _, Nat.le_refl _⟩ ?_
  exact lv_icmp_eq (tgt := 645) hx hb dL_law_285 (by decide) (fun _ => kk _ _ H locs ls hq.2.2.2 hW hl) (fun hc => absurd hq.2.2.1 hc)
set_option maxHeartbeats 2000000 in
set_option maxRecDepth 100000 in
theorem law_c6 {p : Program} {e : Env} {s : State} {m : MethodId} {below : List Frame} {meth : Method} {c : Code} (l : Launch) {b L : Nat} {xs : Nat → Int32} (hL : L ≤ 2048) (D : va_G) (k : Nat → ClassId) (a bq : Nat → Nat) (A : Nat → Prop) (C0 : q_C p s m meth c #[Value.ref b] RL cL_law 4 ret wsL_law D (tyL k) A) (hX : va_X b L xs s s.heap) (hbl : b < s.heap.size) (hbA : ¬ A b) (Rel : Nat → T2 → T2 → Prop) (ok : Ok_ofBlow Rel) (n i : Nat) (hi : i + 4 ≤ L) (hn : n < 512) (ξ μ : T2) (hR : Rel n ξ μ) (kk : ∀ (ξ μ : T2) (H : Heap) (locs : List Loc) (ls : Array Slot), Rel (n + 1) ξ μ → q_W D A s.heap (wX9 k a ξ ++ wX10 k bq μ) H locs → lv_has ls 4 [(0, .ref b), (1, .ref (a 0)), (2, .ref (bq 0)), (3, .int (nI i))] → W p l e room_1 s m #[Value.ref b] below meth c H locs 600000 7302250 (lw_Z below #[Value.ref b] s) (F0 m 645 ls [])) (H : Heap) (locs : List Loc) (ls : Array Slot) (hW : q_W D A s.heap (wX9 k a ξ ++ wX10 k bq μ) H locs) (hl : lv_has ls 4 [(0, .ref b), (1, .ref (a 0)), (2, .ref (bq 0)), (3, .int (nI i))]) : W p l e room_1 s m #[Value.ref b] below meth c H locs 600000 7302250 (lw_Z below #[Value.ref b] s) (F0 m 290 ls []) := by
  obtain ⟨hx, hb, hr, hml, hts, hown, hlocks, hK, hA⟩ := id C0
  have h_1 : vp_in (nI i + (1 : Int32)) L := by
    show vp_in (nI i + nI 1) L
    rw [nI_add]
    exact vp_in_nI (by omega) (by omega)
  have h_2 : vp_in (nI i + (2 : Int32)) L := by
    show vp_in (nI i + nI 2) L
    rw [nI_add]
    exact vp_in_nI (by omega) (by omega)
  have hq := ok n ξ μ (xs ((nI i) + (1 : Int32)).toNatClampNeg) (xs ((nI i) + (2 : Int32)).toNatClampNeg) hn hR
  refine lv_aload_n hx hb dL_law_290 rfl (lv_at hl 1 rfl) ?_
  refine lv_aload_n hx hb dL_law_291 rfl (lv_at hl 0 rfl) ?_
  refine lv_iload_n hx hb dL_law_292 rfl (lv_at hl 3 rfl) ?_
  refine lv_iconst (v := (1 : Int32)) hx hb dL_law_293 (by decide) ?_
  refine lv_iadd hx hb dL_law_294 ?_
  refine va_sld hx hb hX hbl hbA hW.2.2 h_1 dL_law_295 ?_
  refine lv_aload_n hx hb dL_law_296 rfl (lv_at hl 0 rfl) ?_
  refine lv_iload_n hx hb dL_law_297 rfl (lv_at hl 3 rfl) ?_
  refine lv_iconst (v := (2 : Int32)) hx hb dL_law_298 (by decide) ?_
  refine lv_iadd hx hb dL_law_299 ?_
  refine va_sld hx hb hX hbl hbA hW.2.2 h_2 dL_law_300 ?_
  refine q_Vi (As := [.int (xs ((nI i) + (1 : Int32)).toNatClampNeg), .int (xs ((nI i) + (2 : Int32)).toNatClampNeg)]) (rest := []) (R := P_X9_ofBlow ξ (xs ((nI i) + (1 : Int32)).toNatClampNeg) (xs ((nI i) + (2 : Int32)).toNatClampNeg)) wX9_is [0, 1, 2, 3] 0 9 C0 hW (m_X9_ofBlow l D k a _ ξ (xs ((nI i) + (1 : Int32)).toNatClampNeg) (xs ((nI i) + (2 : Int32)).toNatClampNeg) hq.1) (cwV 2 hts gL_law_X9_ofBlow rfl rfl rfl hd_X9_ofBlow ⟨Nat.le_of_ble_eq_true rfl, Nat.le_of_ble_eq_true rfl⟩) wX9_nd (ap_l_pl _ _ 180 (wX9_len k a _)) rfl (by rw [List.getElem?_append_left (by rw [wX9_len]; decide)]; exact wX9_rec k a _) rfl hl rfl rfl (Nat.le_of_ble_eq_true rfl) dL_law_301 ⟨Nat.le_refl _, Nat.le_refl _⟩ ?_
  refine lv_aload_n hx hb dL_law_304 rfl (lv_at hl 2 rfl) ?_
  refine lv_aload_n hx hb dL_law_305 rfl (lv_at hl 0 rfl) ?_
  refine lv_iload_n hx hb dL_law_306 rfl (lv_at hl 3 rfl) ?_
  refine lv_iconst (v := (1 : Int32)) hx hb dL_law_307 (by decide) ?_
  refine lv_iadd hx hb dL_law_308 ?_
  refine va_sld hx hb hX hbl hbA hW.2.2 h_1 dL_law_309 ?_
  refine lv_aload_n hx hb dL_law_310 rfl (lv_at hl 0 rfl) ?_
  refine lv_iload_n hx hb dL_law_311 rfl (lv_at hl 3 rfl) ?_
  refine lv_iconst (v := (2 : Int32)) hx hb dL_law_312 (by decide) ?_
  refine lv_iadd hx hb dL_law_313 ?_
  refine va_sld hx hb hX hbl hbA hW.2.2 h_2 dL_law_314 ?_
  refine q_Vi (As := [.int (xs ((nI i) + (1 : Int32)).toNatClampNeg), .int (xs ((nI i) + (2 : Int32)).toNatClampNeg)]) (rest := [.int (P_X9_ofBlow ξ (xs ((nI i) + (1 : Int32)).toNatClampNeg) (xs ((nI i) + (2 : Int32)).toNatClampNeg))]) (R := P_X10_ofBlow μ (xs ((nI i) + (1 : Int32)).toNatClampNeg) (xs ((nI i) + (2 : Int32)).toNatClampNeg)) is_10 [0, 1, 2, 3] 180 10 C0 hW (m_X10_ofBlow l D k bq _ μ (xs ((nI i) + (1 : Int32)).toNatClampNeg) (xs ((nI i) + (2 : Int32)).toNatClampNeg) hq.2.1) (cwV 2 hts gL_law_X10_ofBlow rfl rfl rfl hd_X10_ofBlow ⟨Nat.le_of_ble_eq_true rfl, Nat.le_of_ble_eq_true rfl⟩) is_10_nd (ap_r_pl _ _ 180 9 (wX9_len k a _) (wX10_len k bq _)) rfl (by rw [List.getElem?_append_right (by rw [wX9_len]; decide), wX9_len]; exact wX10_rec k bq _) rfl hl rfl rfl (Nat.le_of_ble_eq_true rfl) dL_law_315 ⟨Nat.le_refl _, Nat.le_refl _⟩ ?_
  exact lv_icmp_eq (tgt := 645) hx hb dL_law_318 (by decide) (fun _ => kk _ _ H locs ls hq.2.2.2 hW hl) (fun hc => absurd hq.2.2.1 hc)
set_option maxHeartbeats 2000000 in
set_option maxRecDepth 100000 in
theorem law_c7 {p : Program} {e : Env} {s : State} {m : MethodId} {below : List Frame} {meth : Method} {c : Code} (l : Launch) {b L : Nat} {xs : Nat → Int32} (hL : L ≤ 2048) (D : va_G) (k : Nat → ClassId) (a bq : Nat → Nat) (A : Nat → Prop) (C0 : q_C p s m meth c #[Value.ref b] RL cL_law 4 ret wsL_law D (tyL k) A) (hX : va_X b L xs s s.heap) (hbl : b < s.heap.size) (hbA : ¬ A b) (Rel : Nat → T2 → T2 → Prop) (ok : Ok_count Rel) (n i : Nat) (hi : i + 4 ≤ L) (hn : n < 512) (ξ μ : T2) (hR : Rel n ξ μ) (kk : ∀ (ξ μ : T2) (H : Heap) (locs : List Loc) (ls : Array Slot), Rel (n + 1) ξ μ → q_W D A s.heap (wX9 k a ξ ++ wX10 k bq μ) H locs → lv_has ls 4 [(0, .ref b), (1, .ref (a 0)), (2, .ref (bq 0)), (3, .int (nI i))] → W p l e room_1 s m #[Value.ref b] below meth c H locs 600000 7302250 (lw_Z below #[Value.ref b] s) (F0 m 645 ls [])) (H : Heap) (locs : List Loc) (ls : Array Slot) (hW : q_W D A s.heap (wX9 k a ξ ++ wX10 k bq μ) H locs) (hl : lv_has ls 4 [(0, .ref b), (1, .ref (a 0)), (2, .ref (bq 0)), (3, .int (nI i))]) : W p l e room_1 s m #[Value.ref b] below meth c H locs 600000 7302250 (lw_Z below #[Value.ref b] s) (F0 m 323 ls []) := by
  obtain ⟨hx, hb, hr, hml, hts, hown, hlocks, hK, hA⟩ := id C0
  have h_1 : vp_in (nI i + (1 : Int32)) L := by
    show vp_in (nI i + nI 1) L
    rw [nI_add]
    exact vp_in_nI (by omega) (by omega)
  have hq := ok n ξ μ (xs ((nI i) + (1 : Int32)).toNatClampNeg) hn hR
  refine lv_aload_n hx hb dL_law_323 rfl (lv_at hl 1 rfl) ?_
  refine lv_aload_n hx hb dL_law_324 rfl (lv_at hl 0 rfl) ?_
  refine lv_iload_n hx hb dL_law_325 rfl (lv_at hl 3 rfl) ?_
  refine lv_iconst (v := (1 : Int32)) hx hb dL_law_326 (by decide) ?_
  refine lv_iadd hx hb dL_law_327 ?_
  refine va_sld hx hb hX hbl hbA hW.2.2 h_1 dL_law_328 ?_
  refine q_Vi (As := [.int (xs ((nI i) + (1 : Int32)).toNatClampNeg)]) (rest := []) (R := P_X9_count ξ (xs ((nI i) + (1 : Int32)).toNatClampNeg)) wX9_is [0, 1, 2, 3] 0 9 C0 hW (m_X9_count l D k a _ ξ (xs ((nI i) + (1 : Int32)).toNatClampNeg) hq.1) (cwV 1 hts gL_law_X9_count rfl rfl rfl hd_X9_count ⟨Nat.le_of_ble_eq_true rfl, Nat.le_of_ble_eq_true rfl⟩) wX9_nd (ap_l_pl _ _ 180 (wX9_len k a _)) rfl (by rw [List.getElem?_append_left (by rw [wX9_len]; decide)]; exact wX9_rec k a _) rfl hl rfl rfl (Nat.le_of_ble_eq_true rfl) dL_law_329 ⟨Nat.le_refl _, Nat.le_refl _⟩ ?_
  refine lv_aload_n hx hb dL_law_332 rfl (lv_at hl 2 rfl) ?_
  refine lv_aload_n hx hb dL_law_333 rfl (lv_at hl 0 rfl) ?_
  refine lv_iload_n hx hb dL_law_334 rfl (lv_at hl 3 rfl) ?_
  refine lv_iconst (v := (1 : Int32)) hx hb dL_law_335 (by decide) ?_
  refine lv_iadd hx hb dL_law_336 ?_
  refine va_sld hx hb hX hbl hbA hW.2.2 h_1 dL_law_337 ?_
  refine q_Vi (As := [.int (xs ((nI i) + (1 : Int32)).toNatClampNeg)]) (rest := [.int (P_X9_count ξ (xs ((nI i) + (1 : Int32)).toNatClampNeg))]) (R := P_X10_count μ (xs ((nI i) + (1 : Int32)).toNatClampNeg)) is_10 [0, 1, 2, 3] 180 10 C0 hW (m_X10_count l D k bq _ μ (xs ((nI i) + (1 : Int32)).toNatClampNeg) hq.2.1) (cwV 1 hts gL_law_X10_count rfl rfl rfl hd_X10_count ⟨Nat.le_of_ble_eq_true rfl, Nat.le_of_ble_eq_true rfl⟩) is_10_nd (ap_r_pl _ _ 180 9 (wX9_len k a _) (wX10_len k bq _)) rfl (by rw [List.getElem?_append_right (by rw [wX9_len]; decide), wX9_len]; exact wX10_rec k bq _) rfl hl rfl rfl (Nat.le_of_ble_eq_true rfl) dL_law_338 ⟨Nat.le_refl _, Nat.le_refl _⟩ ?_
  exact lv_icmp_eq (tgt := 645) hx hb dL_law_341 (by decide) (fun _ => kk _ _ H locs ls hq.2.2.2 hW hl) (fun hc => absurd hq.2.2.1 hc)
set_option maxHeartbeats 2000000 in
set_option maxRecDepth 100000 in
theorem law_c8 {p : Program} {e : Env} {s : State} {m : MethodId} {below : List Frame} {meth : Method} {c : Code} (l : Launch) {b L : Nat} {xs : Nat → Int32} (hL : L ≤ 2048) (D : va_G) (k : Nat → ClassId) (a bq : Nat → Nat) (A : Nat → Prop) (C0 : q_C p s m meth c #[Value.ref b] RL cL_law 4 ret wsL_law D (tyL k) A) (hX : va_X b L xs s s.heap) (hbl : b < s.heap.size) (hbA : ¬ A b) (Rel : Nat → T2 → T2 → Prop) (ok : Ok_slips Rel) (n i : Nat) (hi : i + 4 ≤ L) (hn : n < 512) (ξ μ : T2) (hR : Rel n ξ μ) (kk : ∀ (ξ μ : T2) (H : Heap) (locs : List Loc) (ls : Array Slot), Rel (n + 1) ξ μ → q_W D A s.heap (wX9 k a ξ ++ wX10 k bq μ) H locs → lv_has ls 4 [(0, .ref b), (1, .ref (a 0)), (2, .ref (bq 0)), (3, .int (nI i))] → W p l e room_1 s m #[Value.ref b] below meth c H locs 600000 7302250 (lw_Z below #[Value.ref b] s) (F0 m 645 ls [])) (H : Heap) (locs : List Loc) (ls : Array Slot) (hW : q_W D A s.heap (wX9 k a ξ ++ wX10 k bq μ) H locs) (hl : lv_has ls 4 [(0, .ref b), (1, .ref (a 0)), (2, .ref (bq 0)), (3, .int (nI i))]) : W p l e room_1 s m #[Value.ref b] below meth c H locs 600000 7302250 (lw_Z below #[Value.ref b] s) (F0 m 346 ls []) := by
  obtain ⟨hx, hb, hr, hml, hts, hown, hlocks, hK, hA⟩ := id C0
  have hq := ok n ξ μ  hn hR
  refine lv_aload_n hx hb dL_law_346 rfl (lv_at hl 1 rfl) ?_
  refine q_Vi (As := []) (rest := []) (R := P_X9_slips ξ) wX9_is [0, 1, 2, 3] 0 9 C0 hW (m_X9_slips l D k a _ ξ  hq.1) (cwV 0 hts gL_law_X9_slips rfl rfl rfl hd_X9_slips ⟨Nat.le_of_ble_eq_true rfl, Nat.le_of_ble_eq_true rfl⟩) wX9_nd (ap_l_pl _ _ 180 (wX9_len k a _)) rfl (by rw [List.getElem?_append_left (by rw [wX9_len]; decide)]; exact wX9_rec k a _) rfl hl rfl rfl (Nat.le_of_ble_eq_true rfl) dL_law_347 ⟨Nat.le_refl _, Nat.le_refl _⟩ ?_
  refine lv_aload_n hx hb dL_law_350 rfl (lv_at hl 2 rfl) ?_
  refine q_Vi (As := []) (rest := [.int (P_X9_slips ξ)]) (R := P_X10_slips μ) is_10 [0, 1, 2, 3] 180 10 C0 hW (m_X10_slips l D k bq _ μ  hq.2.1) (cwV 0 hts gL_law_X10_slips rfl rfl rfl hd_X10_slips ⟨Nat.le_of_ble_eq_true rfl, Nat.le_of_ble_eq_true rfl⟩) is_10_nd (ap_r_pl _ _ 180 9 (wX9_len k a _) (wX10_len k bq _)) rfl (by rw [List.getElem?_append_right (by rw [wX9_len]; decide), wX9_len]; exact wX10_rec k bq _) rfl hl rfl rfl (Nat.le_of_ble_eq_true rfl) dL_law_351 ⟨Nat.le_refl _, Nat.le_refl _⟩ ?_
  exact lv_icmp_eq (tgt := 645) hx hb dL_law_354 (by decide) (fun _ => kk _ _ H locs ls hq.2.2.2 hW hl) (fun hc => absurd hq.2.2.1 hc)
set_option maxHeartbeats 2000000 in
set_option maxRecDepth 100000 in
theorem law_c9 {p : Program} {e : Env} {s : State} {m : MethodId} {below : List Frame} {meth : Method} {c : Code} (l : Launch) {b L : Nat} {xs : Nat → Int32} (hL : L ≤ 2048) (D : va_G) (k : Nat → ClassId) (a bq : Nat → Nat) (A : Nat → Prop) (C0 : q_C p s m meth c #[Value.ref b] RL cL_law 4 ret wsL_law D (tyL k) A) (hX : va_X b L xs s s.heap) (hbl : b < s.heap.size) (hbA : ¬ A b) (Rel : Nat → T2 → T2 → Prop) (ok : Ok_nextBlow Rel) (n i : Nat) (hi : i + 4 ≤ L) (hn : n < 512) (ξ μ : T2) (hR : Rel n ξ μ) (kk : ∀ (ξ μ : T2) (H : Heap) (locs : List Loc) (ls : Array Slot), Rel (n + 1) ξ μ → q_W D A s.heap (wX9 k a ξ ++ wX10 k bq μ) H locs → lv_has ls 4 [(0, .ref b), (1, .ref (a 0)), (2, .ref (bq 0)), (3, .int (nI i))] → W p l e room_1 s m #[Value.ref b] below meth c H locs 600000 7302250 (lw_Z below #[Value.ref b] s) (F0 m 645 ls [])) (H : Heap) (locs : List Loc) (ls : Array Slot) (hW : q_W D A s.heap (wX9 k a ξ ++ wX10 k bq μ) H locs) (hl : lv_has ls 4 [(0, .ref b), (1, .ref (a 0)), (2, .ref (bq 0)), (3, .int (nI i))]) : W p l e room_1 s m #[Value.ref b] below meth c H locs 600000 7302250 (lw_Z below #[Value.ref b] s) (F0 m 359 ls []) := by
  obtain ⟨hx, hb, hr, hml, hts, hown, hlocks, hK, hA⟩ := id C0
  have h_1 : vp_in (nI i + (1 : Int32)) L := by
    show vp_in (nI i + nI 1) L
    rw [nI_add]
    exact vp_in_nI (by omega) (by omega)
  have hq := ok n ξ μ (xs ((nI i) + (1 : Int32)).toNatClampNeg) hn hR
  refine lv_aload_n hx hb dL_law_359 rfl (lv_at hl 1 rfl) ?_
  refine lv_aload_n hx hb dL_law_360 rfl (lv_at hl 0 rfl) ?_
  refine lv_iload_n hx hb dL_law_361 rfl (lv_at hl 3 rfl) ?_
  refine lv_iconst (v := (1 : Int32)) hx hb dL_law_362 (by decide) ?_
  refine lv_iadd hx hb dL_law_363 ?_
  refine va_sld hx hb hX hbl hbA hW.2.2 h_1 dL_law_364 ?_
  refine q_Vi (As := [.int (xs ((nI i) + (1 : Int32)).toNatClampNeg)]) (rest := []) (R := P_X9_nextBlow ξ (xs ((nI i) + (1 : Int32)).toNatClampNeg)) wX9_is [0, 1, 2, 3] 0 9 C0 hW (m_X9_nextBlow l D k a _ ξ (xs ((nI i) + (1 : Int32)).toNatClampNeg) hq.1) (cwV 1 hts gL_law_X9_nextBlow rfl rfl rfl hd_X9_nextBlow ⟨Nat.le_of_ble_eq_true rfl, Nat.le_of_ble_eq_true rfl⟩) wX9_nd (ap_l_pl _ _ 180 (wX9_len k a _)) rfl (by rw [List.getElem?_append_left (by rw [wX9_len]; decide)]; exact wX9_rec k a _) rfl hl rfl rfl (Nat.le_of_ble_eq_true rfl) dL_law_365 ⟨Nat.le_refl _, Nat.le_refl _⟩ ?_
  refine lv_aload_n hx hb dL_law_368 rfl (lv_at hl 2 rfl) ?_
  refine lv_aload_n hx hb dL_law_369 rfl (lv_at hl 0 rfl) ?_
  refine lv_iload_n hx hb dL_law_370 rfl (lv_at hl 3 rfl) ?_
  refine lv_iconst (v := (1 : Int32)) hx hb dL_law_371 (by decide) ?_
  refine lv_iadd hx hb dL_law_372 ?_
  refine va_sld hx hb hX hbl hbA hW.2.2 h_1 dL_law_373 ?_
  refine q_Vi (As := [.int (xs ((nI i) + (1 : Int32)).toNatClampNeg)]) (rest := [.int (P_X9_nextBlow ξ (xs ((nI i) + (1 : Int32)).toNatClampNeg))]) (R := P_X10_nextBlow μ (xs ((nI i) + (1 : Int32)).toNatClampNeg)) is_10 [0, 1, 2, 3] 180 10 C0 hW (m_X10_nextBlow l D k bq _ μ (xs ((nI i) + (1 : Int32)).toNatClampNeg) hq.2.1) (cwV 1 hts gL_law_X10_nextBlow rfl rfl rfl hd_X10_nextBlow ⟨Nat.le_of_ble_eq_true rfl, Nat.le_of_ble_eq_true rfl⟩) is_10_nd (ap_r_pl _ _ 180 9 (wX9_len k a _) (wX10_len k bq _)) rfl (by rw [List.getElem?_append_right (by rw [wX9_len]; decide), wX9_len]; exact wX10_rec k bq _) rfl hl rfl rfl (Nat.le_of_ble_eq_true rfl) dL_law_374 ⟨Nat.le_refl _, Nat.le_refl _⟩ ?_
  exact lv_icmp_eq (tgt := 645) hx hb dL_law_377 (by decide) (fun _ => kk _ _ H locs ls hq.2.2.2 hW hl) (fun hc => absurd hq.2.2.1 hc)
set_option maxHeartbeats 2000000 in
set_option maxRecDepth 100000 in
theorem law_c10 {p : Program} {e : Env} {s : State} {m : MethodId} {below : List Frame} {meth : Method} {c : Code} (l : Launch) {b L : Nat} {xs : Nat → Int32} (hL : L ≤ 2048) (D : va_G) (k : Nat → ClassId) (a bq : Nat → Nat) (A : Nat → Prop) (C0 : q_C p s m meth c #[Value.ref b] RL cL_law 4 ret wsL_law D (tyL k) A) (hX : va_X b L xs s s.heap) (hbl : b < s.heap.size) (hbA : ¬ A b) (Rel : Nat → T2 → T2 → Prop) (ok : Ok_ifHeard Rel) (n i : Nat) (hi : i + 4 ≤ L) (hn : n < 512) (ξ μ : T2) (hR : Rel n ξ μ) (kk : ∀ (ξ μ : T2) (H : Heap) (locs : List Loc) (ls : Array Slot), Rel (n + 1) ξ μ → q_W D A s.heap (wX9 k a ξ ++ wX10 k bq μ) H locs → lv_has ls 4 [(0, .ref b), (1, .ref (a 0)), (2, .ref (bq 0)), (3, .int (nI i))] → W p l e room_1 s m #[Value.ref b] below meth c H locs 600000 7302250 (lw_Z below #[Value.ref b] s) (F0 m 645 ls [])) (H : Heap) (locs : List Loc) (ls : Array Slot) (hW : q_W D A s.heap (wX9 k a ξ ++ wX10 k bq μ) H locs) (hl : lv_has ls 4 [(0, .ref b), (1, .ref (a 0)), (2, .ref (bq 0)), (3, .int (nI i))]) : W p l e room_1 s m #[Value.ref b] below meth c H locs 600000 7302250 (lw_Z below #[Value.ref b] s) (F0 m 382 ls []) := by
  obtain ⟨hx, hb, hr, hml, hts, hown, hlocks, hK, hA⟩ := id C0
  have h_1 : vp_in (nI i + (1 : Int32)) L := by
    show vp_in (nI i + nI 1) L
    rw [nI_add]
    exact vp_in_nI (by omega) (by omega)
  have hq := ok n ξ μ (xs ((nI i) + (1 : Int32)).toNatClampNeg) hn hR
  refine lv_aload_n hx hb dL_law_382 rfl (lv_at hl 1 rfl) ?_
  refine lv_aload_n hx hb dL_law_383 rfl (lv_at hl 0 rfl) ?_
  refine lv_iload_n hx hb dL_law_384 rfl (lv_at hl 3 rfl) ?_
  refine lv_iconst (v := (1 : Int32)) hx hb dL_law_385 (by decide) ?_
  refine lv_iadd hx hb dL_law_386 ?_
  refine va_sld hx hb hX hbl hbA hW.2.2 h_1 dL_law_387 ?_
  refine q_Viw (As := [.int (xs ((nI i) + (1 : Int32)).toNatClampNeg)]) (rest := []) (wf := wX9 k a) (R := P_X9_ifHeard ξ (xs ((nI i) + (1 : Int32)).toNatClampNeg)) (wd' := (wX9 k a (P_X9_ifHeard ξ (xs ((nI i) + (1 : Int32)).toNatClampNeg)).2 ++ wX10 k bq μ)) wX9_is [0, 1, 2, 3] 0 9 C0 hW (m_X9_ifHeard l D k a H.size ξ (xs ((nI i) + (1 : Int32)).toNatClampNeg) hq.1) (cwV 1 hts gL_law_X9_ifHeard rfl rfl rfl hd_X9_ifHeard ⟨Nat.le_of_ble_eq_true rfl, Nat.le_of_ble_eq_true rfl⟩) wX9_nd (ap_l_pl _ _ 180 (wX9_len k a _)) rfl (by rw [List.getElem?_append_left (by rw [wX9_len]; decide)]; exact wX9_rec k a _) rfl (wX9_fst k a _ _) (ap_l_put _ _ _ 180 (wX9_len k a _) (wX9_len k a _)) hl rfl rfl (Nat.le_of_ble_eq_true rfl) dL_law_388 ⟨Nat.le_refl _, Nat.le_refl _⟩ (fun H locs hW => ?_)
  refine lv_aload_n hx hb dL_law_391 rfl (lv_at hl 2 rfl) ?_
  refine lv_aload_n hx hb dL_law_392 rfl (lv_at hl 0 rfl) ?_
  refine lv_iload_n hx hb dL_law_393 rfl (lv_at hl 3 rfl) ?_
  refine lv_iconst (v := (1 : Int32)) hx hb dL_law_394 (by decide) ?_
  refine lv_iadd hx hb dL_law_395 ?_
  refine va_sld hx hb hX hbl hbA hW.2.2 h_1 dL_law_396 ?_
  refine q_Viw (As := [.int (xs ((nI i) + (1 : Int32)).toNatClampNeg)]) (rest := [.int (P_X9_ifHeard ξ (xs ((nI i) + (1 : Int32)).toNatClampNeg)).1]) (wf := wX10 k bq) (R := P_X10_ifHeard μ (xs ((nI i) + (1 : Int32)).toNatClampNeg)) (wd' := (wX9 k a (P_X9_ifHeard ξ (xs ((nI i) + (1 : Int32)).toNatClampNeg)).2 ++ wX10 k bq (P_X10_ifHeard μ (xs ((nI i) + (1 : Int32)).toNatClampNeg)).2)) is_10 [0, 1, 2, 3] 180 10 C0 hW (m_X10_ifHeard l D k bq H.size μ (xs ((nI i) + (1 : Int32)).toNatClampNeg) hq.2.1) (cwV 1 hts gL_law_X10_ifHeard rfl rfl rfl hd_X10_ifHeard ⟨Nat.le_of_ble_eq_true rfl, Nat.le_of_ble_eq_true rfl⟩) is_10_nd (ap_r_pl _ _ 180 9 (wX9_len k a _) (wX10_len k bq _)) rfl (by rw [List.getElem?_append_right (by rw [wX9_len]; decide), wX9_len]; exact wX10_rec k bq _) rfl (wX10_fst k bq _ _) (ap_r_put _ _ _ 180 9 (wX9_len k a _) (wX10_len k bq _) (wX10_len k bq _)) hl rfl rfl (Nat.le_of_ble_eq_true rfl) dL_law_397 ⟨Nat.le_refl _, Nat.le_refl _⟩ (fun H locs hW => ?_)
  exact lv_icmp_eq (tgt := 645) hx hb dL_law_400 (by decide) (fun _ => kk _ _ H locs ls hq.2.2.2 hW hl) (fun hc => absurd hq.2.2.1 hc)
set_option maxHeartbeats 2000000 in
set_option maxRecDepth 100000 in
theorem law_c11 {p : Program} {e : Env} {s : State} {m : MethodId} {below : List Frame} {meth : Method} {c : Code} (l : Launch) {b L : Nat} {xs : Nat → Int32} (hL : L ≤ 2048) (D : va_G) (k : Nat → ClassId) (a bq : Nat → Nat) (A : Nat → Prop) (C0 : q_C p s m meth c #[Value.ref b] RL cL_law 4 ret wsL_law D (tyL k) A) (hX : va_X b L xs s s.heap) (hbl : b < s.heap.size) (hbA : ¬ A b) (Rel : Nat → T2 → T2 → Prop) (ok : Ok_endWith Rel) (n i : Nat) (hi : i + 4 ≤ L) (hn : n < 512) (ξ μ : T2) (hR : Rel n ξ μ) (kk : ∀ (ξ μ : T2) (H : Heap) (locs : List Loc) (ls : Array Slot), Rel (n + 1) ξ μ → q_W D A s.heap (wX9 k a ξ ++ wX10 k bq μ) H locs → lv_has ls 4 [(0, .ref b), (1, .ref (a 0)), (2, .ref (bq 0)), (3, .int (nI i))] → W p l e room_1 s m #[Value.ref b] below meth c H locs 600000 7302250 (lw_Z below #[Value.ref b] s) (F0 m 645 ls [])) (H : Heap) (locs : List Loc) (ls : Array Slot) (hW : q_W D A s.heap (wX9 k a ξ ++ wX10 k bq μ) H locs) (hl : lv_has ls 4 [(0, .ref b), (1, .ref (a 0)), (2, .ref (bq 0)), (3, .int (nI i))]) : W p l e room_1 s m #[Value.ref b] below meth c H locs 600000 7302250 (lw_Z below #[Value.ref b] s) (F0 m 405 ls []) := by
  obtain ⟨hx, hb, hr, hml, hts, hown, hlocks, hK, hA⟩ := id C0
  have h_1 : vp_in (nI i + (1 : Int32)) L := by
    show vp_in (nI i + nI 1) L
    rw [nI_add]
    exact vp_in_nI (by omega) (by omega)
  have h_2 : vp_in (nI i + (2 : Int32)) L := by
    show vp_in (nI i + nI 2) L
    rw [nI_add]
    exact vp_in_nI (by omega) (by omega)
  have h_3 : vp_in (nI i + (3 : Int32)) L := by
    show vp_in (nI i + nI 3) L
    rw [nI_add]
    exact vp_in_nI (by omega) (by omega)
  have hq := ok n ξ μ (xs ((nI i) + (1 : Int32)).toNatClampNeg) (xs ((nI i) + (2 : Int32)).toNatClampNeg) (xs ((nI i) + (3 : Int32)).toNatClampNeg) hn hR
  refine lv_aload_n hx hb dL_law_405 rfl (lv_at hl 1 rfl) ?_
  refine lv_aload_n hx hb dL_law_406 rfl (lv_at hl 0 rfl) ?_
  refine lv_iload_n hx hb dL_law_407 rfl (lv_at hl 3 rfl) ?_
  refine lv_iconst (v := (1 : Int32)) hx hb dL_law_408 (by decide) ?_
  refine lv_iadd hx hb dL_law_409 ?_
  refine va_sld hx hb hX hbl hbA hW.2.2 h_1 dL_law_410 ?_
  refine lv_aload_n hx hb dL_law_411 rfl (lv_at hl 0 rfl) ?_
  refine lv_iload_n hx hb dL_law_412 rfl (lv_at hl 3 rfl) ?_
  refine lv_iconst (v := (2 : Int32)) hx hb dL_law_413 (by decide) ?_
  refine lv_iadd hx hb dL_law_414 ?_
  refine va_sld hx hb hX hbl hbA hW.2.2 h_2 dL_law_415 ?_
  refine lv_aload_n hx hb dL_law_416 rfl (lv_at hl 0 rfl) ?_
  refine lv_iload_n hx hb dL_law_417 rfl (lv_at hl 3 rfl) ?_
  refine lv_iconst (v := (3 : Int32)) hx hb dL_law_418 (by decide) ?_
  refine lv_iadd hx hb dL_law_419 ?_
  refine va_sld hx hb hX hbl hbA hW.2.2 h_3 dL_law_420 ?_
  refine q_Viw (As := [.int (xs ((nI i) + (1 : Int32)).toNatClampNeg), .int (xs ((nI i) + (2 : Int32)).toNatClampNeg), .int (xs ((nI i) + (3 : Int32)).toNatClampNeg)]) (rest := []) (wf := wX9 k a) (R := P_X9_endWith ξ (xs ((nI i) + (1 : Int32)).toNatClampNeg) (xs ((nI i) + (2 : Int32)).toNatClampNeg) (xs ((nI i) + (3 : Int32)).toNatClampNeg)) (wd' := (wX9 k a (P_X9_endWith ξ (xs ((nI i) + (1 : Int32)).toNatClampNeg) (xs ((nI i) + (2 : Int32)).toNatClampNeg) (xs ((nI i) + (3 : Int32)).toNatClampNeg)).2 ++ wX10 k bq μ)) wX9_is [0, 1, 2, 3] 0 9 C0 hW (m_X9_endWith l D k a H.size ξ (xs ((nI i) + (1 : Int32)).toNatClampNeg) (xs ((nI i) + (2 : Int32)).toNatClampNeg) (xs ((nI i) + (3 : Int32)).toNatClampNeg) hq.1) (cwV 3 hts gL_law_X9_endWith rfl rfl rfl hd_X9_endWith ⟨Nat.le_of_ble_eq_true rfl, Nat.le_of_ble_eq_true rfl⟩) wX9_nd (ap_l_pl _ _ 180 (wX9_len k a _)) rfl (by rw [List.getElem?_append_left (by rw [wX9_len]; decide)]; exact wX9_rec k a _) rfl (wX9_fst k a _ _) (ap_l_put _ _ _ 180 (wX9_len k a _) (wX9_len k a _)) hl rfl rfl (Nat.le_of_ble_eq_true rfl) dL_law_421 ⟨Nat.le_refl _, Nat.le_refl _⟩ (fun H locs hW => ?_)
  refine lv_aload_n hx hb dL_law_424 rfl (lv_at hl 2 rfl) ?_
  refine lv_aload_n hx hb dL_law_425 rfl (lv_at hl 0 rfl) ?_
  refine lv_iload_n hx hb dL_law_426 rfl (lv_at hl 3 rfl) ?_
  refine lv_iconst (v := (1 : Int32)) hx hb dL_law_427 (by decide) ?_
  refine lv_iadd hx hb dL_law_428 ?_
  refine va_sld hx hb hX hbl hbA hW.2.2 h_1 dL_law_429 ?_
  refine lv_aload_n hx hb dL_law_430 rfl (lv_at hl 0 rfl) ?_
  refine lv_iload_n hx hb dL_law_431 rfl (lv_at hl 3 rfl) ?_
  refine lv_iconst (v := (2 : Int32)) hx hb dL_law_432 (by decide) ?_
  refine lv_iadd hx hb dL_law_433 ?_
  refine va_sld hx hb hX hbl hbA hW.2.2 h_2 dL_law_434 ?_
  refine lv_aload_n hx hb dL_law_435 rfl (lv_at hl 0 rfl) ?_
  refine lv_iload_n hx hb dL_law_436 rfl (lv_at hl 3 rfl) ?_
  refine lv_iconst (v := (3 : Int32)) hx hb dL_law_437 (by decide) ?_
  refine lv_iadd hx hb dL_law_438 ?_
  refine va_sld hx hb hX hbl hbA hW.2.2 h_3 dL_law_439 ?_
  refine q_Viw (As := [.int (xs ((nI i) + (1 : Int32)).toNatClampNeg), .int (xs ((nI i) + (2 : Int32)).toNatClampNeg), .int (xs ((nI i) + (3 : Int32)).toNatClampNeg)]) (rest := [.int (P_X9_endWith ξ (xs ((nI i) + (1 : Int32)).toNatClampNeg) (xs ((nI i) + (2 : Int32)).toNatClampNeg) (xs ((nI i) + (3 : Int32)).toNatClampNeg)).1]) (wf := wX10 k bq) (R := P_X10_endWith μ (xs ((nI i) + (1 : Int32)).toNatClampNeg) (xs ((nI i) + (2 : Int32)).toNatClampNeg) (xs ((nI i) + (3 : Int32)).toNatClampNeg)) (wd' := (wX9 k a (P_X9_endWith ξ (xs ((nI i) + (1 : Int32)).toNatClampNeg) (xs ((nI i) + (2 : Int32)).toNatClampNeg) (xs ((nI i) + (3 : Int32)).toNatClampNeg)).2 ++ wX10 k bq (P_X10_endWith μ (xs ((nI i) + (1 : Int32)).toNatClampNeg) (xs ((nI i) + (2 : Int32)).toNatClampNeg) (xs ((nI i) + (3 : Int32)).toNatClampNeg)).2)) is_10 [0, 1, 2, 3] 180 10 C0 hW (m_X10_endWith l D k bq H.size μ (xs ((nI i) + (1 : Int32)).toNatClampNeg) (xs ((nI i) + (2 : Int32)).toNatClampNeg) (xs ((nI i) + (3 : Int32)).toNatClampNeg) hq.2.1) (cwV 3 hts gL_law_X10_endWith rfl rfl rfl hd_X10_endWith ⟨Nat.le_of_ble_eq_true rfl, Nat.le_of_ble_eq_true rfl⟩) is_10_nd (ap_r_pl _ _ 180 9 (wX9_len k a _) (wX10_len k bq _)) rfl (by rw [List.getElem?_append_right (by rw [wX9_len]; decide), wX9_len]; exact wX10_rec k bq _) rfl (wX10_fst k bq _ _) (ap_r_put _ _ _ 180 9 (wX9_len k a _) (wX10_len k bq _) (wX10_len k bq _)) hl rfl rfl (Nat.le_of_ble_eq_true rfl) dL_law_440 ⟨Nat.le_refl _, Nat.le_refl _⟩ (fun H locs hW => ?_)
  exact lv_icmp_eq (tgt := 645) hx hb dL_law_443 (by decide) (fun _ => kk _ _ H locs ls hq.2.2.2 hW hl) (fun hc => absurd hq.2.2.1 hc)
set_option maxHeartbeats 2000000 in
set_option maxRecDepth 100000 in
theorem law_c12 {p : Program} {e : Env} {s : State} {m : MethodId} {below : List Frame} {meth : Method} {c : Code} (l : Launch) {b L : Nat} {xs : Nat → Int32} (hL : L ≤ 2048) (D : va_G) (k : Nat → ClassId) (a bq : Nat → Nat) (A : Nat → Prop) (C0 : q_C p s m meth c #[Value.ref b] RL cL_law 4 ret wsL_law D (tyL k) A) (hX : va_X b L xs s s.heap) (hbl : b < s.heap.size) (hbA : ¬ A b) (Rel : Nat → T2 → T2 → Prop) (ok : Ok_bestNudge Rel) (n i : Nat) (hi : i + 4 ≤ L) (hn : n < 512) (ξ μ : T2) (hR : Rel n ξ μ) (kk : ∀ (ξ μ : T2) (H : Heap) (locs : List Loc) (ls : Array Slot), Rel (n + 1) ξ μ → q_W D A s.heap (wX9 k a ξ ++ wX10 k bq μ) H locs → lv_has ls 4 [(0, .ref b), (1, .ref (a 0)), (2, .ref (bq 0)), (3, .int (nI i))] → W p l e room_1 s m #[Value.ref b] below meth c H locs 600000 7302250 (lw_Z below #[Value.ref b] s) (F0 m 645 ls [])) (H : Heap) (locs : List Loc) (ls : Array Slot) (hW : q_W D A s.heap (wX9 k a ξ ++ wX10 k bq μ) H locs) (hl : lv_has ls 4 [(0, .ref b), (1, .ref (a 0)), (2, .ref (bq 0)), (3, .int (nI i))]) : W p l e room_1 s m #[Value.ref b] below meth c H locs 600000 7302250 (lw_Z below #[Value.ref b] s) (F0 m 448 ls []) := by
  obtain ⟨hx, hb, hr, hml, hts, hown, hlocks, hK, hA⟩ := id C0
  have h_1 : vp_in (nI i + (1 : Int32)) L := by
    show vp_in (nI i + nI 1) L
    rw [nI_add]
    exact vp_in_nI (by omega) (by omega)
  have hq := ok n ξ μ (xs ((nI i) + (1 : Int32)).toNatClampNeg) hn hR
  refine lv_aload_n hx hb dL_law_448 rfl (lv_at hl 1 rfl) ?_
  refine lv_aload_n hx hb dL_law_449 rfl (lv_at hl 0 rfl) ?_
  refine lv_iload_n hx hb dL_law_450 rfl (lv_at hl 3 rfl) ?_
  refine lv_iconst (v := (1 : Int32)) hx hb dL_law_451 (by decide) ?_
  refine lv_iadd hx hb dL_law_452 ?_
  refine va_sld hx hb hX hbl hbA hW.2.2 h_1 dL_law_453 ?_
  refine q_Viw (As := [.int (xs ((nI i) + (1 : Int32)).toNatClampNeg)]) (rest := []) (wf := wX9 k a) (R := P_X9_bestNudge ξ (xs ((nI i) + (1 : Int32)).toNatClampNeg)) (wd' := (wX9 k a (P_X9_bestNudge ξ (xs ((nI i) + (1 : Int32)).toNatClampNeg)).2 ++ wX10 k bq μ)) wX9_is [0, 1, 2, 3] 0 9 C0 hW (m_X9_bestNudge l D k a H.size ξ (xs ((nI i) + (1 : Int32)).toNatClampNeg) hq.1) (cwV 1 hts gL_law_X9_bestNudge rfl rfl rfl hd_X9_bestNudge ⟨Nat.le_of_ble_eq_true rfl, Nat.le_of_ble_eq_true rfl⟩) wX9_nd (ap_l_pl _ _ 180 (wX9_len k a _)) rfl (by rw [List.getElem?_append_left (by rw [wX9_len]; decide)]; exact wX9_rec k a _) rfl (wX9_fst k a _ _) (ap_l_put _ _ _ 180 (wX9_len k a _) (wX9_len k a _)) hl rfl rfl (Nat.le_of_ble_eq_true rfl) dL_law_454 ⟨Nat.le_refl _, Nat.le_refl _⟩ (fun H locs hW => ?_)
  refine lv_aload_n hx hb dL_law_457 rfl (lv_at hl 2 rfl) ?_
  refine lv_aload_n hx hb dL_law_458 rfl (lv_at hl 0 rfl) ?_
  refine lv_iload_n hx hb dL_law_459 rfl (lv_at hl 3 rfl) ?_
  refine lv_iconst (v := (1 : Int32)) hx hb dL_law_460 (by decide) ?_
  refine lv_iadd hx hb dL_law_461 ?_
  refine va_sld hx hb hX hbl hbA hW.2.2 h_1 dL_law_462 ?_
  refine q_Viw (As := [.int (xs ((nI i) + (1 : Int32)).toNatClampNeg)]) (rest := [.int (P_X9_bestNudge ξ (xs ((nI i) + (1 : Int32)).toNatClampNeg)).1]) (wf := wX10 k bq) (R := P_X10_bestNudge μ (xs ((nI i) + (1 : Int32)).toNatClampNeg)) (wd' := (wX9 k a (P_X9_bestNudge ξ (xs ((nI i) + (1 : Int32)).toNatClampNeg)).2 ++ wX10 k bq (P_X10_bestNudge μ (xs ((nI i) + (1 : Int32)).toNatClampNeg)).2)) is_10 [0, 1, 2, 3] 180 10 C0 hW (m_X10_bestNudge l D k bq H.size μ (xs ((nI i) + (1 : Int32)).toNatClampNeg) hq.2.1) (cwV 1 hts gL_law_X10_bestNudge rfl rfl rfl hd_X10_bestNudge ⟨Nat.le_of_ble_eq_true rfl, Nat.le_of_ble_eq_true rfl⟩) is_10_nd (ap_r_pl _ _ 180 9 (wX9_len k a _) (wX10_len k bq _)) rfl (by rw [List.getElem?_append_right (by rw [wX9_len]; decide), wX9_len]; exact wX10_rec k bq _) rfl (wX10_fst k bq _ _) (ap_r_put _ _ _ 180 9 (wX9_len k a _) (wX10_len k bq _) (wX10_len k bq _)) hl rfl rfl (Nat.le_of_ble_eq_true rfl) dL_law_463 ⟨Nat.le_refl _, Nat.le_refl _⟩ (fun H locs hW => ?_)
  exact lv_icmp_eq (tgt := 645) hx hb dL_law_466 (by decide) (fun _ => kk _ _ H locs ls hq.2.2.2 hW hl) (fun hc => absurd hq.2.2.1 hc)
set_option maxHeartbeats 2000000 in
set_option maxRecDepth 100000 in
theorem law_c13 {p : Program} {e : Env} {s : State} {m : MethodId} {below : List Frame} {meth : Method} {c : Code} (l : Launch) {b L : Nat} {xs : Nat → Int32} (hL : L ≤ 2048) (D : va_G) (k : Nat → ClassId) (a bq : Nat → Nat) (A : Nat → Prop) (C0 : q_C p s m meth c #[Value.ref b] RL cL_law 4 ret wsL_law D (tyL k) A) (hX : va_X b L xs s s.heap) (hbl : b < s.heap.size) (hbA : ¬ A b) (Rel : Nat → T2 → T2 → Prop) (ok : Ok_worstBeat Rel) (n i : Nat) (hi : i + 4 ≤ L) (hn : n < 512) (ξ μ : T2) (hR : Rel n ξ μ) (kk : ∀ (ξ μ : T2) (H : Heap) (locs : List Loc) (ls : Array Slot), Rel (n + 1) ξ μ → q_W D A s.heap (wX9 k a ξ ++ wX10 k bq μ) H locs → lv_has ls 4 [(0, .ref b), (1, .ref (a 0)), (2, .ref (bq 0)), (3, .int (nI i))] → W p l e room_1 s m #[Value.ref b] below meth c H locs 600000 7302250 (lw_Z below #[Value.ref b] s) (F0 m 645 ls [])) (H : Heap) (locs : List Loc) (ls : Array Slot) (hW : q_W D A s.heap (wX9 k a ξ ++ wX10 k bq μ) H locs) (hl : lv_has ls 4 [(0, .ref b), (1, .ref (a 0)), (2, .ref (bq 0)), (3, .int (nI i))]) : W p l e room_1 s m #[Value.ref b] below meth c H locs 600000 7302250 (lw_Z below #[Value.ref b] s) (F0 m 471 ls []) := by
  obtain ⟨hx, hb, hr, hml, hts, hown, hlocks, hK, hA⟩ := id C0
  have h_1 : vp_in (nI i + (1 : Int32)) L := by
    show vp_in (nI i + nI 1) L
    rw [nI_add]
    exact vp_in_nI (by omega) (by omega)
  have hq := ok n ξ μ (xs ((nI i) + (1 : Int32)).toNatClampNeg) hn hR
  refine lv_aload_n hx hb dL_law_471 rfl (lv_at hl 1 rfl) ?_
  refine lv_aload_n hx hb dL_law_472 rfl (lv_at hl 0 rfl) ?_
  refine lv_iload_n hx hb dL_law_473 rfl (lv_at hl 3 rfl) ?_
  refine lv_iconst (v := (1 : Int32)) hx hb dL_law_474 (by decide) ?_
  refine lv_iadd hx hb dL_law_475 ?_
  refine va_sld hx hb hX hbl hbA hW.2.2 h_1 dL_law_476 ?_
  refine q_Viw (As := [.int (xs ((nI i) + (1 : Int32)).toNatClampNeg)]) (rest := []) (wf := wX9 k a) (R := P_X9_worstBeat ξ (xs ((nI i) + (1 : Int32)).toNatClampNeg)) (wd' := (wX9 k a (P_X9_worstBeat ξ (xs ((nI i) + (1 : Int32)).toNatClampNeg)).2 ++ wX10 k bq μ)) wX9_is [0, 1, 2, 3] 0 9 C0 hW (m_X9_worstBeat l D k a H.size ξ (xs ((nI i) + (1 : Int32)).toNatClampNeg) hq.1) (cwV 1 hts gL_law_X9_worstBeat rfl rfl rfl hd_X9_worstBeat ⟨Nat.le_of_ble_eq_true rfl, Nat.le_of_ble_eq_true rfl⟩) wX9_nd (ap_l_pl _ _ 180 (wX9_len k a _)) rfl (by rw [List.getElem?_append_left (by rw [wX9_len]; decide)]; exact wX9_rec k a _) rfl (wX9_fst k a _ _) (ap_l_put _ _ _ 180 (wX9_len k a _) (wX9_len k a _)) hl rfl rfl (Nat.le_of_ble_eq_true rfl) dL_law_477 ⟨Nat.le_refl _, Nat.le_refl _⟩ (fun H locs hW => ?_)
  refine lv_aload_n hx hb dL_law_480 rfl (lv_at hl 2 rfl) ?_
  refine lv_aload_n hx hb dL_law_481 rfl (lv_at hl 0 rfl) ?_
  refine lv_iload_n hx hb dL_law_482 rfl (lv_at hl 3 rfl) ?_
  refine lv_iconst (v := (1 : Int32)) hx hb dL_law_483 (by decide) ?_
  refine lv_iadd hx hb dL_law_484 ?_
  refine va_sld hx hb hX hbl hbA hW.2.2 h_1 dL_law_485 ?_
  refine q_Viw (As := [.int (xs ((nI i) + (1 : Int32)).toNatClampNeg)]) (rest := [.int (P_X9_worstBeat ξ (xs ((nI i) + (1 : Int32)).toNatClampNeg)).1]) (wf := wX10 k bq) (R := P_X10_worstBeat μ (xs ((nI i) + (1 : Int32)).toNatClampNeg)) (wd' := (wX9 k a (P_X9_worstBeat ξ (xs ((nI i) + (1 : Int32)).toNatClampNeg)).2 ++ wX10 k bq (P_X10_worstBeat μ (xs ((nI i) + (1 : Int32)).toNatClampNeg)).2)) is_10 [0, 1, 2, 3] 180 10 C0 hW (m_X10_worstBeat l D k bq H.size μ (xs ((nI i) + (1 : Int32)).toNatClampNeg) hq.2.1) (cwV 1 hts gL_law_X10_worstBeat rfl rfl rfl hd_X10_worstBeat ⟨Nat.le_of_ble_eq_true rfl, Nat.le_of_ble_eq_true rfl⟩) is_10_nd (ap_r_pl _ _ 180 9 (wX9_len k a _) (wX10_len k bq _)) rfl (by rw [List.getElem?_append_right (by rw [wX9_len]; decide), wX9_len]; exact wX10_rec k bq _) rfl (wX10_fst k bq _ _) (ap_r_put _ _ _ 180 9 (wX9_len k a _) (wX10_len k bq _) (wX10_len k bq _)) hl rfl rfl (Nat.le_of_ble_eq_true rfl) dL_law_486 ⟨Nat.le_refl _, Nat.le_refl _⟩ (fun H locs hW => ?_)
  exact lv_icmp_eq (tgt := 645) hx hb dL_law_489 (by decide) (fun _ => kk _ _ H locs ls hq.2.2.2 hW hl) (fun hc => absurd hq.2.2.1 hc)
set_option maxHeartbeats 2000000 in
set_option maxRecDepth 100000 in
theorem law_c14 {p : Program} {e : Env} {s : State} {m : MethodId} {below : List Frame} {meth : Method} {c : Code} (l : Launch) {b L : Nat} {xs : Nat → Int32} (hL : L ≤ 2048) (D : va_G) (k : Nat → ClassId) (a bq : Nat → Nat) (A : Nat → Prop) (C0 : q_C p s m meth c #[Value.ref b] RL cL_law 4 ret wsL_law D (tyL k) A) (hX : va_X b L xs s s.heap) (hbl : b < s.heap.size) (hbA : ¬ A b) (Rel : Nat → T2 → T2 → Prop) (ok : Ok_put Rel) (n i : Nat) (hi : i + 4 ≤ L) (hn : n < 512) (ξ μ : T2) (hR : Rel n ξ μ) (kk : ∀ (ξ μ : T2) (H : Heap) (locs : List Loc) (ls : Array Slot), Rel (n + 1) ξ μ → q_W D A s.heap (wX9 k a ξ ++ wX10 k bq μ) H locs → lv_has ls 4 [(0, .ref b), (1, .ref (a 0)), (2, .ref (bq 0)), (3, .int (nI i))] → W p l e room_1 s m #[Value.ref b] below meth c H locs 600000 7302250 (lw_Z below #[Value.ref b] s) (F0 m 645 ls [])) (H : Heap) (locs : List Loc) (ls : Array Slot) (hW : q_W D A s.heap (wX9 k a ξ ++ wX10 k bq μ) H locs) (hl : lv_has ls 4 [(0, .ref b), (1, .ref (a 0)), (2, .ref (bq 0)), (3, .int (nI i))]) : W p l e room_1 s m #[Value.ref b] below meth c H locs 600000 7302250 (lw_Z below #[Value.ref b] s) (F0 m 494 ls []) := by
  obtain ⟨hx, hb, hr, hml, hts, hown, hlocks, hK, hA⟩ := id C0
  have h_1 : vp_in (nI i + (1 : Int32)) L := by
    show vp_in (nI i + nI 1) L
    rw [nI_add]
    exact vp_in_nI (by omega) (by omega)
  have h_2 : vp_in (nI i + (2 : Int32)) L := by
    show vp_in (nI i + nI 2) L
    rw [nI_add]
    exact vp_in_nI (by omega) (by omega)
  have hq := ok n ξ μ (((xs ((nI i) + (1 : Int32)).toNatClampNeg).toInt64 <<< ((32 : Int32).toInt64 &&& 63)) ||| ((xs ((nI i) + (2 : Int32)).toNatClampNeg).toInt64 &&& (4294967295 : Int64))) hn hR
  refine lv_aload_n hx hb dL_law_494 rfl (lv_at hl 1 rfl) ?_
  refine lv_aload_n hx hb dL_law_495 rfl (lv_at hl 0 rfl) ?_
  refine lv_iload_n hx hb dL_law_496 rfl (lv_at hl 3 rfl) ?_
  refine lv_iconst (v := (1 : Int32)) hx hb dL_law_497 (by decide) ?_
  refine lv_iadd hx hb dL_law_498 ?_
  refine va_sld hx hb hX hbl hbA hW.2.2 h_1 dL_law_499 ?_
  refine lv_i2l (v := (xs ((nI i) + (1 : Int32)).toNatClampNeg).toInt64) hx hb dL_law_500 rfl ?_
  refine lv_bipush (v := (32 : Int32)) hx hb dL_law_501 (by decide) ?_
  refine lv_lshl (v := ((xs ((nI i) + (1 : Int32)).toNatClampNeg).toInt64 <<< ((32 : Int32).toInt64 &&& 63))) hx hb dL_law_503 rfl ?_
  refine lv_aload_n hx hb dL_law_504 rfl (lv_at hl 0 rfl) ?_
  refine lv_iload_n hx hb dL_law_505 rfl (lv_at hl 3 rfl) ?_
  refine lv_iconst (v := (2 : Int32)) hx hb dL_law_506 (by decide) ?_
  refine lv_iadd hx hb dL_law_507 ?_
  refine va_sld hx hb hX hbl hbA hW.2.2 h_2 dL_law_508 ?_
  refine lv_i2l (v := (xs ((nI i) + (2 : Int32)).toNatClampNeg).toInt64) hx hb dL_law_509 rfl ?_
  refine lv_ldc2 (v := (4294967295 : Int64)) hx hb hown (hts (.constantLong RL 73 (4294967295)) (by decide +kernel)) dL_law_510 ?_
  refine lv_land hx hb dL_law_513 ?_
  refine lv_lor hx hb dL_law_514 ?_
  refine q_Viw (As := [.long (((xs ((nI i) + (1 : Int32)).toNatClampNeg).toInt64 <<< ((32 : Int32).toInt64 &&& 63)) ||| ((xs ((nI i) + (2 : Int32)).toNatClampNeg).toInt64 &&& (4294967295 : Int64)))]) (rest := []) (wf := wX9 k a) (R := P_X9_put ξ (((xs ((nI i) + (1 : Int32)).toNatClampNeg).toInt64 <<< ((32 : Int32).toInt64 &&& 63)) ||| ((xs ((nI i) + (2 : Int32)).toNatClampNeg).toInt64 &&& (4294967295 : Int64)))) (wd' := (wX9 k a (P_X9_put ξ (((xs ((nI i) + (1 : Int32)).toNatClampNeg).toInt64 <<< ((32 : Int32).toInt64 &&& 63)) ||| ((xs ((nI i) + (2 : Int32)).toNatClampNeg).toInt64 &&& (4294967295 : Int64)))).2 ++ wX10 k bq μ)) wX9_is [0, 1, 2, 3] 0 9 C0 hW (m_X9_put l D k a H.size ξ (((xs ((nI i) + (1 : Int32)).toNatClampNeg).toInt64 <<< ((32 : Int32).toInt64 &&& 63)) ||| ((xs ((nI i) + (2 : Int32)).toNatClampNeg).toInt64 &&& (4294967295 : Int64))) hq.1) (cwV 1 hts gL_law_X9_put rfl rfl rfl hd_X9_put ⟨Nat.le_of_ble_eq_true rfl, Nat.le_of_ble_eq_true rfl⟩) wX9_nd (ap_l_pl _ _ 180 (wX9_len k a _)) rfl (by rw [List.getElem?_append_left (by rw [wX9_len]; decide)]; exact wX9_rec k a _) rfl (wX9_fst k a _ _) (ap_l_put _ _ _ 180 (wX9_len k a _) (wX9_len k a _)) hl rfl rfl (Nat.le_of_ble_eq_true rfl) dL_law_515 ⟨Nat.le_refl _, Nat.le_refl _⟩ (fun H locs hW => ?_)
  refine lv_aload_n hx hb dL_law_518 rfl (lv_at hl 2 rfl) ?_
  refine lv_aload_n hx hb dL_law_519 rfl (lv_at hl 0 rfl) ?_
  refine lv_iload_n hx hb dL_law_520 rfl (lv_at hl 3 rfl) ?_
  refine lv_iconst (v := (1 : Int32)) hx hb dL_law_521 (by decide) ?_
  refine lv_iadd hx hb dL_law_522 ?_
  refine va_sld hx hb hX hbl hbA hW.2.2 h_1 dL_law_523 ?_
  refine lv_i2l (v := (xs ((nI i) + (1 : Int32)).toNatClampNeg).toInt64) hx hb dL_law_524 rfl ?_
  refine lv_bipush (v := (32 : Int32)) hx hb dL_law_525 (by decide) ?_
  refine lv_lshl (v := ((xs ((nI i) + (1 : Int32)).toNatClampNeg).toInt64 <<< ((32 : Int32).toInt64 &&& 63))) hx hb dL_law_527 rfl ?_
  refine lv_aload_n hx hb dL_law_528 rfl (lv_at hl 0 rfl) ?_
  refine lv_iload_n hx hb dL_law_529 rfl (lv_at hl 3 rfl) ?_
  refine lv_iconst (v := (2 : Int32)) hx hb dL_law_530 (by decide) ?_
  refine lv_iadd hx hb dL_law_531 ?_
  refine va_sld hx hb hX hbl hbA hW.2.2 h_2 dL_law_532 ?_
  refine lv_i2l (v := (xs ((nI i) + (2 : Int32)).toNatClampNeg).toInt64) hx hb dL_law_533 rfl ?_
  refine lv_ldc2 (v := (4294967295 : Int64)) hx hb hown (hts (.constantLong RL 73 (4294967295)) (by decide +kernel)) dL_law_534 ?_
  refine lv_land hx hb dL_law_537 ?_
  refine lv_lor hx hb dL_law_538 ?_
  refine q_Viw (As := [.long (((xs ((nI i) + (1 : Int32)).toNatClampNeg).toInt64 <<< ((32 : Int32).toInt64 &&& 63)) ||| ((xs ((nI i) + (2 : Int32)).toNatClampNeg).toInt64 &&& (4294967295 : Int64)))]) (rest := [.int (P_X9_put ξ (((xs ((nI i) + (1 : Int32)).toNatClampNeg).toInt64 <<< ((32 : Int32).toInt64 &&& 63)) ||| ((xs ((nI i) + (2 : Int32)).toNatClampNeg).toInt64 &&& (4294967295 : Int64)))).1]) (wf := wX10 k bq) (R := P_X10_put μ (((xs ((nI i) + (1 : Int32)).toNatClampNeg).toInt64 <<< ((32 : Int32).toInt64 &&& 63)) ||| ((xs ((nI i) + (2 : Int32)).toNatClampNeg).toInt64 &&& (4294967295 : Int64)))) (wd' := (wX9 k a (P_X9_put ξ (((xs ((nI i) + (1 : Int32)).toNatClampNeg).toInt64 <<< ((32 : Int32).toInt64 &&& 63)) ||| ((xs ((nI i) + (2 : Int32)).toNatClampNeg).toInt64 &&& (4294967295 : Int64)))).2 ++ wX10 k bq (P_X10_put μ (((xs ((nI i) + (1 : Int32)).toNatClampNeg).toInt64 <<< ((32 : Int32).toInt64 &&& 63)) ||| ((xs ((nI i) + (2 : Int32)).toNatClampNeg).toInt64 &&& (4294967295 : Int64)))).2)) is_10 [0, 1, 2, 3] 180 10 C0 hW (m_X10_put l D k bq H.size μ (((xs ((nI i) + (1 : Int32)).toNatClampNeg).toInt64 <<< ((32 : Int32).toInt64 &&& 63)) ||| ((xs ((nI i) + (2 : Int32)).toNatClampNeg).toInt64 &&& (4294967295 : Int64))) hq.2.1) (cwV 1 hts gL_law_X10_put rfl rfl rfl hd_X10_put ⟨Nat.le_of_ble_eq_true rfl, Nat.le_of_ble_eq_true rfl⟩) is_10_nd (ap_r_pl _ _ 180 9 (wX9_len k a _) (wX10_len k bq _)) rfl (by rw [List.getElem?_append_right (by rw [wX9_len]; decide), wX9_len]; exact wX10_rec k bq _) rfl (wX10_fst k bq _ _) (ap_r_put _ _ _ 180 9 (wX9_len k a _) (wX10_len k bq _) (wX10_len k bq _)) hl rfl rfl (Nat.le_of_ble_eq_true rfl) dL_law_539 ⟨Nat.le_refl _, Nat.le_refl _⟩ (fun H locs hW => ?_)
  exact lv_icmp_eq (tgt := 645) hx hb dL_law_542 (by decide) (fun _ => kk _ _ H locs ls hq.2.2.2 hW hl) (fun hc => absurd hq.2.2.1 hc)
set_option maxHeartbeats 2000000 in
set_option maxRecDepth 100000 in
theorem law_c15 {p : Program} {e : Env} {s : State} {m : MethodId} {below : List Frame} {meth : Method} {c : Code} (l : Launch) {b L : Nat} {xs : Nat → Int32} (hL : L ≤ 2048) (D : va_G) (k : Nat → ClassId) (a bq : Nat → Nat) (A : Nat → Prop) (C0 : q_C p s m meth c #[Value.ref b] RL cL_law 4 ret wsL_law D (tyL k) A) (hX : va_X b L xs s s.heap) (hbl : b < s.heap.size) (hbA : ¬ A b) (Rel : Nat → T2 → T2 → Prop) (ok : Ok_wipe Rel) (n i : Nat) (hi : i + 4 ≤ L) (hn : n < 512) (ξ μ : T2) (hR : Rel n ξ μ) (kk : ∀ (ξ μ : T2) (H : Heap) (locs : List Loc) (ls : Array Slot), Rel (n + 1) ξ μ → q_W D A s.heap (wX9 k a ξ ++ wX10 k bq μ) H locs → lv_has ls 4 [(0, .ref b), (1, .ref (a 0)), (2, .ref (bq 0)), (3, .int (nI i))] → W p l e room_1 s m #[Value.ref b] below meth c H locs 600000 7302250 (lw_Z below #[Value.ref b] s) (F0 m 645 ls [])) (H : Heap) (locs : List Loc) (ls : Array Slot) (hW : q_W D A s.heap (wX9 k a ξ ++ wX10 k bq μ) H locs) (hl : lv_has ls 4 [(0, .ref b), (1, .ref (a 0)), (2, .ref (bq 0)), (3, .int (nI i))]) : W p l e room_1 s m #[Value.ref b] below meth c H locs 600000 7302250 (lw_Z below #[Value.ref b] s) (F0 m 547 ls []) := by
  obtain ⟨hx, hb, hr, hml, hts, hown, hlocks, hK, hA⟩ := id C0
  have hq := ok n ξ μ  hn hR
  refine lv_aload_n hx hb dL_law_547 rfl (lv_at hl 1 rfl) ?_
  refine q_Viw (As := []) (rest := []) (wf := wX9 k a) (R := P_X9_wipe ξ) (wd' := (wX9 k a (P_X9_wipe ξ).2 ++ wX10 k bq μ)) wX9_is [0, 1, 2, 3] 0 9 C0 hW (m_X9_wipe l D k a H.size ξ  hq.1) (cwV 0 hts gL_law_X9_wipe rfl rfl rfl hd_X9_wipe ⟨Nat.le_of_ble_eq_true rfl, Nat.le_of_ble_eq_true rfl⟩) wX9_nd (ap_l_pl _ _ 180 (wX9_len k a _)) rfl (by rw [List.getElem?_append_left (by rw [wX9_len]; decide)]; exact wX9_rec k a _) rfl (wX9_fst k a _ _) (ap_l_put _ _ _ 180 (wX9_len k a _) (wX9_len k a _)) hl rfl rfl (Nat.le_of_ble_eq_true rfl) dL_law_548 ⟨Nat.le_refl _, Nat.le_refl _⟩ (fun H locs hW => ?_)
  refine lv_aload_n hx hb dL_law_551 rfl (lv_at hl 2 rfl) ?_
  refine q_Viw (As := []) (rest := [.int (P_X9_wipe ξ).1]) (wf := wX10 k bq) (R := P_X10_wipe μ) (wd' := (wX9 k a (P_X9_wipe ξ).2 ++ wX10 k bq (P_X10_wipe μ).2)) is_10 [0, 1, 2, 3] 180 10 C0 hW (m_X10_wipe l D k bq H.size μ  hq.2.1) (cwV 0 hts gL_law_X10_wipe rfl rfl rfl hd_X10_wipe ⟨Nat.le_of_ble_eq_true rfl, Nat.le_of_ble_eq_true rfl⟩) is_10_nd (ap_r_pl _ _ 180 9 (wX9_len k a _) (wX10_len k bq _)) rfl (by rw [List.getElem?_append_right (by rw [wX9_len]; decide), wX9_len]; exact wX10_rec k bq _) rfl (wX10_fst k bq _ _) (ap_r_put _ _ _ 180 9 (wX9_len k a _) (wX10_len k bq _) (wX10_len k bq _)) hl rfl rfl (Nat.le_of_ble_eq_true rfl) dL_law_552 ⟨Nat.le_refl _, Nat.le_refl _⟩ (fun H locs hW => ?_)
  exact lv_icmp_eq (tgt := 645) hx hb dL_law_555 (by decide) (fun _ => kk _ _ H locs ls hq.2.2.2 hW hl) (fun hc => absurd hq.2.2.1 hc)
set_option maxHeartbeats 2000000 in
set_option maxRecDepth 100000 in
theorem law_c16 {p : Program} {e : Env} {s : State} {m : MethodId} {below : List Frame} {meth : Method} {c : Code} (l : Launch) {b L : Nat} {xs : Nat → Int32} (hL : L ≤ 2048) (D : va_G) (k : Nat → ClassId) (a bq : Nat → Nat) (A : Nat → Prop) (C0 : q_C p s m meth c #[Value.ref b] RL cL_law 4 ret wsL_law D (tyL k) A) (hX : va_X b L xs s s.heap) (hbl : b < s.heap.size) (hbA : ¬ A b) (Rel : Nat → T2 → T2 → Prop) (ok : Ok_fault Rel) (n i : Nat) (hi : i + 4 ≤ L) (hn : n < 512) (ξ μ : T2) (hR : Rel n ξ μ) (kk : ∀ (ξ μ : T2) (H : Heap) (locs : List Loc) (ls : Array Slot), Rel (n + 1) ξ μ → q_W D A s.heap (wX9 k a ξ ++ wX10 k bq μ) H locs → lv_has ls 4 [(0, .ref b), (1, .ref (a 0)), (2, .ref (bq 0)), (3, .int (nI i))] → W p l e room_1 s m #[Value.ref b] below meth c H locs 600000 7302250 (lw_Z below #[Value.ref b] s) (F0 m 645 ls [])) (H : Heap) (locs : List Loc) (ls : Array Slot) (hW : q_W D A s.heap (wX9 k a ξ ++ wX10 k bq μ) H locs) (hl : lv_has ls 4 [(0, .ref b), (1, .ref (a 0)), (2, .ref (bq 0)), (3, .int (nI i))]) : W p l e room_1 s m #[Value.ref b] below meth c H locs 600000 7302250 (lw_Z below #[Value.ref b] s) (F0 m 560 ls []) := by
  obtain ⟨hx, hb, hr, hml, hts, hown, hlocks, hK, hA⟩ := id C0
  have hq := ok n ξ μ  hn hR
  refine lv_aload_n hx hb dL_law_560 rfl (lv_at hl 1 rfl) ?_
  refine q_Viw (As := []) (rest := []) (wf := wX9 k a) (R := P_X9_fault ξ) (wd' := (wX9 k a (P_X9_fault ξ).2 ++ wX10 k bq μ)) wX9_is [0, 1, 2, 3] 0 9 C0 hW (m_X9_fault l D k a H.size ξ  hq.1) (cwV 0 hts gL_law_X9_fault rfl rfl rfl hd_X9_fault ⟨Nat.le_of_ble_eq_true rfl, Nat.le_of_ble_eq_true rfl⟩) wX9_nd (ap_l_pl _ _ 180 (wX9_len k a _)) rfl (by rw [List.getElem?_append_left (by rw [wX9_len]; decide)]; exact wX9_rec k a _) rfl (wX9_fst k a _ _) (ap_l_put _ _ _ 180 (wX9_len k a _) (wX9_len k a _)) hl rfl rfl (Nat.le_of_ble_eq_true rfl) dL_law_561 ⟨Nat.le_refl _, Nat.le_refl _⟩ (fun H locs hW => ?_)
  refine lv_aload_n hx hb dL_law_564 rfl (lv_at hl 2 rfl) ?_
  refine q_Viw (As := []) (rest := [.int (P_X9_fault ξ).1]) (wf := wX10 k bq) (R := P_X10_fault μ) (wd' := (wX9 k a (P_X9_fault ξ).2 ++ wX10 k bq (P_X10_fault μ).2)) is_10 [0, 1, 2, 3] 180 10 C0 hW (m_X10_fault l D k bq H.size μ  hq.2.1) (cwV 0 hts gL_law_X10_fault rfl rfl rfl hd_X10_fault ⟨Nat.le_of_ble_eq_true rfl, Nat.le_of_ble_eq_true rfl⟩) is_10_nd (ap_r_pl _ _ 180 9 (wX9_len k a _) (wX10_len k bq _)) rfl (by rw [List.getElem?_append_right (by rw [wX9_len]; decide), wX9_len]; exact wX10_rec k bq _) rfl (wX10_fst k bq _ _) (ap_r_put _ _ _ 180 9 (wX9_len k a _) (wX10_len k bq _) (wX10_len k bq _)) hl rfl rfl (Nat.le_of_ble_eq_true rfl) dL_law_565 ⟨Nat.le_refl _, Nat.le_refl _⟩ (fun H locs hW => ?_)
  exact lv_icmp_eq (tgt := 645) hx hb dL_law_568 (by decide) (fun _ => kk _ _ H locs ls hq.2.2.2 hW hl) (fun hc => absurd hq.2.2.1 hc)
set_option maxHeartbeats 2000000 in
set_option maxRecDepth 100000 in
theorem law_c17 {p : Program} {e : Env} {s : State} {m : MethodId} {below : List Frame} {meth : Method} {c : Code} (l : Launch) {b L : Nat} {xs : Nat → Int32} (hL : L ≤ 2048) (D : va_G) (k : Nat → ClassId) (a bq : Nat → Nat) (A : Nat → Prop) (C0 : q_C p s m meth c #[Value.ref b] RL cL_law 4 ret wsL_law D (tyL k) A) (hX : va_X b L xs s s.heap) (hbl : b < s.heap.size) (hbA : ¬ A b) (Rel : Nat → T2 → T2 → Prop) (ok : Ok_plan Rel) (n i : Nat) (hi : i + 4 ≤ L) (hn : n < 512) (ξ μ : T2) (hR : Rel n ξ μ) (kk : ∀ (ξ μ : T2) (H : Heap) (locs : List Loc) (ls : Array Slot), Rel (n + 1) ξ μ → q_W D A s.heap (wX9 k a ξ ++ wX10 k bq μ) H locs → lv_has ls 4 [(0, .ref b), (1, .ref (a 0)), (2, .ref (bq 0)), (3, .int (nI i))] → W p l e room_1 s m #[Value.ref b] below meth c H locs 600000 7302250 (lw_Z below #[Value.ref b] s) (F0 m 645 ls [])) (H : Heap) (locs : List Loc) (ls : Array Slot) (hW : q_W D A s.heap (wX9 k a ξ ++ wX10 k bq μ) H locs) (hl : lv_has ls 4 [(0, .ref b), (1, .ref (a 0)), (2, .ref (bq 0)), (3, .int (nI i))]) : W p l e room_1 s m #[Value.ref b] below meth c H locs 600000 7302250 (lw_Z below #[Value.ref b] s) (F0 m 573 ls []) := by
  obtain ⟨hx, hb, hr, hml, hts, hown, hlocks, hK, hA⟩ := id C0
  have hq := ok n ξ μ  hn hR
  refine lv_aload_n hx hb dL_law_573 rfl (lv_at hl 1 rfl) ?_
  refine q_Viw (As := []) (rest := []) (wf := wX9 k a) (R := P_X9_plan ξ) (wd' := (wX9 k a (P_X9_plan ξ).2 ++ wX10 k bq μ)) wX9_is [0, 1, 2, 3] 0 9 C0 hW (m_X9_plan l D k a H.size ξ  hq.1) (cwV 0 hts gL_law_X9_plan rfl rfl rfl hd_X9_plan ⟨Nat.le_of_ble_eq_true rfl, Nat.le_of_ble_eq_true rfl⟩) wX9_nd (ap_l_pl _ _ 180 (wX9_len k a _)) rfl (by rw [List.getElem?_append_left (by rw [wX9_len]; decide)]; exact wX9_rec k a _) rfl (wX9_fst k a _ _) (ap_l_put _ _ _ 180 (wX9_len k a _) (wX9_len k a _)) hl rfl rfl (Nat.le_of_ble_eq_true rfl) dL_law_574 ⟨Nat.le_refl _, Nat.le_refl _⟩ (fun H locs hW => ?_)
  refine lv_aload_n hx hb dL_law_577 rfl (lv_at hl 2 rfl) ?_
  refine q_Viw (As := []) (rest := [.int (P_X9_plan ξ).1]) (wf := wX10 k bq) (R := P_X10_plan μ) (wd' := (wX9 k a (P_X9_plan ξ).2 ++ wX10 k bq (P_X10_plan μ).2)) is_10 [0, 1, 2, 3] 180 10 C0 hW (m_X10_plan l D k bq H.size μ  hq.2.1) (cwV 0 hts gL_law_X10_plan rfl rfl rfl hd_X10_plan ⟨Nat.le_of_ble_eq_true rfl, Nat.le_of_ble_eq_true rfl⟩) is_10_nd (ap_r_pl _ _ 180 9 (wX9_len k a _) (wX10_len k bq _)) rfl (by rw [List.getElem?_append_right (by rw [wX9_len]; decide), wX9_len]; exact wX10_rec k bq _) rfl (wX10_fst k bq _ _) (ap_r_put _ _ _ 180 9 (wX9_len k a _) (wX10_len k bq _) (wX10_len k bq _)) hl rfl rfl (Nat.le_of_ble_eq_true rfl) dL_law_578 ⟨Nat.le_refl _, Nat.le_refl _⟩ (fun H locs hW => ?_)
  exact lv_icmp_eq (tgt := 645) hx hb dL_law_581 (by decide) (fun _ => kk _ _ H locs ls hq.2.2.2 hW hl) (fun hc => absurd hq.2.2.1 hc)
set_option maxHeartbeats 2000000 in
set_option maxRecDepth 100000 in
theorem law_c18 {p : Program} {e : Env} {s : State} {m : MethodId} {below : List Frame} {meth : Method} {c : Code} (l : Launch) {b L : Nat} {xs : Nat → Int32} (hL : L ≤ 2048) (D : va_G) (k : Nat → ClassId) (a bq : Nat → Nat) (A : Nat → Prop) (C0 : q_C p s m meth c #[Value.ref b] RL cL_law 4 ret wsL_law D (tyL k) A) (hX : va_X b L xs s s.heap) (hbl : b < s.heap.size) (hbA : ¬ A b) (Rel : Nat → T2 → T2 → Prop) (ok : Ok_undo Rel) (n i : Nat) (hi : i + 4 ≤ L) (hn : n < 512) (ξ μ : T2) (hR : Rel n ξ μ) (kk : ∀ (ξ μ : T2) (H : Heap) (locs : List Loc) (ls : Array Slot), Rel (n + 1) ξ μ → q_W D A s.heap (wX9 k a ξ ++ wX10 k bq μ) H locs → lv_has ls 4 [(0, .ref b), (1, .ref (a 0)), (2, .ref (bq 0)), (3, .int (nI i))] → W p l e room_1 s m #[Value.ref b] below meth c H locs 600000 7302250 (lw_Z below #[Value.ref b] s) (F0 m 645 ls [])) (H : Heap) (locs : List Loc) (ls : Array Slot) (hW : q_W D A s.heap (wX9 k a ξ ++ wX10 k bq μ) H locs) (hl : lv_has ls 4 [(0, .ref b), (1, .ref (a 0)), (2, .ref (bq 0)), (3, .int (nI i))]) : W p l e room_1 s m #[Value.ref b] below meth c H locs 600000 7302250 (lw_Z below #[Value.ref b] s) (F0 m 586 ls []) := by
  obtain ⟨hx, hb, hr, hml, hts, hown, hlocks, hK, hA⟩ := id C0
  have hq := ok n ξ μ  hn hR
  refine lv_aload_n hx hb dL_law_586 rfl (lv_at hl 1 rfl) ?_
  refine q_Viw (As := []) (rest := []) (wf := wX9 k a) (R := P_X9_undo ξ) (wd' := (wX9 k a (P_X9_undo ξ).2 ++ wX10 k bq μ)) wX9_is [0, 1, 2, 3] 0 9 C0 hW (m_X9_undo l D k a H.size ξ  hq.1) (cwV 0 hts gL_law_X9_undo rfl rfl rfl hd_X9_undo ⟨Nat.le_of_ble_eq_true rfl, Nat.le_of_ble_eq_true rfl⟩) wX9_nd (ap_l_pl _ _ 180 (wX9_len k a _)) rfl (by rw [List.getElem?_append_left (by rw [wX9_len]; decide)]; exact wX9_rec k a _) rfl (wX9_fst k a _ _) (ap_l_put _ _ _ 180 (wX9_len k a _) (wX9_len k a _)) hl rfl rfl (Nat.le_of_ble_eq_true rfl) dL_law_587 ⟨Nat.le_refl _, Nat.le_refl _⟩ (fun H locs hW => ?_)
  refine lv_aload_n hx hb dL_law_590 rfl (lv_at hl 2 rfl) ?_
  refine q_Viw (As := []) (rest := [.int (P_X9_undo ξ).1]) (wf := wX10 k bq) (R := P_X10_undo μ) (wd' := (wX9 k a (P_X9_undo ξ).2 ++ wX10 k bq (P_X10_undo μ).2)) is_10 [0, 1, 2, 3] 180 10 C0 hW (m_X10_undo l D k bq H.size μ  hq.2.1) (cwV 0 hts gL_law_X10_undo rfl rfl rfl hd_X10_undo ⟨Nat.le_of_ble_eq_true rfl, Nat.le_of_ble_eq_true rfl⟩) is_10_nd (ap_r_pl _ _ 180 9 (wX9_len k a _) (wX10_len k bq _)) rfl (by rw [List.getElem?_append_right (by rw [wX9_len]; decide), wX9_len]; exact wX10_rec k bq _) rfl (wX10_fst k bq _ _) (ap_r_put _ _ _ 180 9 (wX9_len k a _) (wX10_len k bq _) (wX10_len k bq _)) hl rfl rfl (Nat.le_of_ble_eq_true rfl) dL_law_591 ⟨Nat.le_refl _, Nat.le_refl _⟩ (fun H locs hW => ?_)
  exact lv_icmp_eq (tgt := 645) hx hb dL_law_594 (by decide) (fun _ => kk _ _ H locs ls hq.2.2.2 hW hl) (fun hc => absurd hq.2.2.1 hc)
set_option maxHeartbeats 2000000 in
set_option maxRecDepth 100000 in
theorem law_c19 {p : Program} {e : Env} {s : State} {m : MethodId} {below : List Frame} {meth : Method} {c : Code} (l : Launch) {b L : Nat} {xs : Nat → Int32} (hL : L ≤ 2048) (D : va_G) (k : Nat → ClassId) (a bq : Nat → Nat) (A : Nat → Prop) (C0 : q_C p s m meth c #[Value.ref b] RL cL_law 4 ret wsL_law D (tyL k) A) (hX : va_X b L xs s s.heap) (hbl : b < s.heap.size) (hbA : ¬ A b) (Rel : Nat → T2 → T2 → Prop) (ok : Ok_save Rel) (n i : Nat) (hi : i + 4 ≤ L) (hn : n < 512) (ξ μ : T2) (hR : Rel n ξ μ) (kk : ∀ (ξ μ : T2) (H : Heap) (locs : List Loc) (ls : Array Slot), Rel (n + 1) ξ μ → q_W D A s.heap (wX9 k a ξ ++ wX10 k bq μ) H locs → lv_has ls 4 [(0, .ref b), (1, .ref (a 0)), (2, .ref (bq 0)), (3, .int (nI i))] → W p l e room_1 s m #[Value.ref b] below meth c H locs 600000 7302250 (lw_Z below #[Value.ref b] s) (F0 m 645 ls [])) (H : Heap) (locs : List Loc) (ls : Array Slot) (hW : q_W D A s.heap (wX9 k a ξ ++ wX10 k bq μ) H locs) (hl : lv_has ls 4 [(0, .ref b), (1, .ref (a 0)), (2, .ref (bq 0)), (3, .int (nI i))]) : W p l e room_1 s m #[Value.ref b] below meth c H locs 600000 7302250 (lw_Z below #[Value.ref b] s) (F0 m 599 ls []) := by
  obtain ⟨hx, hb, hr, hml, hts, hown, hlocks, hK, hA⟩ := id C0
  have h_1 : vp_in (nI i + (1 : Int32)) L := by
    show vp_in (nI i + nI 1) L
    rw [nI_add]
    exact vp_in_nI (by omega) (by omega)
  have hq := ok n ξ μ (xs ((nI i) + (1 : Int32)).toNatClampNeg) hn hR
  refine lv_aload_n hx hb dL_law_599 rfl (lv_at hl 1 rfl) ?_
  refine lv_aload_n hx hb dL_law_600 rfl (lv_at hl 0 rfl) ?_
  refine lv_iload_n hx hb dL_law_601 rfl (lv_at hl 3 rfl) ?_
  refine lv_iconst (v := (1 : Int32)) hx hb dL_law_602 (by decide) ?_
  refine lv_iadd hx hb dL_law_603 ?_
  refine va_sld hx hb hX hbl hbA hW.2.2 h_1 dL_law_604 ?_
  refine q_Viw (As := [.int (xs ((nI i) + (1 : Int32)).toNatClampNeg)]) (rest := []) (wf := wX9 k a) (R := P_X9_save ξ (xs ((nI i) + (1 : Int32)).toNatClampNeg)) (wd' := (wX9 k a (P_X9_save ξ (xs ((nI i) + (1 : Int32)).toNatClampNeg)).2 ++ wX10 k bq μ)) wX9_is [0, 1, 2, 3] 0 9 C0 hW (m_X9_save l D k a H.size ξ (xs ((nI i) + (1 : Int32)).toNatClampNeg) hq.1) (cwV 1 hts gL_law_X9_save rfl rfl rfl hd_X9_save ⟨Nat.le_of_ble_eq_true rfl, Nat.le_of_ble_eq_true rfl⟩) wX9_nd (ap_l_pl _ _ 180 (wX9_len k a _)) rfl (by rw [List.getElem?_append_left (by rw [wX9_len]; decide)]; exact wX9_rec k a _) rfl (wX9_fst k a _ _) (ap_l_put _ _ _ 180 (wX9_len k a _) (wX9_len k a _)) hl rfl rfl (Nat.le_of_ble_eq_true rfl) dL_law_605 ⟨Nat.le_refl _, Nat.le_refl _⟩ (fun H locs hW => ?_)
  refine lv_aload_n hx hb dL_law_608 rfl (lv_at hl 2 rfl) ?_
  refine lv_aload_n hx hb dL_law_609 rfl (lv_at hl 0 rfl) ?_
  refine lv_iload_n hx hb dL_law_610 rfl (lv_at hl 3 rfl) ?_
  refine lv_iconst (v := (1 : Int32)) hx hb dL_law_611 (by decide) ?_
  refine lv_iadd hx hb dL_law_612 ?_
  refine va_sld hx hb hX hbl hbA hW.2.2 h_1 dL_law_613 ?_
  refine q_Viw (As := [.int (xs ((nI i) + (1 : Int32)).toNatClampNeg)]) (rest := [.int (P_X9_save ξ (xs ((nI i) + (1 : Int32)).toNatClampNeg)).1]) (wf := wX10 k bq) (R := P_X10_save μ (xs ((nI i) + (1 : Int32)).toNatClampNeg)) (wd' := (wX9 k a (P_X9_save ξ (xs ((nI i) + (1 : Int32)).toNatClampNeg)).2 ++ wX10 k bq (P_X10_save μ (xs ((nI i) + (1 : Int32)).toNatClampNeg)).2)) is_10 [0, 1, 2, 3] 180 10 C0 hW (m_X10_save l D k bq H.size μ (xs ((nI i) + (1 : Int32)).toNatClampNeg) hq.2.1) (cwV 1 hts gL_law_X10_save rfl rfl rfl hd_X10_save ⟨Nat.le_of_ble_eq_true rfl, Nat.le_of_ble_eq_true rfl⟩) is_10_nd (ap_r_pl _ _ 180 9 (wX9_len k a _) (wX10_len k bq _)) rfl (by rw [List.getElem?_append_right (by rw [wX9_len]; decide), wX9_len]; exact wX10_rec k bq _) rfl (wX10_fst k bq _ _) (ap_r_put _ _ _ 180 9 (wX9_len k a _) (wX10_len k bq _) (wX10_len k bq _)) hl rfl rfl (Nat.le_of_ble_eq_true rfl) dL_law_614 ⟨Nat.le_refl _, Nat.le_refl _⟩ (fun H locs hW => ?_)
  exact lv_icmp_eq (tgt := 645) hx hb dL_law_617 (by decide) (fun _ => kk _ _ H locs ls hq.2.2.2 hW hl) (fun hc => absurd hq.2.2.1 hc)
set_option maxHeartbeats 2000000 in
set_option maxRecDepth 100000 in
theorem law_c20 {p : Program} {e : Env} {s : State} {m : MethodId} {below : List Frame} {meth : Method} {c : Code} (l : Launch) {b L : Nat} {xs : Nat → Int32} (hL : L ≤ 2048) (D : va_G) (k : Nat → ClassId) (a bq : Nat → Nat) (A : Nat → Prop) (C0 : q_C p s m meth c #[Value.ref b] RL cL_law 4 ret wsL_law D (tyL k) A) (hX : va_X b L xs s s.heap) (hbl : b < s.heap.size) (hbA : ¬ A b) (Rel : Nat → T2 → T2 → Prop) (ok : Ok_restore Rel) (n i : Nat) (hi : i + 4 ≤ L) (hn : n < 512) (ξ μ : T2) (hR : Rel n ξ μ) (kk : ∀ (ξ μ : T2) (H : Heap) (locs : List Loc) (ls : Array Slot), Rel (n + 1) ξ μ → q_W D A s.heap (wX9 k a ξ ++ wX10 k bq μ) H locs → lv_has ls 4 [(0, .ref b), (1, .ref (a 0)), (2, .ref (bq 0)), (3, .int (nI i))] → W p l e room_1 s m #[Value.ref b] below meth c H locs 600000 7302250 (lw_Z below #[Value.ref b] s) (F0 m 645 ls [])) (H : Heap) (locs : List Loc) (ls : Array Slot) (hW : q_W D A s.heap (wX9 k a ξ ++ wX10 k bq μ) H locs) (hl : lv_has ls 4 [(0, .ref b), (1, .ref (a 0)), (2, .ref (bq 0)), (3, .int (nI i))]) : W p l e room_1 s m #[Value.ref b] below meth c H locs 600000 7302250 (lw_Z below #[Value.ref b] s) (F0 m 622 ls []) := by
  obtain ⟨hx, hb, hr, hml, hts, hown, hlocks, hK, hA⟩ := id C0
  have h_1 : vp_in (nI i + (1 : Int32)) L := by
    show vp_in (nI i + nI 1) L
    rw [nI_add]
    exact vp_in_nI (by omega) (by omega)
  have hq := ok n ξ μ (xs ((nI i) + (1 : Int32)).toNatClampNeg) hn hR
  refine lv_aload_n hx hb dL_law_622 rfl (lv_at hl 1 rfl) ?_
  refine lv_aload_n hx hb dL_law_623 rfl (lv_at hl 0 rfl) ?_
  refine lv_iload_n hx hb dL_law_624 rfl (lv_at hl 3 rfl) ?_
  refine lv_iconst (v := (1 : Int32)) hx hb dL_law_625 (by decide) ?_
  refine lv_iadd hx hb dL_law_626 ?_
  refine va_sld hx hb hX hbl hbA hW.2.2 h_1 dL_law_627 ?_
  refine q_Viw (As := [.int (xs ((nI i) + (1 : Int32)).toNatClampNeg)]) (rest := []) (wf := wX9 k a) (R := P_X9_restore ξ (xs ((nI i) + (1 : Int32)).toNatClampNeg)) (wd' := (wX9 k a (P_X9_restore ξ (xs ((nI i) + (1 : Int32)).toNatClampNeg)).2 ++ wX10 k bq μ)) wX9_is [0, 1, 2, 3] 0 9 C0 hW (m_X9_restore l D k a H.size ξ (xs ((nI i) + (1 : Int32)).toNatClampNeg) hq.1) (cwV 1 hts gL_law_X9_restore rfl rfl rfl hd_X9_restore ⟨Nat.le_of_ble_eq_true rfl, Nat.le_of_ble_eq_true rfl⟩) wX9_nd (ap_l_pl _ _ 180 (wX9_len k a _)) rfl (by rw [List.getElem?_append_left (by rw [wX9_len]; decide)]; exact wX9_rec k a _) rfl (wX9_fst k a _ _) (ap_l_put _ _ _ 180 (wX9_len k a _) (wX9_len k a _)) hl rfl rfl (Nat.le_of_ble_eq_true rfl) dL_law_628 ⟨Nat.le_refl _, Nat.le_refl _⟩ (fun H locs hW => ?_)
  refine lv_aload_n hx hb dL_law_631 rfl (lv_at hl 2 rfl) ?_
  refine lv_aload_n hx hb dL_law_632 rfl (lv_at hl 0 rfl) ?_
  refine lv_iload_n hx hb dL_law_633 rfl (lv_at hl 3 rfl) ?_
  refine lv_iconst (v := (1 : Int32)) hx hb dL_law_634 (by decide) ?_
  refine lv_iadd hx hb dL_law_635 ?_
  refine va_sld hx hb hX hbl hbA hW.2.2 h_1 dL_law_636 ?_
  refine q_Viw (As := [.int (xs ((nI i) + (1 : Int32)).toNatClampNeg)]) (rest := [.int (P_X9_restore ξ (xs ((nI i) + (1 : Int32)).toNatClampNeg)).1]) (wf := wX10 k bq) (R := P_X10_restore μ (xs ((nI i) + (1 : Int32)).toNatClampNeg)) (wd' := (wX9 k a (P_X9_restore ξ (xs ((nI i) + (1 : Int32)).toNatClampNeg)).2 ++ wX10 k bq (P_X10_restore μ (xs ((nI i) + (1 : Int32)).toNatClampNeg)).2)) is_10 [0, 1, 2, 3] 180 10 C0 hW (m_X10_restore l D k bq H.size μ (xs ((nI i) + (1 : Int32)).toNatClampNeg) hq.2.1) (cwV 1 hts gL_law_X10_restore rfl rfl rfl hd_X10_restore ⟨Nat.le_of_ble_eq_true rfl, Nat.le_of_ble_eq_true rfl⟩) is_10_nd (ap_r_pl _ _ 180 9 (wX9_len k a _) (wX10_len k bq _)) rfl (by rw [List.getElem?_append_right (by rw [wX9_len]; decide), wX9_len]; exact wX10_rec k bq _) rfl (wX10_fst k bq _ _) (ap_r_put _ _ _ 180 9 (wX9_len k a _) (wX10_len k bq _) (wX10_len k bq _)) hl rfl rfl (Nat.le_of_ble_eq_true rfl) dL_law_637 ⟨Nat.le_refl _, Nat.le_refl _⟩ (fun H locs hW => ?_)
  exact lv_icmp_eq (tgt := 645) hx hb dL_law_640 (by decide) (fun _ => kk _ _ H locs ls hq.2.2.2 hW hl) (fun hc => absurd hq.2.2.1 hc)
