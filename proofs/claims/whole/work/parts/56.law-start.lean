theorem inlX0 : ∀ w ∈ wsX00, w ∈ wsL_law := fun _ h => List.mem_append_left _ (List.mem_append_left _ (List.mem_append_left _ (List.mem_append_right _ h)))
theorem inlX1 : ∀ w ∈ wsX10, w ∈ wsL_law := fun _ h => List.mem_append_left _ (List.mem_append_left _ (List.mem_append_right _ h))
theorem inlX2 : ∀ w ∈ wsX20, w ∈ wsL_law := fun _ h => List.mem_append_left _ (List.mem_append_left _ (List.mem_append_left _ (List.mem_append_left _ (List.mem_append_right _ h))))
theorem inlX3 : ∀ w ∈ wsX30, w ∈ wsL_law := fun _ h => List.mem_append_left _ (List.mem_append_left _ (List.mem_append_left _ (List.mem_append_left _ (List.mem_append_left _ (List.mem_append_left _ (List.mem_append_left _ (List.mem_append_left _ (List.mem_append_right _ h))))))))
theorem inlX4 : ∀ w ∈ wsX40, w ∈ wsL_law := fun _ h => List.mem_append_left _ (List.mem_append_left _ (List.mem_append_left _ (List.mem_append_left _ (List.mem_append_left _ (List.mem_append_left _ (List.mem_append_left _ (List.mem_append_right _ h)))))))
theorem inlX5 : ∀ w ∈ wsX50, w ∈ wsL_law := fun _ h => List.mem_append_left _ (List.mem_append_left _ (List.mem_append_left _ (List.mem_append_left _ (List.mem_append_left _ (List.mem_append_right _ h)))))
theorem inlX6 : ∀ w ∈ wsX60, w ∈ wsL_law := fun _ h => List.mem_append_left _ (List.mem_append_left _ (List.mem_append_left _ (List.mem_append_left _ (List.mem_append_left _ (List.mem_append_left _ (List.mem_append_right _ h))))))
theorem inlX7 : ∀ w ∈ wsX70, w ∈ wsL_law := fun _ h => List.mem_append_left _ (List.mem_append_left _ (List.mem_append_left _ (List.mem_append_left _ (List.mem_append_left _ (List.mem_append_left _ (List.mem_append_left _ (List.mem_append_left _ (List.mem_append_left _ (List.mem_append_right _ h)))))))))
theorem inlX8 : ∀ w ∈ wsX80, w ∈ wsL_law := fun _ h => List.mem_append_left _ (List.mem_append_right _ h)
theorem inlX9 : ∀ w ∈ wsX90, w ∈ wsL_law := fun _ h => List.mem_append_left _ (List.mem_append_left _ (List.mem_append_left _ (List.mem_append_left _ (List.mem_append_left _ (List.mem_append_left _ (List.mem_append_left _ (List.mem_append_left _ (List.mem_append_left _ (List.mem_append_left _ (List.mem_append_left _ (List.mem_append_right _ h)))))))))))
theorem inlX10 : ∀ w ∈ wsX100, w ∈ wsL_law := fun _ h => List.mem_append_left _ (List.mem_append_left _ (List.mem_append_left _ (List.mem_append_left _ (List.mem_append_left _ (List.mem_append_left _ (List.mem_append_left _ (List.mem_append_left _ (List.mem_append_left _ (List.mem_append_left _ (List.mem_append_right _ h))))))))))
set_option maxHeartbeats 4000000 in
set_option maxRecDepth 100000 in
theorem q_Z_start {s : State} {b : Nat} (hts : ∀ w ∈ lw_tbl, w.before #[Value.ref b] s = true) (hgv : (Jvm.Cond.and given_1 narrow_1).before #[Value.ref b] s = true) (A : Nat → Prop) (hA : ∀ a : Nat, a < s.heap.size → ¬ A a) : ∃ z : Nat → Nat, q_Z s A z := by
  have hs := flat_of_before _ hgv
  have hini : (Cond.initialized "BeatFollower").before #[Value.ref b] s = true := hts _ (by decide +kernel)
  have r0 : (Cond.arrayOf (Term.static "BeatFollower" "LOWEST" "[I") .int).before #[Value.ref b] s = true := hs _ (by decide +kernel)
  have n0 : (Cond.eq (.length (Term.static "BeatFollower" "LOWEST" "[I")) (.int 8)).before #[Value.ref b] s = true := hs _ (by decide +kernel)
  have v0_0 : (Cond.eq (.elem (Term.static "BeatFollower" "LOWEST" "[I") (.int 0)) (.int 20)).before #[Value.ref b] s = true := hs _ (by decide +kernel)
  have v0_1 : (Cond.eq (.elem (Term.static "BeatFollower" "LOWEST" "[I") (.int 1)) (.int 5)).before #[Value.ref b] s = true := hs _ (by decide +kernel)
  have v0_2 : (Cond.eq (.elem (Term.static "BeatFollower" "LOWEST" "[I") (.int 2)) (.int 0)).before #[Value.ref b] s = true := hs _ (by decide +kernel)
  have v0_3 : (Cond.eq (.elem (Term.static "BeatFollower" "LOWEST" "[I") (.int 3)) (.int 0)).before #[Value.ref b] s = true := hs _ (by decide +kernel)
  have v0_4 : (Cond.eq (.elem (Term.static "BeatFollower" "LOWEST" "[I") (.int 4)) (.int 0)).before #[Value.ref b] s = true := hs _ (by decide +kernel)
  have v0_5 : (Cond.eq (.elem (Term.static "BeatFollower" "LOWEST" "[I") (.int 5)) (.int 1)).before #[Value.ref b] s = true := hs _ (by decide +kernel)
  have v0_6 : (Cond.eq (.elem (Term.static "BeatFollower" "LOWEST" "[I") (.int 6)) (.int 1)).before #[Value.ref b] s = true := hs _ (by decide +kernel)
  have v0_7 : (Cond.eq (.elem (Term.static "BeatFollower" "LOWEST" "[I") (.int 7)) (.int 1)).before #[Value.ref b] s = true := hs _ (by decide +kernel)
  obtain ⟨t0, ht0, T0⟩ := va_Tof (tm := (Term.static "BeatFollower" "LOWEST" "[I")) (N := 8) (f := fun j => .int (q_lo j)) (A := A) (by decide) r0 (va_eqt n0) (fun j hj => by
    rcases (show j = 0 ∨ j = 1 ∨ j = 2 ∨ j = 3 ∨ j = 4 ∨ j = 5 ∨ j = 6 ∨ j = 7 by omega) with rfl | rfl | rfl | rfl | rfl | rfl | rfl | rfl
    · exact va_eqt v0_0
    · exact va_eqt v0_1
    · exact va_eqt v0_2
    · exact va_eqt v0_3
    · exact va_eqt v0_4
    · exact va_eqt v0_5
    · exact va_eqt v0_6
    · exact va_eqt v0_7
    ) hA
  have Z0 := va_Zof (A := A) (hts (.laysStatic "BeatFollower" "LOWEST" "[I") (by decide +kernel)) hini ht0 hA
  have r1 : (Cond.arrayOf (Term.static "BeatFollower" "HIGHEST" "[I") .int).before #[Value.ref b] s = true := hs _ (by decide +kernel)
  have n1 : (Cond.eq (.length (Term.static "BeatFollower" "HIGHEST" "[I")) (.int 8)).before #[Value.ref b] s = true := hs _ (by decide +kernel)
  have v1_0 : (Cond.eq (.elem (Term.static "BeatFollower" "HIGHEST" "[I") (.int 0)) (.int 400)).before #[Value.ref b] s = true := hs _ (by decide +kernel)
  have v1_1 : (Cond.eq (.elem (Term.static "BeatFollower" "HIGHEST" "[I") (.int 1)) (.int 50)).before #[Value.ref b] s = true := hs _ (by decide +kernel)
  have v1_2 : (Cond.eq (.elem (Term.static "BeatFollower" "HIGHEST" "[I") (.int 2)) (.int 16)).before #[Value.ref b] s = true := hs _ (by decide +kernel)
  have v1_3 : (Cond.eq (.elem (Term.static "BeatFollower" "HIGHEST" "[I") (.int 3)) (.int 16)).before #[Value.ref b] s = true := hs _ (by decide +kernel)
  have v1_4 : (Cond.eq (.elem (Term.static "BeatFollower" "HIGHEST" "[I") (.int 4)) (.int 40)).before #[Value.ref b] s = true := hs _ (by decide +kernel)
  have v1_5 : (Cond.eq (.elem (Term.static "BeatFollower" "HIGHEST" "[I") (.int 5)) (.int 8)).before #[Value.ref b] s = true := hs _ (by decide +kernel)
  have v1_6 : (Cond.eq (.elem (Term.static "BeatFollower" "HIGHEST" "[I") (.int 6)) (.int 8)).before #[Value.ref b] s = true := hs _ (by decide +kernel)
  have v1_7 : (Cond.eq (.elem (Term.static "BeatFollower" "HIGHEST" "[I") (.int 7)) (.int 20)).before #[Value.ref b] s = true := hs _ (by decide +kernel)
  obtain ⟨t1, ht1, T1⟩ := va_Tof (tm := (Term.static "BeatFollower" "HIGHEST" "[I")) (N := 8) (f := fun j => .int (q_hi j)) (A := A) (by decide) r1 (va_eqt n1) (fun j hj => by
    rcases (show j = 0 ∨ j = 1 ∨ j = 2 ∨ j = 3 ∨ j = 4 ∨ j = 5 ∨ j = 6 ∨ j = 7 by omega) with rfl | rfl | rfl | rfl | rfl | rfl | rfl | rfl
    · exact va_eqt v1_0
    · exact va_eqt v1_1
    · exact va_eqt v1_2
    · exact va_eqt v1_3
    · exact va_eqt v1_4
    · exact va_eqt v1_5
    · exact va_eqt v1_6
    · exact va_eqt v1_7
    ) hA
  have Z1 := va_Zof (A := A) (hts (.laysStatic "BeatFollower" "HIGHEST" "[I") (by decide +kernel)) hini ht1 hA
  have r2 : (Cond.arrayOf (Term.static "BeatFollower" "FIRST" "[I") .int).before #[Value.ref b] s = true := hs _ (by decide +kernel)
  have n2 : (Cond.eq (.length (Term.static "BeatFollower" "FIRST" "[I")) (.int 8)).before #[Value.ref b] s = true := hs _ (by decide +kernel)
  have v2_0 : (Cond.eq (.elem (Term.static "BeatFollower" "FIRST" "[I") (.int 0)) (.int 100)).before #[Value.ref b] s = true := hs _ (by decide +kernel)
  have v2_1 : (Cond.eq (.elem (Term.static "BeatFollower" "FIRST" "[I") (.int 1)) (.int 30)).before #[Value.ref b] s = true := hs _ (by decide +kernel)
  have v2_2 : (Cond.eq (.elem (Term.static "BeatFollower" "FIRST" "[I") (.int 2)) (.int 8)).before #[Value.ref b] s = true := hs _ (by decide +kernel)
  have v2_3 : (Cond.eq (.elem (Term.static "BeatFollower" "FIRST" "[I") (.int 3)) (.int 4)).before #[Value.ref b] s = true := hs _ (by decide +kernel)
  have v2_4 : (Cond.eq (.elem (Term.static "BeatFollower" "FIRST" "[I") (.int 4)) (.int 8)).before #[Value.ref b] s = true := hs _ (by decide +kernel)
  have v2_5 : (Cond.eq (.elem (Term.static "BeatFollower" "FIRST" "[I") (.int 5)) (.int 3)).before #[Value.ref b] s = true := hs _ (by decide +kernel)
  have v2_6 : (Cond.eq (.elem (Term.static "BeatFollower" "FIRST" "[I") (.int 6)) (.int 3)).before #[Value.ref b] s = true := hs _ (by decide +kernel)
  have v2_7 : (Cond.eq (.elem (Term.static "BeatFollower" "FIRST" "[I") (.int 7)) (.int 6)).before #[Value.ref b] s = true := hs _ (by decide +kernel)
  obtain ⟨t2, ht2, T2⟩ := va_Tof (tm := (Term.static "BeatFollower" "FIRST" "[I")) (N := 8) (f := fun j => .int (q_fi j)) (A := A) (by decide) r2 (va_eqt n2) (fun j hj => by
    rcases (show j = 0 ∨ j = 1 ∨ j = 2 ∨ j = 3 ∨ j = 4 ∨ j = 5 ∨ j = 6 ∨ j = 7 by omega) with rfl | rfl | rfl | rfl | rfl | rfl | rfl | rfl
    · exact va_eqt v2_0
    · exact va_eqt v2_1
    · exact va_eqt v2_2
    · exact va_eqt v2_3
    · exact va_eqt v2_4
    · exact va_eqt v2_5
    · exact va_eqt v2_6
    · exact va_eqt v2_7
    ) hA
  have Z2 := va_Zof (A := A) (hts (.laysStatic "BeatFollower" "FIRST" "[I") (by decide +kernel)) hini ht2 hA
  exact ⟨fun j => if j = 0 then t0 else if j = 1 then t1 else t2, Z0, T0, Z1, T1, Z2, T2⟩
set_option maxHeartbeats 4000000 in
set_option maxRecDepth 100000 in
theorem q_D_start {s : State} {b : Nat} (hts : ∀ w ∈ lw_tbl, w.before #[Value.ref b] s = true) : ∃ (D : va_G) (k : Nat → ClassId), va_K D vwCl (tyL k) s := by
  obtain ⟨c0, i0, K0⟩ := u_known (C := RX0) (T := TX0) (N := 5) (n := 5) hts inw_wsX00 (hts (.instantiable RX0 5) (by decide +kernel))
  obtain ⟨c1, i1, K1⟩ := u_known (C := RX1) (T := TX1) (N := 7) (n := 7) hts inw_wsX10 (hts (.instantiable RX1 7) (by decide +kernel))
  obtain ⟨c2, i2, K2⟩ := u_known (C := RX2) (T := TX2) (N := 4) (n := 4) hts inw_wsX20 (hts (.instantiable RX2 4) (by decide +kernel))
  obtain ⟨c3, i3, K3⟩ := u_known (C := RX3) (T := TX3) (N := 3) (n := 3) hts inw_wsX30 (hts (.instantiable RX3 3) (by decide +kernel))
  obtain ⟨c4, i4, K4⟩ := u_known (C := RX4) (T := TX4) (N := 2) (n := 2) hts inw_wsX40 (hts (.instantiable RX4 2) (by decide +kernel))
  obtain ⟨c5, i5, K5⟩ := u_known (C := RX5) (T := TX5) (N := 3) (n := 3) hts inw_wsX50 (hts (.instantiable RX5 3) (by decide +kernel))
  obtain ⟨c6, i6, K6⟩ := u_known (C := RX6) (T := TX6) (N := 7) (n := 7) hts inw_wsX60 (hts (.instantiable RX6 7) (by decide +kernel))
  obtain ⟨c7, i7, K7⟩ := u_known (C := RX7) (T := TX7) (N := 7) (n := 7) hts inw_wsX70 (hts (.instantiable RX7 7) (by decide +kernel))
  obtain ⟨c8, i8, K8⟩ := u_known (C := RX8) (T := TX8) (N := 10) (n := 10) hts inw_wsX80 (hts (.instantiable RX8 10) (by decide +kernel))
  obtain ⟨c9, i9, K9⟩ := u_known (C := RX9) (T := TX9) (N := 7) (n := 7) hts inw_wsX90 (hts (.instantiable RX9 7) (by decide +kernel))
  obtain ⟨c10, i10, K10⟩ := u_known (C := RX10) (T := TX10) (N := 18) (n := 18) hts inw_wsX100 (hts (.instantiable RX10 18) (by decide +kernel))
  obtain ⟨k, hk⟩ := q_tyL (hts (.arrayClass .int) (by decide +kernel)) (hts (.arrayClass .boolean) (by decide +kernel)) (hts (.arrayClass .char) (by decide +kernel)) (hts (.arrayOver (.object "BeatFollower$Scene")) (by decide +kernel))
  refine ⟨(fun j => if j = 0 then c0 else if j = 1 then c1 else if j = 2 then c2 else if j = 3 then c3 else if j = 4 then c4 else if j = 5 then c5 else if j = 6 then c6 else if j = 7 then c7 else if j = 8 then c8 else if j = 9 then c9 else c10, fun j => if j = 0 then i0 else if j = 1 then i1 else if j = 2 then i2 else if j = 3 then i3 else if j = 4 then i4 else if j = 5 then i5 else if j = 6 then i6 else if j = 7 then i7 else if j = 8 then i8 else if j = 9 then i9 else i10), k, fun j q hq => ?_, hk⟩
  match j, hq with
  | 0, hq => cases hq; exact K0
  | 1, hq => cases hq; exact K1
  | 2, hq => cases hq; exact K2
  | 3, hq => cases hq; exact K3
  | 4, hq => cases hq; exact K4
  | 5, hq => cases hq; exact K5
  | 6, hq => cases hq; exact K6
  | 7, hq => cases hq; exact K7
  | 8, hq => cases hq; exact K8
  | 9, hq => cases hq; exact K9
  | 10, hq => cases hq; exact K10
  | j + 11, hq => simp [vwCl] at hq
set_option maxHeartbeats 4000000 in
set_option maxRecDepth 100000 in
theorem law_start {p : Program} {e : Env} {s : State} {m : MethodId} {below : List Frame} {meth : Method} {c : Code} (l : Launch) {b L : Nat} {xs : Nat → Int32} (hL : L ≤ 2048) (C0 : lw_At p s m meth c b L xs) (Rel : Nat → T2 → T2 → Prop) (mono : ∀ n ξ μ, Rel n ξ μ → Rel (n + 1) ξ μ) (ok0 : Ok_set Rel) (ok1 : Ok_beat Rel) (ok2 : Ok_cut Rel) (ok3 : Ok_pass Rel) (ok4 : Ok_anew Rel) (ok5 : Ok_ofBeat Rel) (ok6 : Ok_ofBlow Rel) (ok7 : Ok_count Rel) (ok8 : Ok_slips Rel) (ok9 : Ok_nextBlow Rel) (ok10 : Ok_ifHeard Rel) (ok11 : Ok_endWith Rel) (ok12 : Ok_bestNudge Rel) (ok13 : Ok_worstBeat Rel) (ok14 : Ok_put Rel) (ok15 : Ok_wipe Rel) (ok16 : Ok_fault Rel) (ok17 : Ok_plan Rel) (ok18 : Ok_undo Rel) (ok19 : Ok_save Rel) (ok20 : Ok_restore Rel) (init : Rel 0 q_S9 q_M0) : W p l e room_1 s m #[Value.ref b] below meth c s.heap [] 0 0 (lw_Z below #[Value.ref b] s) (entryFrame m ([Value.ref b] : List Value).toArray 4) := by
  obtain ⟨hx, hb, hr, hml, hown, hts, hX, hbl, hlocks, hgv⟩ := id C0
  obtain ⟨A, hAe⟩ : ∃ A : Nat → Prop, A = fun q : Nat => s.heap.size ≤ q := ⟨_, rfl⟩
  have hA : ∀ q : Nat, s.heap.size ≤ q → A q := fun q h => by rw [hAe]; exact h
  have hnA : ∀ a : Nat, a < s.heap.size → ¬ A a := fun a h => by rw [hAe]; exact Nat.not_le.mpr h
  have hbA : ¬ A b := hnA b hbl
  obtain ⟨z, Z0⟩ := q_Z_start hts hgv A hnA
  obtain ⟨D, k, hK⟩ := q_D_start hts
  have N7 : q_N7 s := ⟨va_Nw.of rfl (hts (.methodLinkNest RX7 17 yX5_init "BeatFollower") (by decide +kernel)), va_Nw.of rfl (hts (.methodLinkNest RX7 24 yX2_init "BeatFollower") (by decide +kernel)), va_Nw.of rfl (hts (.methodLinkNest RX7 31 yX0_init "BeatFollower") (by decide +kernel)), va_Nw.of rfl (hts (.methodLinkNest RX7 38 yX1_init "BeatFollower") (by decide +kernel)), va_Nw.of rfl (hts (.methodLinkNest RX7 45 yX8_init "BeatFollower") (by decide +kernel)), va_Nw.of rfl (hts (.fieldLinkNest RX7 50 "BeatFollower" "FIRST" "[I" "BeatFollower") (by decide +kernel))⟩
  have N9 : q_N9 s := ⟨va_Nw.of rfl (hts (.methodLinkNest RX9 36 yX4_init "BeatFollower") (by decide +kernel)), va_Nw.of rfl (hts (.methodLinkNest RX9 43 yX6_init "BeatFollower") (by decide +kernel))⟩
  have AO : va_AO "BeatFollower$Scene" s := va_AO.of (hts (.arrayOver (.object "BeatFollower$Scene")) (by decide +kernel))
  have hts : ∀ w ∈ wsL_law, w.before #[Value.ref b] s = true := fun w hw => hts w (wsL_law_in w hw)
  have C0 : q_C p s m meth c #[Value.ref b] RL cL_law 4 ret wsL_law D (tyL k) A := ⟨hx, hb, hr, hml, hts, hown, hlocks, hK, hA⟩
  have hW : q_W D A s.heap [] s.heap [] := ⟨fun i q h => by simp at h, ⟨fun i j x y h => by simp at h, fun i q h => by simp at h⟩, va_S.rf⟩
  have hl := lv_entry ([.ref b]) (n := 4) (Nat.le_of_ble_eq_true rfl)
  rw [lg_entry_eq]
  generalize (lg_sl ([.ref b]) ++ List.replicate (4 - (lg_sl ([.ref b])).length) Slot.unset).toArray = ls at hl ⊢
  have hl : lv_has ls 4 [(0, .ref b)] := hl
  refine q_newo (C := RX9) (T := TX9) (N := 7) (ci := 9) (fs := [.null, .null, .null, .null, .null, .null, .null]) C0 hW inlX9 tyX9 tyX9_ok (hts (.classLink RL 7 RX9) (by decide +kernel)) (hts (.instantiable RX9 7) (by decide +kernel)) (hts (.initialized RX9) (by decide +kernel)) rfl (fun j hj => by rcases (show j = 0 ∨ j = 1 ∨ j = 2 ∨ j = 3 ∨ j = 4 ∨ j = 5 ∨ j = 6 by omega) with rfl | rfl | rfl | rfl | rfl | rfl | rfl <;> rfl) (Nat.le_of_ble_eq_true rfl) (Nat.le_of_ble_eq_true rfl) dL_law_0 (fun q1 H hWn => ?_)
  refine lv_dup hx hb dL_law_3 rfl ?_
  refine q_ctor (rest := [.ref q1]) (wf := fun u => wX9 k u q_S9) (Rp := fun u : Nat → Nat => u 0 = q1) (X := fun U => q_Z U (va_A [(q1, .inr (9, [.null, .null, .null, .null, .null, .null, .null]))] H.size) z ∧ q_N7 U ∧ va_AO "BeatFollower$Scene" U ∧ q_N9 U) C0 hWn (m_X9_init l D k q1 _ z) (cwI 0 hts gL_law_X9_init rfl rfl rfl (hts (.initialized RX9) (by decide +kernel)) (hts (.methodLink RL 9 yX9_init) (by decide +kernel)) (hts (.instanceMethod yX9_init) (by decide +kernel)) rfl hdi_X9_init ⟨Nat.le_of_ble_eq_true rfl, Nat.le_of_ble_eq_true rfl⟩) (fun U hU hw => ⟨q_Z_sub Z0 hWn.2.2 (q_lastA C0 hWn) U hU hw, q_N7_warm hw N7, q_AO_warm hw AO, va_Nw.warmM hw N9.1, va_Nw.warmM hw N9.2⟩) (fun a U g mk h => ⟨q_Z_calling a U g mk h.1, q_N7_calling a U g mk h.2.1, q_AO_calling a U g mk h.2.2.1, va_Nw.same (u := U) rfl rfl h.2.2.2.1, va_Nw.same (u := U) rfl rfl h.2.2.2.2⟩) hl (Nat.le_of_ble_eq_true rfl) dL_law_4 ⟨Nat.le_of_ble_eq_true rfl, Nat.le_of_ble_eq_true rfl⟩ (fun u1 H locs e1 hW => ?_)
  subst e1
  refine lv_astore_n (lv' := [(1, .ref (u1 0)), (0, .ref b)]) hx hb dL_law_7 rfl hl (by decide) rfl (fun ls hl => ?_)
  refine q_newo (C := RX10) (T := TX10) (N := 18) (ci := 10) (fs := [.null, .null, .int 0, .int 0, .null, .null, .null, .int 0, .null, .int 0, .int 0, .int 0, .int 0, .int 0, .int 0, .int 0, .null, .null]) C0 hW inlX10 tyX10 tyX10_ok (hts (.classLink RL 10 RX10) (by decide +kernel)) (hts (.instantiable RX10 18) (by decide +kernel)) (hts (.initialized RX10) (by decide +kernel)) rfl (fun j hj => by rcases (show j = 0 ∨ j = 1 ∨ j = 2 ∨ j = 3 ∨ j = 4 ∨ j = 5 ∨ j = 6 ∨ j = 7 ∨ j = 8 ∨ j = 9 ∨ j = 10 ∨ j = 11 ∨ j = 12 ∨ j = 13 ∨ j = 14 ∨ j = 15 ∨ j = 16 ∨ j = 17 by omega) with rfl | rfl | rfl | rfl | rfl | rfl | rfl | rfl | rfl | rfl | rfl | rfl | rfl | rfl | rfl | rfl | rfl | rfl <;> rfl) (Nat.le_of_ble_eq_true rfl) (Nat.le_of_ble_eq_true rfl) dL_law_8 (fun q2 H hWn => ?_)
  refine lv_dup hx hb dL_law_11 rfl ?_
  refine q_ctor (rest := [.ref q2]) (wf := fun u => wX10 k u q_M0) (Rp := fun u : Nat → Nat => u 0 = q2) (X := fun _ => True) C0 hWn (m_X10_init l D k q2 _) (cwI 0 hts gL_law_X10_init rfl rfl rfl (hts (.initialized RX10) (by decide +kernel)) (hts (.methodLink RL 12 yX10_init) (by decide +kernel)) (hts (.instanceMethod yX10_init) (by decide +kernel)) rfl hdi_X10_init ⟨Nat.le_of_ble_eq_true rfl, Nat.le_of_ble_eq_true rfl⟩) (fun _ _ _ => trivial) (fun _ _ _ _ _ => trivial) hl (Nat.le_of_ble_eq_true rfl) dL_law_12 ⟨Nat.le_of_ble_eq_true rfl, Nat.le_of_ble_eq_true rfl⟩ (fun u2 H locs e2 hW => ?_)
  subst e2
  refine lv_astore_n (lv' := [(2, .ref (u2 0)), (1, .ref (u1 0)), (0, .ref b)]) hx hb dL_law_15 rfl hl (by decide) rfl (fun ls hl => ?_)
  refine lv_iconst (v := (0 : Int32)) hx hb dL_law_16 (by decide) ?_
  refine lv_istore_n (lv' := [(3, .int 0), (2, .ref (u2 0)), (1, .ref (u1 0)), (0, .ref b)]) hx hb dL_law_17 rfl hl (by decide) rfl (fun ls hl => ?_)
  have hW : q_W D A s.heap (wX9 k u1 q_S9 ++ wX10 k u2 q_M0) H locs := hW
  refine W.widen (k := 600000) (n := 7302250) (Nat.le_of_ble_eq_true rfl) (Nat.le_of_ble_eq_true rfl) ?_
  exact law_loop l hL D k u1 u2 A C0 hX hbl hbA hAe z Z0 Rel mono ok0 ok1 ok2 ok3 ok4 ok5 ok6 ok7 ok8 ok9 ok10 ok11 ok12 ok13 ok14 ok15 ok16 ok17 ok18 ok19 ok20 (L + 4) 0 0 (by omega) (by omega) (by omega) (by omega) q_S9 q_M0 H locs ls init hW (by rw [nI_0]; exact lv_sub hl [3, 2, 1, 0] rfl)
