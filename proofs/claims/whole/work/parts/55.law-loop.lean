set_option maxHeartbeats 4000000 in
set_option maxRecDepth 100000 in
theorem law_loop {p : Program} {e : Env} {s : State} {m : MethodId} {below : List Frame} {meth : Method} {c : Code} (l : Launch) {b L : Nat} {xs : Nat → Int32} (hL : L ≤ 2048) (D : va_G) (k : Nat → ClassId) (a bq : Nat → Nat) (A : Nat → Prop) (C0 : q_C p s m meth c #[Value.ref b] RL cL_law 4 ret wsL_law D (tyL k) A) (hX : va_X b L xs s s.heap) (hbl : b < s.heap.size) (hbA : ¬ A b) (hgt : A = fun q : Nat => s.heap.size ≤ q) (z : Nat → Nat) (Z0 : q_Z s A z) (Rel : Nat → T2 → T2 → Prop) (mono : ∀ n ξ μ, Rel n ξ μ → Rel (n + 1) ξ μ) (ok0 : Ok_set Rel) (ok1 : Ok_beat Rel) (ok2 : Ok_cut Rel) (ok3 : Ok_pass Rel) (ok4 : Ok_anew Rel) (ok5 : Ok_ofBeat Rel) (ok6 : Ok_ofBlow Rel) (ok7 : Ok_count Rel) (ok8 : Ok_slips Rel) (ok9 : Ok_nextBlow Rel) (ok10 : Ok_ifHeard Rel) (ok11 : Ok_endWith Rel) (ok12 : Ok_bestNudge Rel) (ok13 : Ok_worstBeat Rel) (ok14 : Ok_put Rel) (ok15 : Ok_wipe Rel) (ok16 : Ok_fault Rel) (ok17 : Ok_plan Rel) (ok18 : Ok_undo Rel) (ok19 : Ok_save Rel) (ok20 : Ok_restore Rel) : ∀ (f i n : Nat), L + 4 ≤ i + f → i ≤ L + 3 → 4 * n ≤ i → n ≤ 512 → ∀ (ξ μ : T2) (H : Heap) (locs : List Loc) (ls : Array Slot), Rel n ξ μ → q_W D A s.heap (wX9 k a ξ ++ wX10 k bq μ) H locs → lv_has ls 4 [(0, .ref b), (1, .ref (a 0)), (2, .ref (bq 0)), (3, .int (nI i))] → W p l e room_1 s m #[Value.ref b] below meth c H locs 600000 7302250 (lw_Z below #[Value.ref b] s) (F0 m 18 ls []) := by
  intro f
  induction f with
  | zero => intro i n h1 h2; omega
  | succ f ih =>
    intro i n hf hi h4 hn ξ μ H locs ls hR hW hl
    obtain ⟨hx, hb, hr, hml, hts, hown, hlocks, hK, hA⟩ := id C0
    refine lv_iload_n hx hb dL_law_18 rfl (lv_at hl 3 rfl) ?_
    refine lv_aload_n hx hb dL_law_19 rfl (lv_at hl 0 rfl) ?_
    refine va_slen hx hb hX hbl hbA hW.2.2 dL_law_20 ?_
    refine lv_iconst (v := (4 : Int32)) hx hb dL_law_21 (by decide) ?_
    refine lv_isub hx hb dL_law_22 ?_
    have hcmp : (nI L - nI 4 < nI i) ↔ L < i + 4 := by
      rw [Int32.lt_iff_toInt_lt, pk_sub_toInt (by omega) (by omega), nI_toInt (by omega)]
      omega
    refine lv_icmp_gt (tgt := 651) hx hb dL_law_23 (by decide) (fun hc => ?_) (fun hc => ?_)
    · subst hgt
      refine va_forget (fun q hq => hW.2.2.2.2 q hq) ?_
      refine lv_iconst (v := (1 : Int32)) hx hb dL_law_651 (by decide) ?_
      exact lw_ret hx hb hr hlocks dL_law_652
    · have hi4 : i + 4 ≤ L := by
        have h9 : ¬ (nI L - nI 4 < nI i) := hc
        rw [hcmp] at h9
        omega
      have hn5 : n < 512 := by omega
      have kk : ∀ (ξ μ : T2) (H : Heap) (locs : List Loc) (ls : Array Slot), Rel (n + 1) ξ μ → q_W D A s.heap (wX9 k a ξ ++ wX10 k bq μ) H locs → lv_has ls 4 [(0, .ref b), (1, .ref (a 0)), (2, .ref (bq 0)), (3, .int (nI i))] → W p l e room_1 s m #[Value.ref b] below meth c H locs 600000 7302250 (lw_Z below #[Value.ref b] s) (F0 m 645 ls []) := by
        intro ξ μ H locs ls hR hW hl
        refine lv_iinc (v := nI (i + 4)) (lv' := [(3, .int (nI (i + 4))), (0, .ref b), (1, .ref (a 0)), (2, .ref (bq 0))]) hx hb dL_law_645 hl (k := 3) rfl (by show nI i + nI 4 = nI (i + 4); rw [nI_add]) (by decide) rfl (fun ls hl => ?_)
        refine lv_goto (tgt := 18) hx hb dL_law_648 (by decide) ?_
        exact ih (i + 4) (n + 1) (by omega) (by omega) (by omega) (by omega) ξ μ H locs ls hR hW (lv_sub hl [1, 2, 3, 0] rfl)
      refine lv_aload_n hx hb dL_law_26 rfl (lv_at hl 0 rfl) ?_
      refine lv_iload_n hx hb dL_law_27 rfl (lv_at hl 3 rfl) ?_
      refine va_sld hx hb hX hbl hbA hW.2.2 (vp_in_nI (by omega) (by omega)) dL_law_28 ?_
      refine lv_bipush (v := (31 : Int32)) hx hb dL_law_29 (by decide) ?_
      refine lv_iand hx hb dL_law_31 ?_
      obtain ⟨v, hv⟩ : ∃ v : Int32, v = xs (nI i).toNatClampNeg &&& (31 : Int32) := ⟨_, rfl⟩
      rw [← hv]
      by_cases c0 : v = (0 : Int32)
      · refine lv_tableIn (off := 100) (tgt := 132) hx hb dL_law_32 (by rw [c0]; decide) (by rw [c0]; decide) (by rw [c0]; decide) (by decide) ?_
        exact law_c0 l hL D k a bq A C0 hX hbl hbA z Z0 Rel ok0 n i hi4 hn5 ξ μ hR kk H locs ls hW hl
      by_cases c1 : v = (1 : Int32)
      · refine lv_tableIn (off := 133) (tgt := 165) hx hb dL_law_32 (by rw [c1]; decide) (by rw [c1]; decide) (by rw [c1]; decide) (by decide) ?_
        exact law_c1 l hL D k a bq A C0 hX hbl hbA Rel ok1 n i hi4 hn5 ξ μ hR kk H locs ls hW hl
      by_cases c2 : v = (2 : Int32)
      · refine lv_tableIn (off := 166) (tgt := 198) hx hb dL_law_32 (by rw [c2]; decide) (by rw [c2]; decide) (by rw [c2]; decide) (by decide) ?_
        exact law_c2 l hL D k a bq A C0 hX hbl hbA Rel ok2 n i hi4 hn5 ξ μ hR kk H locs ls hW hl
      by_cases c3 : v = (3 : Int32)
      · refine lv_tableIn (off := 189) (tgt := 221) hx hb dL_law_32 (by rw [c3]; decide) (by rw [c3]; decide) (by rw [c3]; decide) (by decide) ?_
        exact law_c3 l hL D k a bq A C0 hX hbl hbA Rel ok3 n i hi4 hn5 ξ μ hR kk H locs ls hW hl
      by_cases c4 : v = (4 : Int32)
      · refine lv_tableIn (off := 212) (tgt := 244) hx hb dL_law_32 (by rw [c4]; decide) (by rw [c4]; decide) (by rw [c4]; decide) (by decide) ?_
        exact law_c4 l hL D k a bq A C0 hX hbl hbA Rel ok4 n i hi4 hn5 ξ μ hR kk H locs ls hW hl
      by_cases c5 : v = (5 : Int32)
      · refine lv_tableIn (off := 225) (tgt := 257) hx hb dL_law_32 (by rw [c5]; decide) (by rw [c5]; decide) (by rw [c5]; decide) (by decide) ?_
        exact law_c5 l hL D k a bq A C0 hX hbl hbA Rel ok5 n i hi4 hn5 ξ μ hR kk H locs ls hW hl
      by_cases c6 : v = (6 : Int32)
      · refine lv_tableIn (off := 258) (tgt := 290) hx hb dL_law_32 (by rw [c6]; decide) (by rw [c6]; decide) (by rw [c6]; decide) (by decide) ?_
        exact law_c6 l hL D k a bq A C0 hX hbl hbA Rel ok6 n i hi4 hn5 ξ μ hR kk H locs ls hW hl
      by_cases c7 : v = (7 : Int32)
      · refine lv_tableIn (off := 291) (tgt := 323) hx hb dL_law_32 (by rw [c7]; decide) (by rw [c7]; decide) (by rw [c7]; decide) (by decide) ?_
        exact law_c7 l hL D k a bq A C0 hX hbl hbA Rel ok7 n i hi4 hn5 ξ μ hR kk H locs ls hW hl
      by_cases c8 : v = (8 : Int32)
      · refine lv_tableIn (off := 314) (tgt := 346) hx hb dL_law_32 (by rw [c8]; decide) (by rw [c8]; decide) (by rw [c8]; decide) (by decide) ?_
        exact law_c8 l hL D k a bq A C0 hX hbl hbA Rel ok8 n i hi4 hn5 ξ μ hR kk H locs ls hW hl
      by_cases c9 : v = (9 : Int32)
      · refine lv_tableIn (off := 327) (tgt := 359) hx hb dL_law_32 (by rw [c9]; decide) (by rw [c9]; decide) (by rw [c9]; decide) (by decide) ?_
        exact law_c9 l hL D k a bq A C0 hX hbl hbA Rel ok9 n i hi4 hn5 ξ μ hR kk H locs ls hW hl
      by_cases c10 : v = (10 : Int32)
      · refine lv_tableIn (off := 350) (tgt := 382) hx hb dL_law_32 (by rw [c10]; decide) (by rw [c10]; decide) (by rw [c10]; decide) (by decide) ?_
        exact law_c10 l hL D k a bq A C0 hX hbl hbA Rel ok10 n i hi4 hn5 ξ μ hR kk H locs ls hW hl
      by_cases c11 : v = (11 : Int32)
      · refine lv_tableIn (off := 373) (tgt := 405) hx hb dL_law_32 (by rw [c11]; decide) (by rw [c11]; decide) (by rw [c11]; decide) (by decide) ?_
        exact law_c11 l hL D k a bq A C0 hX hbl hbA Rel ok11 n i hi4 hn5 ξ μ hR kk H locs ls hW hl
      by_cases c12 : v = (12 : Int32)
      · refine lv_tableIn (off := 416) (tgt := 448) hx hb dL_law_32 (by rw [c12]; decide) (by rw [c12]; decide) (by rw [c12]; decide) (by decide) ?_
        exact law_c12 l hL D k a bq A C0 hX hbl hbA Rel ok12 n i hi4 hn5 ξ μ hR kk H locs ls hW hl
      by_cases c13 : v = (13 : Int32)
      · refine lv_tableIn (off := 439) (tgt := 471) hx hb dL_law_32 (by rw [c13]; decide) (by rw [c13]; decide) (by rw [c13]; decide) (by decide) ?_
        exact law_c13 l hL D k a bq A C0 hX hbl hbA Rel ok13 n i hi4 hn5 ξ μ hR kk H locs ls hW hl
      by_cases c14 : v = (14 : Int32)
      · refine lv_tableIn (off := 462) (tgt := 494) hx hb dL_law_32 (by rw [c14]; decide) (by rw [c14]; decide) (by rw [c14]; decide) (by decide) ?_
        exact law_c14 l hL D k a bq A C0 hX hbl hbA Rel ok14 n i hi4 hn5 ξ μ hR kk H locs ls hW hl
      by_cases c15 : v = (15 : Int32)
      · refine lv_tableIn (off := 515) (tgt := 547) hx hb dL_law_32 (by rw [c15]; decide) (by rw [c15]; decide) (by rw [c15]; decide) (by decide) ?_
        exact law_c15 l hL D k a bq A C0 hX hbl hbA Rel ok15 n i hi4 hn5 ξ μ hR kk H locs ls hW hl
      by_cases c16 : v = (16 : Int32)
      · refine lv_tableIn (off := 528) (tgt := 560) hx hb dL_law_32 (by rw [c16]; decide) (by rw [c16]; decide) (by rw [c16]; decide) (by decide) ?_
        exact law_c16 l hL D k a bq A C0 hX hbl hbA Rel ok16 n i hi4 hn5 ξ μ hR kk H locs ls hW hl
      by_cases c17 : v = (17 : Int32)
      · refine lv_tableIn (off := 541) (tgt := 573) hx hb dL_law_32 (by rw [c17]; decide) (by rw [c17]; decide) (by rw [c17]; decide) (by decide) ?_
        exact law_c17 l hL D k a bq A C0 hX hbl hbA Rel ok17 n i hi4 hn5 ξ μ hR kk H locs ls hW hl
      by_cases c18 : v = (18 : Int32)
      · refine lv_tableIn (off := 554) (tgt := 586) hx hb dL_law_32 (by rw [c18]; decide) (by rw [c18]; decide) (by rw [c18]; decide) (by decide) ?_
        exact law_c18 l hL D k a bq A C0 hX hbl hbA Rel ok18 n i hi4 hn5 ξ μ hR kk H locs ls hW hl
      by_cases c19 : v = (19 : Int32)
      · refine lv_tableIn (off := 567) (tgt := 599) hx hb dL_law_32 (by rw [c19]; decide) (by rw [c19]; decide) (by rw [c19]; decide) (by decide) ?_
        exact law_c19 l hL D k a bq A C0 hX hbl hbA Rel ok19 n i hi4 hn5 ξ μ hR kk H locs ls hW hl
      by_cases c20 : v = (20 : Int32)
      · refine lv_tableIn (off := 590) (tgt := 622) hx hb dL_law_32 (by rw [c20]; decide) (by rw [c20]; decide) (by rw [c20]; decide) (by decide) ?_
        exact law_c20 l hL D k a bq A C0 hX hbl hbA Rel ok20 n i hi4 hn5 ξ μ hR kk H locs ls hW hl
      refine lv_tableOut (tgt := 645) hx hb dL_law_32 (q_out 20 (by decide) (by intro j hj; rcases (show j = 0 ∨ j = 1 ∨ j = 2 ∨ j = 3 ∨ j = 4 ∨ j = 5 ∨ j = 6 ∨ j = 7 ∨ j = 8 ∨ j = 9 ∨ j = 10 ∨ j = 11 ∨ j = 12 ∨ j = 13 ∨ j = 14 ∨ j = 15 ∨ j = 16 ∨ j = 17 ∨ j = 18 ∨ j = 19 ∨ j = 20 by omega) with rfl | rfl | rfl | rfl | rfl | rfl | rfl | rfl | rfl | rfl | rfl | rfl | rfl | rfl | rfl | rfl | rfl | rfl | rfl | rfl | rfl <;> first | exact c0 | exact c1 | exact c2 | exact c3 | exact c4 | exact c5 | exact c6 | exact c7 | exact c8 | exact c9 | exact c10 | exact c11 | exact c12 | exact c13 | exact c14 | exact c15 | exact c16 | exact c17 | exact c18 | exact c19 | exact c20)) (by decide) ?_
      exact kk ξ μ H locs ls (mono n ξ μ hR) hW hl
