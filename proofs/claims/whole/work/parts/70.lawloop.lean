/-! ===== the law: its loop ===== -/
theorem lp_in {L k : Nat} (hL : L ≤ 2560) (hk : 5 * k ≤ L) (h : ¬ (Int32.ofNat L - nI 5) < nI (5 * k)) : 5 * k + 5 ≤ L := by
  have a1 : (Int32.ofNat L).toInt = L := nI_toInt (n := L) (by omega)
  have a2 := nI_toInt (n := 5 * k) (by omega)
  have a3 : (nI 5).toInt = 5 := by decide
  rw [Int32.lt_iff_toInt_lt, Int32.toInt_sub, a1, a2, a3, Int.bmod_eq_of_le (by omega) (by omega)] at h
  omega
theorem nI_p5 (k : Nat) : nI (5 * k) + Int32.ofInt 5 = nI (5 * (k + 1)) := by
  have e : Int32.ofInt 5 = nI 5 := by decide
  rw [e, nI_add]
  rfl
theorem k021 {x : Int32} (h0 : ¬ x = 0) (h1 : ¬ x = 1) (h2 : ¬ x = 2) (h3 : ¬ x = 3) (h4 : ¬ x = 4) (h5 : ¬ x = 5) (h6 : ¬ x = 6) (h7 : ¬ x = 7) (h8 : ¬ x = 8) (h9 : ¬ x = 9) (h10 : ¬ x = 10) (h11 : ¬ x = 11) (h12 : ¬ x = 12) (h13 : ¬ x = 13) (h14 : ¬ x = 14) (h15 : ¬ x = 15) (h16 : ¬ x = 16) (h17 : ¬ x = 17) (h18 : ¬ x = 18) (h19 : ¬ x = 19) (h20 : ¬ x = 20) (h21 : ¬ x = 21) : ¬ (0 ≤ x.toInt ∧ x.toInt ≤ 21) := by
  rintro ⟨a, b⟩
  obtain ⟨j, hj, rfl⟩ := nI_of (x := x) (by rw [Int32.lt_iff_toInt_lt, i32_20.2.2.1]; omega)
  rw [nI_toInt hj] at b
  rcases (show j = 0 ∨ j = 1 ∨ j = 2 ∨ j = 3 ∨ j = 4 ∨ j = 5 ∨ j = 6 ∨ j = 7 ∨ j = 8 ∨ j = 9 ∨ j = 10 ∨ j = 11 ∨ j = 12 ∨ j = 13 ∨ j = 14 ∨ j = 15 ∨ j = 16 ∨ j = 17 ∨ j = 18 ∨ j = 19 ∨ j = 20 ∨ j = 21 by omega) with rfl | rfl | rfl | rfl | rfl | rfl | rfl | rfl | rfl | rfl | rfl | rfl | rfl | rfl | rfl | rfl | rfl | rfl | rfl | rfl | rfl | rfl
  · exact h0 rfl
  · exact h1 rfl
  · exact h2 rfl
  · exact h3 rfl
  · exact h4 rfl
  · exact h5 rfl
  · exact h6 rfl
  · exact h7 rfl
  · exact h8 rfl
  · exact h9 rfl
  · exact h10 rfl
  · exact h11 rfl
  · exact h12 rfl
  · exact h13 rfl
  · exact h14 rfl
  · exact h15 rfl
  · exact h16 rfl
  · exact h17 rfl
  · exact h18 rfl
  · exact h19 rfl
  · exact h20 rfl
  · exact h21 rfl
set_option maxHeartbeats 4000000 in
set_option maxRecDepth 100000 in
theorem law_loop {p : Program} {l : Launch} {e : Env} {s : State} {m : MethodId} {below : List Frame} {meth : Method} {c : Code} {G : gG} {b L g h : Nat} {xs : Nat → Int32} {nm : String} (hC : gC G p m c cL_law 4 s #[Value.ref b] RL meth ret nm) (hX : va_X b L xs s s.heap) (hbl : b < s.heap.size) (hL : L ≤ 2560) : ∀ (n k : Nat) (st : GS) (H : Heap) (locs : List Loc) (ls : Array Slot), L + 1 ≤ 5 * k + n → 5 * k ≤ L → va_S (fun q : Nat => s.heap.size ≤ q) s.heap H locs → WD G s.heap.size g h st H → lv_has ls 4 [(0, .ref b), (1, .ref g), (2, .ref h), (3, .int (nI (5 * k)))] → W p l e room_1 s m #[Value.ref b] below meth c H locs (46 + 900 * k) (1964 + 3600 * k) (lw_Z below #[Value.ref b] s) (F0 m 18 ls []) := by
  have hx := hC.1.1
  have hb := hC.1.2.1
  have hbA : ¬ (fun q : Nat => s.heap.size ≤ q) b := Nat.not_le.mpr hbl
  intro n
  induction n with
  | zero =>
    intro k st H locs ls h1 h2
    exact absurd h1 (by omega)
  | succ n ih =>
    intro k st H locs ls hn hk0 hS hW hl
    refine lv_iload_n hx hb dL_law_18 rfl (lv_at hl 3 rfl) ?_
    refine lv_aload_n hx hb dL_law_19 rfl (lv_at hl 0 rfl) ?_
    refine va_slen hx hb hX hbl hbA hS dL_law_20 ?_
    refine lv_iconst (v := nI 5) hx hb dL_law_21 (by decide) ?_
    refine lv_isub hx hb dL_law_22 ?_
    refine lv_icmp_gt (tgt := 760) hx hb dL_law_23 (by decide) (fun c23 => ?_) (fun c23 => ?_)
    · refine lv_iconst (v := 1) hx hb dL_law_760 (by decide) ?_
      refine va_forget (fun q hq => hS.2.2 q hq) ?_
      refine W.widen (k := 653078) (n := 7143014) (by omega) (by omega) ?_
      exact lw_ret hx hb hC.2.2.1 hC.2.2.2.1 dL_law_761
    · have hk := lp_in hL hk0 c23
      have kn : ∀ (st1 : GS) (H1 : Heap) (locs1 : List Loc), WD G s.heap.size g h st1 H1 → va_S (fun q : Nat => s.heap.size ≤ q) s.heap H1 locs1 → W p l e room_1 s m #[Value.ref b] below meth c H1 locs1 (46 + 900 * (k + 1)) (1964 + 3600 * (k + 1)) (lw_Z below #[Value.ref b] s) (F0 m 754 ls []) := fun st1 H1 locs1 hW1 hS1 => by
        refine lv_iinc (v := nI (5 * (k + 1))) (lv' := [(3, .int (nI (5 * (k + 1)))), (0, .ref b), (1, .ref g), (2, .ref h)]) hx hb dL_law_754 hl (k := 3) rfl (nI_p5 k) (by decide) rfl (fun ls hl => ?_)
        refine lv_goto (tgt := 18) hx hb dL_law_757 (by decide) ?_
        exact ih (k + 1) st1 H1 locs1 ls (by omega) (by omega) hS1 hW1 (lv_sub hl [1, 2, 3, 0] rfl)
      refine lv_aload_n hx hb dL_law_26 rfl (lv_at hl 0 rfl) ?_
      refine lv_iload_n hx hb dL_law_27 rfl (lv_at hl 3 rfl) ?_
      refine va_sld hx hb hX hbl hbA hS (vp_in_nI (by omega) (by omega)) dL_law_28 ?_
      refine lv_bipush (v := nI 31) hx hb dL_law_29 (by decide) ?_
      refine lv_iand hx hb dL_law_31 ?_
      generalize (xs (nI (5 * k)).toNatClampNeg &&& nI 31) = v
      by_cases hsw0 : v = 0
      · refine lv_tableIn (tgt := 136) (off := 104) hx hb dL_law_32 (by rw [hsw0]; decide) (by rw [hsw0]; decide) (by rw [hsw0]; decide) (by decide) ?_
        exact la_game hC hX hbl hS hW hk hL hl kn
      by_cases hsw1 : v = 1
      · refine lv_tableIn (tgt := 169) (off := 137) hx hb dL_law_32 (by rw [hsw1]; decide) (by rw [hsw1]; decide) (by rw [hsw1]; decide) (by decide) ?_
        exact la_pay hC hX hbl hS hW hk hL hl kn
      by_cases hsw2 : v = 2
      · refine lv_tableIn (tgt := 222) (off := 190) hx hb dL_law_32 (by rw [hsw2]; decide) (by rw [hsw2]; decide) (by rw [hsw2]; decide) (by decide) ?_
        exact la_paid hC hX hbl hS hW hk hL hl kn
      by_cases hsw3 : v = 3
      · refine lv_tableIn (tgt := 265) (off := 233) hx hb dL_law_32 (by rw [hsw3]; decide) (by rw [hsw3]; decide) (by rw [hsw3]; decide) (by decide) ?_
        exact la_weight hC hX hbl hS hW hk hL hl kn
      by_cases hsw4 : v = 4
      · refine lv_tableIn (tgt := 308) (off := 276) hx hb dL_law_32 (by rw [hsw4]; decide) (by rw [hsw4]; decide) (by rw [hsw4]; decide) (by decide) ?_
        exact la_mean hC hX hbl hS hW hk hL hl kn
      by_cases hsw5 : v = 5
      · refine lv_tableIn (tgt := 342) (off := 310) hx hb dL_law_32 (by rw [hsw5]; decide) (by rw [hsw5]; decide) (by rw [hsw5]; decide) (by decide) ?_
        exact la_answers hC hX hbl hS hW hk hL hl kn
      by_cases hsw6 : v = 6
      · refine lv_tableIn (tgt := 365) (off := 333) hx hb dL_law_32 (by rw [hsw6]; decide) (by rw [hsw6]; decide) (by rw [hsw6]; decide) (by decide) ?_
        exact la_is hC hX hbl hS hW hk hL hl kn
      by_cases hsw7 : v = 7
      · refine lv_tableIn (tgt := 378) (off := 346) hx hb dL_law_32 (by rw [hsw7]; decide) (by rw [hsw7]; decide) (by rw [hsw7]; decide) (by decide) ?_
        exact la_why hC hX hbl hS hW hk hL hl kn
      by_cases hsw8 : v = 8
      · refine lv_tableIn (tgt := 391) (off := 359) hx hb dL_law_32 (by rw [hsw8]; decide) (by rw [hsw8]; decide) (by rw [hsw8]; decide) (by decide) ?_
        exact la_worse hC hX hbl hS hW hk hL hl kn
      by_cases hsw9 : v = 9
      · refine lv_tableIn (tgt := 424) (off := 392) hx hb dL_law_32 (by rw [hsw9]; decide) (by rw [hsw9]; decide) (by rw [hsw9]; decide) (by decide) ?_
        exact la_left hC hX hbl hS hW hk hL hl kn
      by_cases hsw10 : v = 10
      · refine lv_tableIn (tgt := 447) (off := 415) hx hb dL_law_32 (by rw [hsw10]; decide) (by rw [hsw10]; decide) (by rw [hsw10]; decide) (by decide) ?_
        exact la_times hC hX hbl hS hW hk hL hl kn
      by_cases hsw11 : v = 11
      · refine lv_tableIn (tgt := 460) (off := 428) hx hb dL_law_32 (by rw [hsw11]; decide) (by rw [hsw11]; decide) (by rw [hsw11]; decide) (by decide) ?_
        exact la_sure hC hX hbl hS hW hk hL hl kn
      by_cases hsw12 : v = 12
      · refine lv_tableIn (tgt := 483) (off := 451) hx hb dL_law_32 (by rw [hsw12]; decide) (by rw [hsw12]; decide) (by rw [hsw12]; decide) (by decide) ?_
        exact la_hold hC hX hbl hS hW hk hL hl kn
      by_cases hsw13 : v = 13
      · refine lv_tableIn (tgt := 506) (off := 474) hx hb dL_law_32 (by rw [hsw13]; decide) (by rw [hsw13]; decide) (by rw [hsw13]; decide) (by decide) ?_
        exact la_corners hC hX hbl hS hW hk hL hl kn
      by_cases hsw14 : v = 14
      · refine lv_tableIn (tgt := 529) (off := 497) hx hb dL_law_32 (by rw [hsw14]; decide) (by rw [hsw14]; decide) (by rw [hsw14]; decide) (by decide) ?_
        exact la_corner hC hX hbl hS hW hk hL hl kn
      by_cases hsw15 : v = 15
      · refine lv_tableIn (tgt := 582) (off := 550) hx hb dL_law_32 (by rw [hsw15]; decide) (by rw [hsw15]; decide) (by rw [hsw15]; decide) (by decide) ?_
        exact la_balances hC hX hbl hS hW hk hL hl kn
      by_cases hsw16 : v = 16
      · refine lv_tableIn (tgt := 595) (off := 563) hx hb dL_law_32 (by rw [hsw16]; decide) (by rw [hsw16]; decide) (by rw [hsw16]; decide) (by decide) ?_
        exact la_balance hC hX hbl hS hW hk hL hl kn
      by_cases hsw17 : v = 17
      · refine lv_tableIn (tgt := 629) (off := 597) hx hb dL_law_32 (by rw [hsw17]; decide) (by rw [hsw17]; decide) (by rw [hsw17]; decide) (by decide) ?_
        exact la_find hC hX hbl hS hW hk hL hl kn
      by_cases hsw18 : v = 18
      · refine lv_tableIn (tgt := 642) (off := 610) hx hb dL_law_32 (by rw [hsw18]; decide) (by rw [hsw18]; decide) (by rw [hsw18]; decide) (by decide) ?_
        exact la_turn hC hX hbl hS hW hk hL hl kn
      by_cases hsw19 : v = 19
      · refine lv_tableIn (tgt := 655) (off := 623) hx hb dL_law_32 (by rw [hsw19]; decide) (by rw [hsw19]; decide) (by rw [hsw19]; decide) (by decide) ?_
        exact la_raise hC hX hbl hS hW hk hL hl kn
      by_cases hsw20 : v = 20
      · refine lv_tableIn (tgt := 698) (off := 666) hx hb dL_law_32 (by rw [hsw20]; decide) (by rw [hsw20]; decide) (by rw [hsw20]; decide) (by decide) ?_
        exact la_scale hC hX hbl hS hW hk hL hl kn
      by_cases hsw21 : v = 21
      · refine lv_tableIn (tgt := 731) (off := 699) hx hb dL_law_32 (by rw [hsw21]; decide) (by rw [hsw21]; decide) (by rw [hsw21]; decide) (by decide) ?_
        exact la_status hC hX hbl hS hW hk hL hl kn
      refine lv_tableOut (tgt := 754) hx hb dL_law_32 (g_out (by decide) (k021 hsw0 hsw1 hsw2 hsw3 hsw4 hsw5 hsw6 hsw7 hsw8 hsw9 hsw10 hsw11 hsw12 hsw13 hsw14 hsw15 hsw16 hsw17 hsw18 hsw19 hsw20 hsw21)) (by decide) ?_
      refine W.widen (k := 46 + 900 * (k + 1)) (n := 1964 + 3600 * (k + 1)) (by omega) (by omega) ?_
      exact kn st H locs hW hS
