/-! ===== the reference: whyNot, is, why ===== -/
theorem msk_q : ∀ b0 b1 b2 b3 : Bool, ∀ j, j < 4 → (msk (g4 b0 b1 b2 b3) 4).testBit j = g4 b0 b1 b2 b3 j := by decide +kernel
theorem msk_tb {p : Nat → Bool} {j : Nat} (hj : j < 4) : (msk p 4).testBit j = p j := by
  rw [msk_congr 4 (g4_eq p), msk_q _ _ _ _ j hj, ← g4_eq p j hj]
theorem used_tb {X : Nat → Int64} {j : Nat} (hj : j < 4) : (usedB X 4).testBit j = decide (0 < X j) := msk_tb hj
theorem adn_tb {u n j : Nat} (hu : u < 16) (hn : n < 16) (hj : j < 4) : (adn u n).testBit j = (u.testBit j && !n.testBit j) := by
  have q : ∀ u, u < 16 → ∀ n, n < 16 → ∀ j, j < 4 → (adn u n).testBit j = (u.testBit j && !n.testBit j) := by decide +kernel
  exact q u hu n hn j hj
theorem tw_used {w : Nat → Int32} {ch j : Nat} (hj : j < 4) : (usedB (twS w ch) 4).testBit j = (decide (j < ch) && decide (0 < w j)) := by
  rw [used_tb hj]
  unfold twS
  by_cases h : j < ch
  · rw [if_pos h, decide_eq_true h, Bool.true_and]
    apply decide_eq_decide.mpr
    rw [Int64.lt_iff_toInt_lt, Int32.lt_iff_toInt_lt, Int32.toInt_toInt64, i64_20.2.2, i32_20.2.2.1]
  · rw [if_neg h, decide_eq_false h, Bool.false_and]
    rfl
theorem wy_f1 {w : Nat → Int32} {ch j n : Nat} (hj : j < 4) (hn : n < 16) (h : ¬ j < ch ∨ w j ≤ 0) : (adn (usedB (twS w ch) 4) n).testBit j = false := by
  rw [adn_tb (u := usedB (twS w ch) 4) (msk_lt16 _ (Nat.le_refl 4)) hn hj, tw_used hj]
  rcases h with h | h
  · rw [decide_eq_false h]; rfl
  · rw [decide_eq_false (Int32.not_lt.mpr h), Bool.and_false]; rfl
theorem wy_f2 {u j n : Nat} (hj : j < 4) (hu : u < 16) (hn : n < 16) (h : n.testBit j = true) : (adn u n).testBit j = false := by
  rw [adn_tb hu hn hj, h]
  exact Bool.and_false _
theorem wy_t {w : Nat → Int32} {ch j n : Nat} (hj : j < 4) (hn : n < 16) (h : j < ch) (h2 : ¬ w j ≤ 0) (h3 : n.testBit j = false) : (adn (usedB (twS w ch) 4) n).testBit j = true := by
  rw [adn_tb (u := usedB (twS w ch) 4) (msk_lt16 _ (Nat.le_refl 4)) hn hj, tw_used hj, h3, decide_eq_true h, decide_eq_true (Int32.not_le.mp h2)]
  rfl
theorem fst_z {x : Nat} (hx : x < 16) : fst4 x.testBit = none ↔ x = 0 := by
  have q : ∀ x, x < 16 → (fst4 x.testBit = none ↔ x = 0) := by decide +kernel
  exact q x hx
theorem why_fit {v w : MixV} (hv : vOK v) (hw : vOK w) : whyV v w = -9 ↔ fitV v w = true := by
  have a := fst_z (adn_lt (n := w.2.2.2) hv.1)
  have b := fst_z (adn_lt (n := v.2.2.2) hw.1)
  have e : fitV v w = (decide (adn v.2.2.1 w.2.2.2 = 0) && decide (adn w.2.2.1 v.2.2.2 = 0)) := rfl
  rw [e, Bool.and_eq_true, decide_eq_true_eq, decide_eq_true_eq, ← a, ← b]
  unfold whyV
  cases h1 : fst4 (adn v.2.2.1 w.2.2.2).testBit with
  | some k =>
    have hk := fst4_b h1
    constructor
    · intro q
      have := nI_pos hk
      rw [show nI k = -9 from q] at this
      exact absurd (by decide) this
    · intro q
      cases q.1
  | none =>
    cases h2 : fst4 (adn w.2.2.1 v.2.2.2).testBit with
    | some k =>
      have hk := (fst4_lt h2).1
      constructor
      · intro q
        have q : nI 10 + nI k = -9 := q
        rw [nI_add] at q
        have := nI_pos (n := 10 + k) (by omega)
        rw [q] at this
        exact absurd (by decide) this
      · intro q
        cases q.2
    | none => exact ⟨fun _ => ⟨rfl, rfl⟩, fun _ => rfl⟩
theorem gsT_ok {st : GS} (hm : gsm st ≤ 4) (hn : gsn st ≤ 4) : vOK (gsT0 st) ∧ vOK (gsT1 st) := ⟨twV_ok hn, twV_ok hm⟩
set_option maxHeartbeats 4000000 in
set_option maxRecDepth 100000 in
theorem c_X5_whyNot (l : Launch) {G : gG} {T : gTy} {I : gI} {J : gJ} {Q : gR} {O : gO} {H : Heap} (hP : gP G T I J Q O H) {h : Nat} {st : GS} (hm : isMo T O h) (hs0 : moS I h st) : Met l yX5_whyNot (gw yX5_whyNot cX5_whyNot 4 (some (.int))) ({ frames := 3, cells := 0, slots := 0, locals := 74 } : Room) (gPc G H [.ref h]) (gQc (gF T H) (fun r H1 => r = some (.int (whyV (gsT0 st) (gsT1 st))) ∧ ∃ J2 : gJ, gP G T I J2 Q O H1)) 0 0 (gF T H) := by
  refine g_met [(0, .ref h)] (by decide) rfl (by exact Nat.le_of_ble_eq_true rfl) ?_
  intro p e s m below meth c hC hs ls hl
  have hx := hC.1.1
  have hb := hC.1.2.1
  have hS : va_S (gF T H) s.heap H [] := hs ▸ va_S.rf
  have hTA : ∀ q, (T q).1 ≠ 0 → gF T H q := fun q h => Or.inl h
  have hA : ∀ q, s.heap.size ≤ q → gF T H q := fun q h => Or.inr (hs ▸ h)
  generalize hAe : gF T H = A at hS hTA hA ⊢
  have hms := hs0.1
  have hns := hs0.2.1
  have hT := gsT_ok (st := st) (by omega) (by omega)
  refine lv_iconst (v := nI 0) hx hb dX5_whyNot_0 (by decide) ?_
  refine lv_istore_n (lv' := [(1, .int (nI 0)), (0, .ref h)]) hx hb dX5_whyNot_1 rfl hl (by decide) rfl (fun ls hl => ?_)
  refine lv_iload_n hx hb dX5_whyNot_2 rfl (lv_at hl 0 rfl) ?_
  refine lv_iconst (v := nI 2) hx hb dX5_whyNot_3 (by decide) ?_
  refine lv_icmp_ge (tgt := 65) hx hb dX5_whyNot_4 (by decide) (fun q => absurd q (by decide)) (fun _ => ?_)
  refine lv_aload_n hx hb dX5_whyNot_7 rfl (lv_at hl 1 rfl) ?_
  refine lv_iload_n hx hb dX5_whyNot_8 rfl (lv_at hl 0 rfl) ?_
  refine g_cc (g_rV (As := [.int (nI 0)]) hC hP (c_X5_trayAnswers_0 l hP (h := h) (by first | assumption | omega) (by first | assumption | omega)) hm.1 rfl ⟨q3_131, q3_128, q3_130, qs_32, q1_6⟩ dd_X5_trayAnswers ⟨Nat.le_of_ble_eq_true rfl, Nat.le_of_ble_eq_true rfl, rfl, rfl⟩ hl.1 rfl (Nat.le_of_ble_eq_true rfl) dX5_whyNot_9 ⟨Nat.le_of_ble_eq_true rfl, Nat.le_of_ble_eq_true rfl⟩) hS (fun q h => h.elim (hTA q) (fun z => hA q (Nat.le_trans hS.1 z))) (fun r5 H1 locs2 hq6 hS hz3 hfr4 => ?_)
  obtain ⟨rfl, hP⟩ := hq6
  obtain ⟨J7, hJ7, hP⟩ : ∃ J7 : gJ, J7 = gu (gu J (h + 5) (trayX (J (h + 5)) (gsw0 st) (gsm st) 4)) (h + 6) (trayX (J (h + 6)) (gsw1 st) (gsn st) 4) ∧ gP G T I J7 Q O H1 := ⟨_, rfl, hP⟩
  refine W.eq (g2 := F0 m 12 ls [.int (nI ((gsT1 st).2.2.2))]) rfl ?_
  refine lv_istore_n (lv' := [(2, .int (nI ((gsT1 st).2.2.2))), (1, .int (nI 0)), (0, .ref h)]) hx hb dX5_whyNot_12 rfl hl (by decide) rfl (fun ls hl => ?_)
  refine lv_iconst (v := nI 0) hx hb dX5_whyNot_13 (by decide) ?_
  refine lv_istore_n (lv' := [(3, .int (nI 0)), (2, .int (nI ((gsT1 st).2.2.2))), (1, .int (nI 0)), (0, .ref h)]) hx hb dX5_whyNot_14 rfl hl (by decide) rfl (fun ls hl => ?_)
  have L15 : ∀ (n15 : Nat) (z0 : Nat), 5 ≤ n15 + z0 → (z0 ≤ gsm st) → (∀ j, j < z0 → (adn (gsT0 st).2.2.1 (gsT1 st).2.2.2).testBit j = false) → ∀ (Hl : Heap) (lcl : List Loc), gP G T I J7 Q O Hl → va_S A s.heap Hl lcl → ∀ ls : Array Slot, lv_has ls 4 [(0, .ref h), (1, .int (nI 0)), (2, .int (nI ((gsT1 st).2.2.2))), (3, .int (nI z0))] → W p l e ({ frames := 3, cells := 0, slots := 0, locals := 74 } : Room) s m [.ref h].toArray below meth c Hl lcl 0 0 (MQ below (gQc A (fun r H1 => r = some (.int (whyV (gsT0 st) (gsT1 st))) ∧ ∃ J2 : gJ, gP G T I J2 Q O H1)) [.ref h].toArray s 0 0 A) (F0 m 15 ls []) := by
    intro n15
    induction n15 with
    | zero => intro z0 hn15 hz0 u0; exact absurd hn15 (by omega)
    | succ n15 ih15 =>
      intro z0 hn15 hz0 u0 Hl lcl hP hS ls hl
      refine lv_iload_n hx hb dX5_whyNot_15 rfl (lv_at hl 3 rfl) ?_
      refine lv_aload_n hx hb dX5_whyNot_16 rfl (lv_at hl 0 rfl) ?_
      refine g_get hC hP hm.1 rfl inX5 0 (by decide) q3_6 hm.2.1.1 dX5_whyNot_17 ?_
      refine lv_iload_n hx hb dX5_whyNot_20 rfl (lv_at hl 1 rfl) ?_
      refine g_iald hC hP hm.2.1.2 (vp_in_nI (by omega) (by decide)) dX5_whyNot_21 ?_
      refine g_topi (y := nI (gsm st)) hs0.2.2.1 ?_
      refine lv_icmp_ge (tgt := 59) hx hb dX5_whyNot_22 (by decide) (fun c22 => ?_) (fun c22 => ?_)
      · have c22 := (nI_leI (by omega) (by omega)).mp c22
        refine lv_iinc (v := nI 1) (lv' := [(1, .int (nI 1)), (0, .ref h), (2, .int (nI ((gsT1 st).2.2.2))), (3, .int (nI z0))]) hx hb dX5_whyNot_59 hl (k := 1) rfl (by decide) (by decide) rfl (fun ls hl => ?_)
        refine lv_goto (tgt := 2) hx hb dX5_whyNot_62 (by decide) ?_
        refine lv_iload_n hx hb dX5_whyNot_2 rfl (lv_at hl 0 rfl) ?_
        refine lv_iconst (v := nI 2) hx hb dX5_whyNot_3 (by decide) ?_
        refine lv_icmp_ge (tgt := 65) hx hb dX5_whyNot_4 (by decide) (fun q => absurd q (by decide)) (fun _ => ?_)
        refine lv_aload_n hx hb dX5_whyNot_7 rfl (lv_at hl 1 rfl) ?_
        refine lv_iload_n hx hb dX5_whyNot_8 rfl (lv_at hl 0 rfl) ?_
        refine g_cc (g_rV (As := [.int (nI 1)]) hC hP (c_X5_trayAnswers_1 l hP (h := h) (by first | assumption | omega) (by first | assumption | omega)) hm.1 rfl ⟨q3_131, q3_128, q3_130, qs_32, q1_6⟩ dd_X5_trayAnswers ⟨Nat.le_of_ble_eq_true rfl, Nat.le_of_ble_eq_true rfl, rfl, rfl⟩ hl.1 rfl (Nat.le_of_ble_eq_true rfl) dX5_whyNot_9 ⟨Nat.le_of_ble_eq_true rfl, Nat.le_of_ble_eq_true rfl⟩) hS (fun q h => h.elim (hTA q) (fun z => hA q (Nat.le_trans hS.1 z))) (fun r12 H8 locs9 hq13 hS hz10 hfr11 => ?_)
        obtain ⟨rfl, hP⟩ := hq13
        obtain ⟨J14, hJ14, hP⟩ : ∃ J14 : gJ, J14 = gu (gu J7 (h + 5) (trayX (J7 (h + 5)) (gsw0 st) (gsm st) 4)) (h + 6) (trayX (J7 (h + 6)) (gsw1 st) (gsn st) 4) ∧ gP G T I J14 Q O H8 := ⟨_, rfl, hP⟩
        refine W.eq (g2 := F0 m 12 ls [.int (nI ((gsT0 st).2.2.2))]) rfl ?_
        refine lv_istore_n (lv' := [(2, .int (nI ((gsT0 st).2.2.2))), (1, .int (nI 1)), (0, .ref h), (3, .int (nI z0))]) hx hb dX5_whyNot_12 rfl hl (by decide) rfl (fun ls hl => ?_)
        refine lv_iconst (v := nI 0) hx hb dX5_whyNot_13 (by decide) ?_
        refine lv_istore_n (lv' := [(3, .int (nI 0)), (2, .int (nI ((gsT0 st).2.2.2))), (1, .int (nI 1)), (0, .ref h)]) hx hb dX5_whyNot_14 rfl hl (by decide) rfl (fun ls hl => ?_)
        have L15 : ∀ (n15 : Nat) (z1 : Nat), 5 ≤ n15 + z1 → (z1 ≤ gsn st) → (∀ j, j < z1 → (adn (gsT1 st).2.2.1 (gsT0 st).2.2.2).testBit j = false) → ∀ (Hl : Heap) (lcl : List Loc), gP G T I J14 Q O Hl → va_S A s.heap Hl lcl → ∀ ls : Array Slot, lv_has ls 4 [(0, .ref h), (1, .int (nI 1)), (2, .int (nI ((gsT0 st).2.2.2))), (3, .int (nI z1))] → W p l e ({ frames := 3, cells := 0, slots := 0, locals := 74 } : Room) s m [.ref h].toArray below meth c Hl lcl 0 0 (MQ below (gQc A (fun r H1 => r = some (.int (whyV (gsT0 st) (gsT1 st))) ∧ ∃ J2 : gJ, gP G T I J2 Q O H1)) [.ref h].toArray s 0 0 A) (F0 m 15 ls []) := by
          intro n15
          induction n15 with
          | zero => intro z1 hn15 hz1 u1; exact absurd hn15 (by omega)
          | succ n15 ih15 =>
            intro z1 hn15 hz1 u1 Hl lcl hP hS ls hl
            refine lv_iload_n hx hb dX5_whyNot_15 rfl (lv_at hl 3 rfl) ?_
            refine lv_aload_n hx hb dX5_whyNot_16 rfl (lv_at hl 0 rfl) ?_
            refine g_get hC hP hm.1 rfl inX5 0 (by decide) q3_6 hm.2.1.1 dX5_whyNot_17 ?_
            refine lv_iload_n hx hb dX5_whyNot_20 rfl (lv_at hl 1 rfl) ?_
            refine g_iald hC hP hm.2.1.2 (vp_in_nI (by omega) (by decide)) dX5_whyNot_21 ?_
            refine g_topi (y := nI (gsn st)) hs0.2.2.2.1 ?_
            refine lv_icmp_ge (tgt := 59) hx hb dX5_whyNot_22 (by decide) (fun c22 => ?_) (fun c22 => ?_)
            · have c22 := (nI_leI (by omega) (by omega)).mp c22
              refine lv_iinc (v := nI 2) (lv' := [(1, .int (nI 2)), (0, .ref h), (2, .int (nI ((gsT0 st).2.2.2))), (3, .int (nI z1))]) hx hb dX5_whyNot_59 hl (k := 1) rfl (by decide) (by decide) rfl (fun ls hl => ?_)
              refine lv_goto (tgt := 2) hx hb dX5_whyNot_62 (by decide) ?_
              refine lv_iload_n hx hb dX5_whyNot_2 rfl (lv_at hl 0 rfl) ?_
              refine lv_iconst (v := nI 2) hx hb dX5_whyNot_3 (by decide) ?_
              refine lv_icmp_ge (tgt := 65) hx hb dX5_whyNot_4 (by decide) (fun _ => ?_) (fun q => absurd (by decide) q)
              refine lv_bipush (v := (-9)) hx hb dX5_whyNot_65 (by decide) ?_
              refine g_retci hC hS ?_ dX5_whyNot_67
              refine ⟨?_, _, hP⟩
              rw [show whyV (gsT0 st) (gsT1 st) = -9 from by unfold whyV; rw [fst4_none (fun k hk => by by_cases e : k < z0; (exact u0 k e); (exact wy_f1 hk hT.2.2 (Or.inl (by omega)))), fst4_none (fun k hk => by by_cases e : k < z1; (exact u1 k e); (exact wy_f1 hk hT.1.2 (Or.inl (by omega))))]]
            · have c22 := mt (nI_leI (by omega) (by omega)).mpr c22
              refine lv_aload_n hx hb dX5_whyNot_25 rfl (lv_at hl 0 rfl) ?_
              refine g_get hC hP hm.1 rfl inX5 2 (by decide) q3_8 hm.2.2.2.1.1 dX5_whyNot_26 ?_
              refine lv_iconst (v := nI 4) hx hb dX5_whyNot_29 (by decide) ?_
              refine lv_iload_n hx hb dX5_whyNot_30 rfl (lv_at hl 1 rfl) ?_
              refine lv_imul hx hb dX5_whyNot_31 ?_
              refine g_topi (y := nI (4 * 1)) (nI_mul _ _) ?_
              refine lv_iload_n hx hb dX5_whyNot_32 rfl (lv_at hl 3 rfl) ?_
              refine lv_iadd hx hb dX5_whyNot_33 ?_
              refine g_topi (y := nI (4 * 1 + z1)) (nI_add _ _) ?_
              refine g_iald hC hP hm.2.2.2.1.2 (vp_in_nI (by omega) (by decide)) dX5_whyNot_34 ?_
              refine g_topi (y := gsw1 st z1) ((congrArg (I (h + 3)) (nI_clamp (by omega))).trans (hs0.2.2.2.2.2.2.2.1 z1 (by omega))) ?_
              refine lv_if_le (tgt := 53) hx hb dX5_whyNot_35 (by decide) (fun c35 => ?_) (fun c35 => ?_)
              · refine lv_iinc (v := nI (z1 + 1)) (lv' := [(3, .int (nI (z1 + 1))), (0, .ref h), (1, .int (nI 1)), (2, .int (nI ((gsT0 st).2.2.2)))]) hx hb dX5_whyNot_53 hl (k := 3) rfl (nI_inc _) (by decide) rfl (fun ls hl => ?_)
                refine lv_goto (tgt := 15) hx hb dX5_whyNot_56 (by decide) ?_
                exact ih15 (z1 + 1) (by omega) (by omega) (fun j hj => by rcases Nat.lt_succ_iff_lt_or_eq.mp hj with h | rfl; (exact u1 j h); first | exact wy_f1 (by omega) hT.1.2 (Or.inr c35) | exact wy_f2 (by omega) hT.2.1 hT.1.2 c43) _ _ hP hS ls (lv_sub hl [1, 2, 3, 0] rfl)
              · refine lv_iload_n hx hb dX5_whyNot_38 rfl (lv_at hl 2 rfl) ?_
                refine lv_iload_n hx hb dX5_whyNot_39 rfl (lv_at hl 3 rfl) ?_
                refine lv_ishr hx hb dX5_whyNot_40 ?_
                refine lv_iconst (v := nI 1) hx hb dX5_whyNot_41 (by decide) ?_
                refine lv_iand hx hb dX5_whyNot_42 ?_
                refine g_topi (y := gb ((gsT0 st).2.2.2.testBit z1)) ((g_bit hT.1.2 (by omega)).trans (by cases (gsT0 st).2.2.2.testBit z1 <;> rfl)) ?_
                refine lv_if_ne (tgt := 53) hx hb dX5_whyNot_43 (by decide) (fun c43 => ?_) (fun c43 => ?_)
                · have c43 := gb_t c43
                  refine lv_iinc (v := nI (z1 + 1)) (lv' := [(3, .int (nI (z1 + 1))), (0, .ref h), (1, .int (nI 1)), (2, .int (nI ((gsT0 st).2.2.2)))]) hx hb dX5_whyNot_53 hl (k := 3) rfl (nI_inc _) (by decide) rfl (fun ls hl => ?_)
                  refine lv_goto (tgt := 15) hx hb dX5_whyNot_56 (by decide) ?_
                  exact ih15 (z1 + 1) (by omega) (by omega) (fun j hj => by rcases Nat.lt_succ_iff_lt_or_eq.mp hj with h | rfl; (exact u1 j h); first | exact wy_f1 (by omega) hT.1.2 (Or.inr c35) | exact wy_f2 (by omega) hT.2.1 hT.1.2 c43) _ _ hP hS ls (lv_sub hl [1, 2, 3, 0] rfl)
                · have c43 := gb_f c43
                  refine lv_bipush (v := nI 10) hx hb dX5_whyNot_46 (by decide) ?_
                  refine lv_iload_n hx hb dX5_whyNot_48 rfl (lv_at hl 1 rfl) ?_
                  refine lv_imul hx hb dX5_whyNot_49 ?_
                  refine g_topi (y := nI (10 * 1)) (nI_mul _ _) ?_
                  refine lv_iload_n hx hb dX5_whyNot_50 rfl (lv_at hl 3 rfl) ?_
                  refine lv_iadd hx hb dX5_whyNot_51 ?_
                  refine g_topi (y := nI (10 * 1 + z1)) (nI_add _ _) ?_
                  refine g_retci hC hS ?_ dX5_whyNot_52
                  refine ⟨?_, _, hP⟩
                  rw [show whyV (gsT0 st) (gsT1 st) = nI 10 + nI z1 from by unfold whyV; rw [fst4_none (fun k hk => by by_cases e : k < z0; (exact u0 k e); (exact wy_f1 hk hT.2.2 (Or.inl (by omega)))), fst4_some (by omega) (show (adn (gsT1 st).2.2.1 (gsT0 st).2.2.2).testBit z1 = true from wy_t (by omega) hT.1.2 (by omega) c35 c43) u1]]
                  rw [nI_add]
        exact L15 5 0 (by omega) (by omega) (fun j hj => absurd hj (Nat.not_lt_zero j)) _ _ hP hS ls (lv_sub hl [3, 2, 1, 0] rfl)
      · have c22 := mt (nI_leI (by omega) (by omega)).mpr c22
        refine lv_aload_n hx hb dX5_whyNot_25 rfl (lv_at hl 0 rfl) ?_
        refine g_get hC hP hm.1 rfl inX5 2 (by decide) q3_8 hm.2.2.2.1.1 dX5_whyNot_26 ?_
        refine lv_iconst (v := nI 4) hx hb dX5_whyNot_29 (by decide) ?_
        refine lv_iload_n hx hb dX5_whyNot_30 rfl (lv_at hl 1 rfl) ?_
        refine lv_imul hx hb dX5_whyNot_31 ?_
        refine g_topi (y := nI (4 * 0)) (nI_mul _ _) ?_
        refine lv_iload_n hx hb dX5_whyNot_32 rfl (lv_at hl 3 rfl) ?_
        refine lv_iadd hx hb dX5_whyNot_33 ?_
        refine g_topi (y := nI (4 * 0 + z0)) (nI_add _ _) ?_
        refine g_iald hC hP hm.2.2.2.1.2 (vp_in_nI (by omega) (by decide)) dX5_whyNot_34 ?_
        refine g_topi (y := gsw0 st z0) ((congrArg (I (h + 3)) (nI_clamp (by omega))).trans (by rw [show 4 * 0 + z0 = z0 from by omega]; exact hs0.2.2.2.2.2.2.1 z0 (by omega))) ?_
        refine lv_if_le (tgt := 53) hx hb dX5_whyNot_35 (by decide) (fun c35 => ?_) (fun c35 => ?_)
        · refine lv_iinc (v := nI (z0 + 1)) (lv' := [(3, .int (nI (z0 + 1))), (0, .ref h), (1, .int (nI 0)), (2, .int (nI ((gsT1 st).2.2.2)))]) hx hb dX5_whyNot_53 hl (k := 3) rfl (nI_inc _) (by decide) rfl (fun ls hl => ?_)
          refine lv_goto (tgt := 15) hx hb dX5_whyNot_56 (by decide) ?_
          exact ih15 (z0 + 1) (by omega) (by omega) (fun j hj => by rcases Nat.lt_succ_iff_lt_or_eq.mp hj with h | rfl; (exact u0 j h); first | exact wy_f1 (by omega) hT.2.2 (Or.inr c35) | exact wy_f2 (by omega) hT.1.1 hT.2.2 c43) _ _ hP hS ls (lv_sub hl [1, 2, 3, 0] rfl)
        · refine lv_iload_n hx hb dX5_whyNot_38 rfl (lv_at hl 2 rfl) ?_
          refine lv_iload_n hx hb dX5_whyNot_39 rfl (lv_at hl 3 rfl) ?_
          refine lv_ishr hx hb dX5_whyNot_40 ?_
          refine lv_iconst (v := nI 1) hx hb dX5_whyNot_41 (by decide) ?_
          refine lv_iand hx hb dX5_whyNot_42 ?_
          refine g_topi (y := gb ((gsT1 st).2.2.2.testBit z0)) ((g_bit hT.2.2 (by omega)).trans (by cases (gsT1 st).2.2.2.testBit z0 <;> rfl)) ?_
          refine lv_if_ne (tgt := 53) hx hb dX5_whyNot_43 (by decide) (fun c43 => ?_) (fun c43 => ?_)
          · have c43 := gb_t c43
            refine lv_iinc (v := nI (z0 + 1)) (lv' := [(3, .int (nI (z0 + 1))), (0, .ref h), (1, .int (nI 0)), (2, .int (nI ((gsT1 st).2.2.2)))]) hx hb dX5_whyNot_53 hl (k := 3) rfl (nI_inc _) (by decide) rfl (fun ls hl => ?_)
            refine lv_goto (tgt := 15) hx hb dX5_whyNot_56 (by decide) ?_
            exact ih15 (z0 + 1) (by omega) (by omega) (fun j hj => by rcases Nat.lt_succ_iff_lt_or_eq.mp hj with h | rfl; (exact u0 j h); first | exact wy_f1 (by omega) hT.2.2 (Or.inr c35) | exact wy_f2 (by omega) hT.1.1 hT.2.2 c43) _ _ hP hS ls (lv_sub hl [1, 2, 3, 0] rfl)
          · have c43 := gb_f c43
            refine lv_bipush (v := nI 10) hx hb dX5_whyNot_46 (by decide) ?_
            refine lv_iload_n hx hb dX5_whyNot_48 rfl (lv_at hl 1 rfl) ?_
            refine lv_imul hx hb dX5_whyNot_49 ?_
            refine g_topi (y := nI (10 * 0)) (nI_mul _ _) ?_
            refine lv_iload_n hx hb dX5_whyNot_50 rfl (lv_at hl 3 rfl) ?_
            refine lv_iadd hx hb dX5_whyNot_51 ?_
            refine g_topi (y := nI (10 * 0 + z0)) (nI_add _ _) ?_
            refine g_retci hC hS ?_ dX5_whyNot_52
            refine ⟨?_, _, hP⟩
            rw [show whyV (gsT0 st) (gsT1 st) = nI z0 from by unfold whyV; rw [fst4_some (by omega) (show (adn (gsT0 st).2.2.1 (gsT1 st).2.2.2).testBit z0 = true from wy_t (by omega) hT.2.2 (by omega) c35 c43) u0]]
            rw [show 10 * 0 + z0 = z0 from by omega]
  exact L15 5 0 (by omega) (by omega) (fun j hj => absurd hj (Nat.not_lt_zero j)) _ _ hP hS ls (lv_sub hl [3, 2, 1, 0] rfl)
set_option maxHeartbeats 4000000 in
set_option maxRecDepth 100000 in
theorem c_X5_is (l : Launch) {G : gG} {T : gTy} {I : gI} {J : gJ} {Q : gR} {O : gO} {H : Heap} (hP : gP G T I J Q O H) {h : Nat} {st : GS}  (hm : isMo T O h) (hs0 : moS I h st) (hw0 : wOK (gsw0 st)) (hw1 : wOK (gsw1 st)) : Met l yX5_is (gw yX5_is cX5_is 1 (some (.int))) ({ frames := 4, cells := 0, slots := 0, locals := 97 } : Room) (gPc G H [.ref h]) (gQc (gF T H) (fun x H1 => rIs st (fun x1 s1 => x = some (.int x1) ∧ moR G T h s1 H1) )) 0 0 (gF T H) := by
  refine g_met [(0, .ref h)] (by decide) rfl (by exact Nat.le_of_ble_eq_true rfl) ?_
  intro p e s m below meth c hC hs ls hl
  have hx := hC.1.1
  have hb := hC.1.2.1
  have hS : va_S (gF T H) s.heap H [] := hs ▸ va_S.rf
  have hTA : ∀ q, (T q).1 ≠ 0 → gF T H q := fun q h => Or.inl h
  have hA : ∀ q, s.heap.size ≤ q → gF T H q := fun q h => Or.inr (hs ▸ h)
  generalize hAe : gF T H = A at hS hTA hA ⊢
  have hms := hs0.1
  have hns := hs0.2.1
  have hT := gsT_ok (st := st) (by omega) (by omega)
  refine lv_aload_n hx hb dX5_is_0 rfl (lv_at hl 0 rfl) ?_
  refine lv_iconst (v := nI 0) hx hb dX5_is_1 (by decide) ?_
  refine g_cp (g_rV (As := [.int (nI 0)]) hC hP (c_X5_sumOf_0 l hP (h := h) (by first | assumption | omega) (by first | assumption | omega)) hm.1 rfl ⟨q3_112, q3_109, q3_111, qs_29, q1_6⟩ dd_X5_sumOf ⟨Nat.le_of_ble_eq_true rfl, Nat.le_of_ble_eq_true rfl, rfl, rfl⟩ hl.1 rfl (Nat.le_of_ble_eq_true rfl) dX5_is_2 ⟨Nat.le_of_ble_eq_true rfl, Nat.le_of_ble_eq_true rfl⟩) ?_
  refine W.eq (g2 := F0 m 5 ls [.int (sWm (gsw0 st) (gsm st))]) rfl ?_
  refine lv_if_eq (tgt := 16) hx hb dX5_is_5 (by decide) (fun c5 => ?_) (fun c5 => ?_)
  · refine lv_aload_n hx hb dX5_is_16 rfl (lv_at hl 0 rfl) ?_
    refine lv_bipush (v := (-5)) hx hb dX5_is_17 (by decide) ?_
    refine g_cc (g_rV (As := [.int (-5 : Int32)]) hC hP (c_X5_refuse l hP (h := h) (q := (-5 : Int32)) (j := 5) (by first | assumption | omega) (by decide) (by omega)) hm.1 rfl ⟨q3_71, q3_68, q3_70, qs_25, q1_6⟩ dd_X5_refuse ⟨Nat.le_of_ble_eq_true rfl, Nat.le_of_ble_eq_true rfl, rfl, rfl⟩ hl.1 rfl (Nat.le_of_ble_eq_true rfl) dX5_is_19 ⟨Nat.le_of_ble_eq_true rfl, Nat.le_of_ble_eq_true rfl⟩) hS (fun q h => h.elim (hTA q) (fun z => hA q (Nat.le_trans hS.1 z))) (fun r5 H1 locs2 hq6 hS hz3 hfr4 => ?_)
    obtain ⟨rfl, hP⟩ := hq6
    obtain ⟨I7, hI7, hP⟩ : ∃ I7 : gI, I7 = au I (h + 4) 5 (I (h + 4) 5 + 1) ∧ gP G T I7 J Q O H1 := ⟨_, rfl, hP⟩
    refine W.eq (g2 := F0 m 22 ls [.int (-5 : Int32)]) rfl ?_
    refine g_retci hC hS ?_ dX5_is_22
    exact Or.inl ⟨(by first | exact Or.inl ((tot_0 hw0 (by omega)).mpr c5) | exact Or.inr ((tot_0 hw1 (by omega)).mpr c13)), rfl, mo_ref hm hs0 (j := 5) (by decide) hI7 hP⟩
  · refine lv_aload_n hx hb dX5_is_8 rfl (lv_at hl 0 rfl) ?_
    refine lv_iconst (v := nI 1) hx hb dX5_is_9 (by decide) ?_
    refine g_cp (g_rV (As := [.int (nI 1)]) hC hP (c_X5_sumOf_1 l hP (h := h) (by first | assumption | omega) (by first | assumption | omega)) hm.1 rfl ⟨q3_112, q3_109, q3_111, qs_29, q1_6⟩ dd_X5_sumOf ⟨Nat.le_of_ble_eq_true rfl, Nat.le_of_ble_eq_true rfl, rfl, rfl⟩ hl.1 rfl (Nat.le_of_ble_eq_true rfl) dX5_is_10 ⟨Nat.le_of_ble_eq_true rfl, Nat.le_of_ble_eq_true rfl⟩) ?_
    refine W.eq (g2 := F0 m 13 ls [.int (sWm (gsw1 st) (gsn st))]) rfl ?_
    refine lv_if_ne (tgt := 23) hx hb dX5_is_13 (by decide) (fun c13 => ?_) (fun c13 => ?_)
    · refine lv_aload_n hx hb dX5_is_23 rfl (lv_at hl 0 rfl) ?_
      refine g_cc (g_rV (As := []) hC hP (c_X5_whyNot l hP (h := h) (by first | assumption | omega) (by first | assumption | omega)) hm.1 rfl ⟨q3_147, q3_144, q3_146, qs_35, q1_6⟩ dd_X5_whyNot ⟨Nat.le_of_ble_eq_true rfl, Nat.le_of_ble_eq_true rfl, rfl, rfl⟩ hl.1 rfl (Nat.le_of_ble_eq_true rfl) dX5_is_24 ⟨Nat.le_of_ble_eq_true rfl, Nat.le_of_ble_eq_true rfl⟩) hS (fun q h => h.elim (hTA q) (fun z => hA q (Nat.le_trans hS.1 z))) (fun r12 H8 locs9 hq13 hS hz10 hfr11 => ?_)
      obtain ⟨rfl, J14, hP⟩ := hq13
      refine W.eq (g2 := F0 m 27 ls [.int (whyV (gsT0 st) (gsT1 st))]) rfl ?_
      refine lv_bipush (v := (-9)) hx hb dX5_is_27 (by decide) ?_
      refine lv_icmp_ne (tgt := 36) hx hb dX5_is_29 (by decide) (fun c29 => ?_) (fun c29 => ?_)
      · refine lv_iconst (v := nI 0) hx hb dX5_is_36 (by decide) ?_
        refine g_retci hC hS ?_ dX5_is_37
        refine Or.inr ⟨mt (tot_0 hw0 (by omega)).mp c5, mt (tot_0 hw1 (by omega)).mp c13, ?_, mo_same hm hs0 hP⟩
        rw [Bool.eq_false_iff.mpr (mt (why_fit hT.1 hT.2).mpr c29)]; rfl
      · refine lv_iconst (v := nI 1) hx hb dX5_is_32 (by decide) ?_
        refine lv_goto (tgt := 37) hx hb dX5_is_33 (by decide) ?_
        refine g_retci hC hS ?_ dX5_is_37
        refine Or.inr ⟨mt (tot_0 hw0 (by omega)).mp c5, mt (tot_0 hw1 (by omega)).mp c13, ?_, mo_same hm hs0 hP⟩
        rw [(why_fit hT.1 hT.2).mp c29]; rfl
    · refine lv_aload_n hx hb dX5_is_16 rfl (lv_at hl 0 rfl) ?_
      refine lv_bipush (v := (-5)) hx hb dX5_is_17 (by decide) ?_
      refine g_cc (g_rV (As := [.int (-5 : Int32)]) hC hP (c_X5_refuse l hP (h := h) (q := (-5 : Int32)) (j := 5) (by first | assumption | omega) (by decide) (by omega)) hm.1 rfl ⟨q3_71, q3_68, q3_70, qs_25, q1_6⟩ dd_X5_refuse ⟨Nat.le_of_ble_eq_true rfl, Nat.le_of_ble_eq_true rfl, rfl, rfl⟩ hl.1 rfl (Nat.le_of_ble_eq_true rfl) dX5_is_19 ⟨Nat.le_of_ble_eq_true rfl, Nat.le_of_ble_eq_true rfl⟩) hS (fun q h => h.elim (hTA q) (fun z => hA q (Nat.le_trans hS.1 z))) (fun r19 H15 locs16 hq20 hS hz17 hfr18 => ?_)
      obtain ⟨rfl, hP⟩ := hq20
      obtain ⟨I21, hI21, hP⟩ : ∃ I21 : gI, I21 = au I (h + 4) 5 (I (h + 4) 5 + 1) ∧ gP G T I21 J Q O H15 := ⟨_, rfl, hP⟩
      refine W.eq (g2 := F0 m 22 ls [.int (-5 : Int32)]) rfl ?_
      refine g_retci hC hS ?_ dX5_is_22
      exact Or.inl ⟨(by first | exact Or.inl ((tot_0 hw0 (by omega)).mpr c5) | exact Or.inr ((tot_0 hw1 (by omega)).mpr c13)), rfl, mo_ref hm hs0 (j := 5) (by decide) hI21 hP⟩
set_option maxHeartbeats 4000000 in
set_option maxRecDepth 100000 in
theorem c_X5_why (l : Launch) {G : gG} {T : gTy} {I : gI} {J : gJ} {Q : gR} {O : gO} {H : Heap} (hP : gP G T I J Q O H) {h : Nat} {st : GS}  (hm : isMo T O h) (hs0 : moS I h st) (hw0 : wOK (gsw0 st)) (hw1 : wOK (gsw1 st)) : Met l yX5_why (gw yX5_why cX5_why 1 (some (.int))) ({ frames := 4, cells := 0, slots := 0, locals := 97 } : Room) (gPc G H [.ref h]) (gQc (gF T H) (fun x H1 => rWhy st (fun x1 s1 => x = some (.int x1) ∧ moR G T h s1 H1) )) 0 0 (gF T H) := by
  refine g_met [(0, .ref h)] (by decide) rfl (by exact Nat.le_of_ble_eq_true rfl) ?_
  intro p e s m below meth c hC hs ls hl
  have hx := hC.1.1
  have hb := hC.1.2.1
  have hS : va_S (gF T H) s.heap H [] := hs ▸ va_S.rf
  have hTA : ∀ q, (T q).1 ≠ 0 → gF T H q := fun q h => Or.inl h
  have hA : ∀ q, s.heap.size ≤ q → gF T H q := fun q h => Or.inr (hs ▸ h)
  generalize hAe : gF T H = A at hS hTA hA ⊢
  have hms := hs0.1
  have hns := hs0.2.1
  refine lv_aload_n hx hb dX5_why_0 rfl (lv_at hl 0 rfl) ?_
  refine lv_iconst (v := nI 0) hx hb dX5_why_1 (by decide) ?_
  refine g_cp (g_rV (As := [.int (nI 0)]) hC hP (c_X5_sumOf_0 l hP (h := h) (by first | assumption | omega) (by first | assumption | omega)) hm.1 rfl ⟨q3_112, q3_109, q3_111, qs_29, q1_6⟩ dd_X5_sumOf ⟨Nat.le_of_ble_eq_true rfl, Nat.le_of_ble_eq_true rfl, rfl, rfl⟩ hl.1 rfl (Nat.le_of_ble_eq_true rfl) dX5_why_2 ⟨Nat.le_of_ble_eq_true rfl, Nat.le_of_ble_eq_true rfl⟩) ?_
  refine W.eq (g2 := F0 m 5 ls [.int (sWm (gsw0 st) (gsm st))]) rfl ?_
  refine lv_if_eq (tgt := 16) hx hb dX5_why_5 (by decide) (fun c5 => ?_) (fun c5 => ?_)
  · refine lv_bipush (v := (-9)) hx hb dX5_why_16 (by decide) ?_
    refine lv_goto (tgt := 25) hx hb dX5_why_18 (by decide) ?_
    refine g_retci hC hS ?_ dX5_why_25
    exact Or.inl ⟨(by first | exact Or.inl ((tot_0 hw0 (by omega)).mpr c5) | exact Or.inr ((tot_0 hw1 (by omega)).mpr c13)), rfl, mo_same hm hs0 hP⟩
  · refine lv_aload_n hx hb dX5_why_8 rfl (lv_at hl 0 rfl) ?_
    refine lv_iconst (v := nI 1) hx hb dX5_why_9 (by decide) ?_
    refine g_cp (g_rV (As := [.int (nI 1)]) hC hP (c_X5_sumOf_1 l hP (h := h) (by first | assumption | omega) (by first | assumption | omega)) hm.1 rfl ⟨q3_112, q3_109, q3_111, qs_29, q1_6⟩ dd_X5_sumOf ⟨Nat.le_of_ble_eq_true rfl, Nat.le_of_ble_eq_true rfl, rfl, rfl⟩ hl.1 rfl (Nat.le_of_ble_eq_true rfl) dX5_why_10 ⟨Nat.le_of_ble_eq_true rfl, Nat.le_of_ble_eq_true rfl⟩) ?_
    refine W.eq (g2 := F0 m 13 ls [.int (sWm (gsw1 st) (gsn st))]) rfl ?_
    refine lv_if_ne (tgt := 21) hx hb dX5_why_13 (by decide) (fun c13 => ?_) (fun c13 => ?_)
    · refine lv_aload_n hx hb dX5_why_21 rfl (lv_at hl 0 rfl) ?_
      refine g_cc (g_rV (As := []) hC hP (c_X5_whyNot l hP (h := h) (by first | assumption | omega) (by first | assumption | omega)) hm.1 rfl ⟨q3_147, q3_144, q3_146, qs_35, q1_6⟩ dd_X5_whyNot ⟨Nat.le_of_ble_eq_true rfl, Nat.le_of_ble_eq_true rfl, rfl, rfl⟩ hl.1 rfl (Nat.le_of_ble_eq_true rfl) dX5_why_22 ⟨Nat.le_of_ble_eq_true rfl, Nat.le_of_ble_eq_true rfl⟩) hS (fun q h => h.elim (hTA q) (fun z => hA q (Nat.le_trans hS.1 z))) (fun r5 H1 locs2 hq6 hS hz3 hfr4 => ?_)
      obtain ⟨rfl, J7, hP⟩ := hq6
      refine W.eq (g2 := F0 m 25 ls [.int (whyV (gsT0 st) (gsT1 st))]) rfl ?_
      refine g_retci hC hS ?_ dX5_why_25
      exact Or.inr ⟨mt (tot_0 hw0 (by omega)).mp c5, mt (tot_0 hw1 (by omega)).mp c13, rfl, mo_same hm hs0 hP⟩
    · refine lv_bipush (v := (-9)) hx hb dX5_why_16 (by decide) ?_
      refine lv_goto (tgt := 25) hx hb dX5_why_18 (by decide) ?_
      refine g_retci hC hS ?_ dX5_why_25
      exact Or.inl ⟨(by first | exact Or.inl ((tot_0 hw0 (by omega)).mpr c5) | exact Or.inr ((tot_0 hw1 (by omega)).mpr c13)), rfl, mo_same hm hs0 hP⟩
