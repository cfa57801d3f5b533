/-! ===== the reference: worse ===== -/
theorem wM_key {P : Nat → Int32} {c m n a : Nat} (hn : n ≤ 4) (ha : a < 4) : ((2 ^ m - 1).testBit a && pMore P a c (2 ^ n - 1)) = (decide (a < m) && wM P c 15 15 n a) := by
  have f : ∀ k, k < 4 → (15 : Nat).testBit k = true := by decide
  rw [Nat.testBit_two_pow_sub_one]
  congr 1
  unfold wM
  rw [f a ha, Bool.true_and, Bool.eq_iff_iff, pMore_iff, alM_iff]
  constructor
  · intro h k hk _
    exact h k (by omega) (by rw [Nat.testBit_two_pow_sub_one]; exact decide_eq_true hk)
  · intro h k hk hb
    rw [Nat.testBit_two_pow_sub_one] at hb
    exact h k (of_decide_eq_true hb) (f k hk)
theorem worse_eq {P : Nat → Int32} {c m n : Nat} (hm : m ≤ 4) (hn : n ≤ 4) : fstN (wM P c 15 15 n) m = fBet P c (2 ^ m - 1) (2 ^ n - 1) := by
  unfold fBet
  rw [fst4_congr (fun a ha => wM_key hn ha)]
  symm
  cases e : fstN (wM P c 15 15 n) m with
  | none =>
    unfold fstN at e
    refine fst4_none (fun k hk => ?_)
    by_cases h : k < m
    · have := List.find?_eq_none.mp e k (List.mem_range.mpr h)
      rw [decide_eq_true h, Bool.true_and]
      exact Bool.eq_false_iff.mpr this
    · rw [decide_eq_false h, Bool.false_and]
  | some i =>
    unfold fstN at e
    obtain ⟨h1, h2, h3⟩ := List.find?_range_eq_some.mp e
    have h2' := List.mem_range.mp h2
    refine fst4_some (by omega) (by rw [decide_eq_true h2', Bool.true_and]; exact h1) (fun k hk => ?_)
    have := h3 k hk
    rw [Bool.not_eq_true'] at this
    rw [this, Bool.and_false]
theorem ch_t {q k : Int32} {m n : Nat} (h : (isW q && inR k (if q = nI 0 then m else n)) = true) : isW q = true := (Bool.and_eq_true_iff.mp h).1
set_option maxHeartbeats 4000000 in
set_option maxRecDepth 100000 in
theorem c_X5_worse (l : Launch) {G : gG} {T : gTy} {I : gI} {J : gJ} {Q : gR} {O : gO} {H : Heap} (hP : gP G T I J Q O H) {h : Nat} {st : GS} {q k : Int32} (hm : isMo T O h) (hs0 : moS I h st) : Met l yX5_worse (gw yX5_worse cX5_worse 3 (some (.int))) ({ frames := 2, cells := 0, slots := 0, locals := 50 } : Room) (gPc G H [.ref h, .int q, .int k]) (gQc (gF T H) (fun x H1 => rWorse st (fun x1 s1 => x = some (.int x1) ∧ moR G T h s1 H1) q k)) 0 0 (gF T H) := by
  refine g_met [(0, .ref h), (1, .int q), (2, .int k)] (by decide) rfl (by exact Nat.le_of_ble_eq_true rfl) ?_
  intro p e s m below meth c hC hs ls hl
  have hx := hC.1.1
  have hb := hC.1.2.1
  have hS : va_S (gF T H) s.heap H [] := hs ▸ va_S.rf
  have hTA : ∀ q, (T q).1 ≠ 0 → gF T H q := fun q h => Or.inl h
  have hA : ∀ q, s.heap.size ≤ q → gF T H q := fun q h => Or.inr (hs ▸ h)
  generalize hAe : gF T H = A at hS hTA hA ⊢
  have hms := hs0.1
  have hns := hs0.2.1
  refine lv_aload_n hx hb dX5_worse_0 rfl (lv_at hl 0 rfl) ?_
  refine lv_iload_n hx hb dX5_worse_1 rfl (lv_at hl 1 rfl) ?_
  refine lv_iload_n hx hb dX5_worse_2 rfl (lv_at hl 2 rfl) ?_
  refine g_cp (g_rV (As := [.int q, .int k]) hC hP (c_X5_isChoice l hP (h := h) (q := q) (k := k) (by first | assumption | omega) (by first | assumption | omega)) hm.1 rfl ⟨q3_82, q3_79, q3_81, qs_26, q1_6⟩ dd_X5_isChoice ⟨Nat.le_of_ble_eq_true rfl, Nat.le_of_ble_eq_true rfl, rfl, rfl⟩ hl.1 rfl (Nat.le_of_ble_eq_true rfl) dX5_worse_3 ⟨Nat.le_of_ble_eq_true rfl, Nat.le_of_ble_eq_true rfl⟩) ?_
  refine W.eq (g2 := F0 m 6 ls [.int (gb (isW q && inR k (if q = nI 0 then gsm st else gsn st)))]) rfl ?_
  refine lv_if_eq (tgt := 22) hx hb dX5_worse_6 (by decide) (fun c6 => ?_) (fun c6 => ?_)
  · have c6 := gb_f c6
    refine lv_aload_n hx hb dX5_worse_22 rfl (lv_at hl 0 rfl) ?_
    refine lv_iconst (v := (-1)) hx hb dX5_worse_23 (by decide) ?_
    refine g_cc (g_rV (As := [.int (-1 : Int32)]) hC hP (c_X5_refuse l hP (h := h) (q := (-1 : Int32)) (j := 1) (by first | assumption | omega) (by decide) (by omega)) hm.1 rfl ⟨q3_71, q3_68, q3_70, qs_25, q1_6⟩ dd_X5_refuse ⟨Nat.le_of_ble_eq_true rfl, Nat.le_of_ble_eq_true rfl, rfl, rfl⟩ hl.1 rfl (Nat.le_of_ble_eq_true rfl) dX5_worse_24 ⟨Nat.le_of_ble_eq_true rfl, Nat.le_of_ble_eq_true rfl⟩) hS (fun q h => h.elim (hTA q) (fun z => hA q (Nat.le_trans hS.1 z))) (fun r5 H1 locs2 hq6 hS hz3 hfr4 => ?_)
    obtain ⟨rfl, hP⟩ := hq6
    obtain ⟨I7, hI7, hP⟩ : ∃ I7 : gI, I7 = au I (h + 4) 1 (I (h + 4) 1 + 1) ∧ gP G T I7 J Q O H1 := ⟨_, rfl, hP⟩
    refine W.eq (g2 := F0 m 27 ls [.int (-1 : Int32)]) rfl ?_
    refine g_retci hC hS ?_ dX5_worse_27
    refine Or.inl ⟨?_, rfl, mo_ref hm hs0 (j := 1) (by decide) hI7 hP⟩
    by_cases e : isW q = true
    · rw [e, Bool.true_and] at c6
      rcases isW_c e with rfl | rfl
      · exact Or.inr (Or.inl ⟨rfl, c6⟩)
      · exact Or.inr (Or.inr ⟨rfl, c6⟩)
    · exact Or.inl (Bool.eq_false_iff.mpr e)
  · have c6 := gb_t c6
    have c4 := ch_t c6
    rcases isW_c c4 with rfl | rfl
    · have c16 : inR k (gsm st) = true := (Bool.and_eq_true_iff.mp c6).2
      obtain ⟨b, hbq, rfl⟩ := inR_nI (by omega) c16
      refine lv_aload_n hx hb dX5_worse_9 rfl (lv_at hl 0 rfl) ?_
      refine lv_iload_n hx hb dX5_worse_10 rfl (lv_at hl 1 rfl) ?_
      refine lv_iload_n hx hb dX5_worse_11 rfl (lv_at hl 2 rfl) ?_
      refine lv_bipush (v := nI 15) hx hb dX5_worse_12 (by decide) ?_
      refine lv_bipush (v := nI 15) hx hb dX5_worse_14 (by decide) ?_
      refine g_cp (g_rV (As := [.int (nI 0), .int (nI b), .int (nI 15), .int (nI 15)]) hC hP (c_X5_worseBy_0 l hP (h := h) (ci := b) (A9 := 15) (B9 := 15) (by first | assumption | omega) (by first | assumption | omega) (by first | assumption | omega) (by first | assumption | omega) (by first | assumption | omega)) hm.1 rfl ⟨q3_159, q3_156, q3_158, qs_36, q1_6⟩ dd_X5_worseBy ⟨Nat.le_of_ble_eq_true rfl, Nat.le_of_ble_eq_true rfl, rfl, rfl⟩ hl.1 rfl (Nat.le_of_ble_eq_true rfl) dX5_worse_16 ⟨Nat.le_of_ble_eq_true rfl, Nat.le_of_ble_eq_true rfl⟩) ?_
      refine W.eq (g2 := F0 m 19 ls [.int (oI (fstN (wM (gsP0 st) b 15 15 (gsn st)) (gsm st)))]) rfl ?_
      refine lv_goto (tgt := 27) hx hb dX5_worse_19 (by decide) ?_
      refine g_retci hC hS ?_ dX5_worse_27
      exact Or.inr ⟨b, rfl, Or.inl ⟨rfl, hbq, by rw [worse_eq (by omega) (by omega)], mo_same hm hs0 hP⟩⟩
    · have c16 : inR k (gsn st) = true := (Bool.and_eq_true_iff.mp c6).2
      obtain ⟨b, hbq, rfl⟩ := inR_nI (by omega) c16
      refine lv_aload_n hx hb dX5_worse_9 rfl (lv_at hl 0 rfl) ?_
      refine lv_iload_n hx hb dX5_worse_10 rfl (lv_at hl 1 rfl) ?_
      refine lv_iload_n hx hb dX5_worse_11 rfl (lv_at hl 2 rfl) ?_
      refine lv_bipush (v := nI 15) hx hb dX5_worse_12 (by decide) ?_
      refine lv_bipush (v := nI 15) hx hb dX5_worse_14 (by decide) ?_
      refine g_cp (g_rV (As := [.int (nI 1), .int (nI b), .int (nI 15), .int (nI 15)]) hC hP (c_X5_worseBy_1 l hP (h := h) (ci := b) (A9 := 15) (B9 := 15) (by first | assumption | omega) (by first | assumption | omega) (by first | assumption | omega) (by first | assumption | omega) (by first | assumption | omega)) hm.1 rfl ⟨q3_159, q3_156, q3_158, qs_36, q1_6⟩ dd_X5_worseBy ⟨Nat.le_of_ble_eq_true rfl, Nat.le_of_ble_eq_true rfl, rfl, rfl⟩ hl.1 rfl (Nat.le_of_ble_eq_true rfl) dX5_worse_16 ⟨Nat.le_of_ble_eq_true rfl, Nat.le_of_ble_eq_true rfl⟩) ?_
      refine W.eq (g2 := F0 m 19 ls [.int (oI (fstN (wM (gsP1 st) b 15 15 (gsm st)) (gsn st)))]) rfl ?_
      refine lv_goto (tgt := 27) hx hb dX5_worse_19 (by decide) ?_
      refine g_retci hC hS ?_ dX5_worse_27
      exact Or.inr ⟨b, rfl, Or.inr ⟨rfl, hbq, by rw [worse_eq (by omega) (by omega)], mo_same hm hs0 hP⟩⟩
