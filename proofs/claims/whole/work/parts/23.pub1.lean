/-! ===== GameTables: public methods ===== -/
/-- a refusal alone is counted -/
theorem gt_ref {G : gG} {T : gTy} {I I2 : gI} {J : gJ} {Q : gR} {O : gO} {H1 : Heap} {nn g r d mr md j : Nat} {ck : Bool} {cr cd : CL} {Sr Sd : Nat → Prop} (hg : isGT T J Q O g r d mr md ck cr cd Sr Sd) (hck : ckOK ck cr cd mr md (I (r + 9)) (I (d + 9))) (hI : I2 = au I (g + 28) j (I (g + 28) j + 1)) (hP : gP G T I2 J Q O H1) : gtS G T nn g mr md (I (r + 9)) (I (d + 9)) (I (r + 10)) (I (d + 10)) (gu (I (g + 28)) j (I (g + 28) j + 1)) H1 := by
  have e := hg.2.2.2.2.2.2.2.2.2.2.2.2.2.2.2.2.1
  exact ⟨T, I2, J, Q, O, r, d, ck, cr, cd, Sr, Sd, hP, fun _ h => Or.inl h, hg, hck, by rw [hI, au_ne _ _ _ (by omega)], by rw [hI, au_ne _ _ _ (by omega)], by rw [hI, au_ne _ _ _ (by omega)], by rw [hI, au_ne _ _ _ (by omega)], by rw [hI, au_row]⟩
theorem gt_same {G : gG} {T : gTy} {I : gI} {J : gJ} {Q : gR} {O : gO} {H1 : Heap} {nn g r d mr md : Nat} {ck : Bool} {cr cd : CL} {Sr Sd : Nat → Prop} (hg : isGT T J Q O g r d mr md ck cr cd Sr Sd) (hck : ckOK ck cr cd mr md (I (r + 9)) (I (d + 9))) (hP : gP G T I J Q O H1) : gtS G T nn g mr md (I (r + 9)) (I (d + 9)) (I (r + 10)) (I (d + 10)) (I (g + 28)) H1 := ⟨T, I, J, Q, O, r, d, ck, cr, cd, Sr, Sd, hP, fun _ h => Or.inl h, hg, hck, rfl, rfl, rfl, rfl, rfl⟩
/-- a number from 1 to 4 -/
theorem g14 {x : Int32} (h1 : ¬ x < nI 1) (h2 : ¬ nI 4 < x) : ∃ j : Nat, 1 ≤ j ∧ j ≤ 4 ∧ x = nI j := by
  have e1 : (nI 1).toInt = 1 := by decide
  have e4 : (nI 4).toInt = 4 := by decide
  simp only [Int32.lt_iff_toInt_lt, e1, e4] at h1 h2
  obtain ⟨j, hj, rfl⟩ := nI_of (x := x) (by simp only [Int32.lt_iff_toInt_lt]; have e0 : (0 : Int32).toInt = 0 := (by decide); omega)
  rw [nI_toInt hj] at h1 h2
  exact ⟨j, by omega, by omega, rfl⟩
set_option maxHeartbeats 4000000 in
set_option maxRecDepth 100000 in
theorem c_X4_game (l : Launch) {G : gG} {T : gTy} {I : gI} {J : gJ} {Q : gR} {O : gO} {H : Heap} (hP : gP G T I J Q O H) {g r d mr md : Nat} {ck : Bool} {cr cd : CL} {Sr Sd : Nat → Prop} {a b2 : Int32} (hg : isGT T J Q O g r d mr md ck cr cd Sr Sd) (hck : ckOK ck cr cd mr md (I (r + 9)) (I (d + 9))) : Met l yX4_game (gw yX4_game cX4_game 3 (some (.int))) ({ frames := 1, cells := 0, slots := 0, locals := 22 } : Room) (gPc G H [.ref g, .int a, .int b2]) (gQc (gF T H) (fun x H1 => ((a < nI 1 ∨ b2 < nI 1) ∧ x = some (.int (-4)) ∧ gtS G T H.size g mr md (I (r + 9)) (I (d + 9)) (I (r + 10)) (I (d + 10)) (gu (I (g + 28)) 4 (I (g + 28) 4 + 1)) H1) ∨ (¬ (a < nI 1 ∨ b2 < nI 1) ∧ (nI 4 < a ∨ nI 4 < b2) ∧ x = some (.int (-6)) ∧ gtS G T H.size g mr md (I (r + 9)) (I (d + 9)) (I (r + 10)) (I (d + 10)) (gu (I (g + 28)) 6 (I (g + 28) 6 + 1)) H1) ∨ (∃ i k : Nat, (1 ≤ i ∧ i ≤ 4) ∧ (1 ≤ k ∧ k ≤ 4) ∧ a = nI i ∧ b2 = nI k ∧ x = some (.int 1) ∧ gtS G T H.size g i k (z16 (I (r + 9)) 16) (z16 (I (d + 9)) 16) (I (r + 10)) (I (d + 10)) (I (g + 28)) H1))) 0 0 (gF T H) := by
  refine g_met [(0, .ref g), (1, .int a), (2, .int b2)] (by decide) rfl (by exact Nat.le_of_ble_eq_true rfl) ?_
  intro p e s m below meth c hC hs ls hl
  have hx := hC.1.1
  have hb := hC.1.2.1
  have hS : va_S (gF T H) s.heap H [] := hs ▸ va_S.rf
  have hTA : ∀ q, (T q).1 ≠ 0 → gF T H q := fun q h => Or.inl h
  have hA : ∀ q, s.heap.size ≤ q → gF T H q := fun q h => Or.inr (hs ▸ h)
  generalize hAe : gF T H = A at hS hTA hA ⊢
  have hg_lo8 := hg.2.2.2.2.2.2.2.2.1.2.2.2.2.2.2.2.2.1
  have hg_hi8 := hg.2.2.2.2.2.2.2.2.1.2.2.2.2.2.2.2.2.2
  have hg_lo9 := hg.2.2.2.2.2.2.2.2.2.1.2.2.2.2.2.2.2.2.1
  have hg_hi9 := hg.2.2.2.2.2.2.2.2.2.1.2.2.2.2.2.2.2.2.2
  have hg_ad := hg.2.2.2.2.2.2.2.2.2.2.2.2.2.2.2.2.1
  refine lv_iload_n hx hb dX4_game_0 rfl (lv_at hl 1 rfl) ?_
  refine lv_iconst (v := nI 1) hx hb dX4_game_1 (by decide) ?_
  refine lv_icmp_lt (tgt := 10) hx hb dX4_game_2 (by decide) (fun c2 => ?_) (fun c2 => ?_)
  · refine lv_aload_n hx hb dX4_game_10 rfl (lv_at hl 0 rfl) ?_
    refine lv_bipush (v := (-4)) hx hb dX4_game_11 (by decide) ?_
    refine g_cc (g_rV (As := [.int (-4 : Int32)]) hC hP (c_X4_refuse l hP (g := g) (q := (-4 : Int32)) (j := 4) (by first | assumption | omega) (by decide) (by omega)) hg.1 rfl ⟨q1_138, q1_135, q1_137, qs_0, q1_1⟩ dd_X4_refuse ⟨Nat.le_of_ble_eq_true rfl, Nat.le_of_ble_eq_true rfl, rfl, rfl⟩ hl.1 rfl (Nat.le_of_ble_eq_true rfl) dX4_game_13 ⟨Nat.le_of_ble_eq_true rfl, Nat.le_of_ble_eq_true rfl⟩) hS (fun q h => h.elim (hTA q) (fun z => hA q (Nat.le_trans hS.1 z))) (fun r5 H1 locs2 hq6 hS hz3 hfr4 => ?_)
    obtain ⟨rfl, hP⟩ := hq6
    obtain ⟨I7, hI7, hP⟩ : ∃ I7 : gI, I7 = au I (g + 28) 4 (I (g + 28) 4 + 1) ∧ gP G T I7 J Q O H1 := ⟨_, rfl, hP⟩
    refine W.eq (g2 := F0 m 16 ls [.int (-4 : Int32)]) rfl ?_
    refine g_retci hC hS ?_ dX4_game_16
    refine Or.inl ⟨?_, rfl, gt_ref hg hck hI7 hP⟩
    first | exact Or.inl c2 | exact Or.inr (Int32.not_le.mp c7)
  · refine lv_iload_n hx hb dX4_game_5 rfl (lv_at hl 2 rfl) ?_
    refine lv_iconst (v := nI 1) hx hb dX4_game_6 (by decide) ?_
    refine lv_icmp_ge (tgt := 17) hx hb dX4_game_7 (by decide) (fun c7 => ?_) (fun c7 => ?_)
    · refine lv_iload_n hx hb dX4_game_17 rfl (lv_at hl 1 rfl) ?_
      refine lv_iconst (v := nI 4) hx hb dX4_game_18 (by decide) ?_
      refine lv_icmp_gt (tgt := 27) hx hb dX4_game_19 (by decide) (fun c19 => ?_) (fun c19 => ?_)
      · refine lv_aload_n hx hb dX4_game_27 rfl (lv_at hl 0 rfl) ?_
        refine lv_bipush (v := (-6)) hx hb dX4_game_28 (by decide) ?_
        refine g_cc (g_rV (As := [.int (-6 : Int32)]) hC hP (c_X4_refuse l hP (g := g) (q := (-6 : Int32)) (j := 6) (by first | assumption | omega) (by decide) (by omega)) hg.1 rfl ⟨q1_138, q1_135, q1_137, qs_0, q1_1⟩ dd_X4_refuse ⟨Nat.le_of_ble_eq_true rfl, Nat.le_of_ble_eq_true rfl, rfl, rfl⟩ hl.1 rfl (Nat.le_of_ble_eq_true rfl) dX4_game_30 ⟨Nat.le_of_ble_eq_true rfl, Nat.le_of_ble_eq_true rfl⟩) hS (fun q h => h.elim (hTA q) (fun z => hA q (Nat.le_trans hS.1 z))) (fun r12 H8 locs9 hq13 hS hz10 hfr11 => ?_)
        obtain ⟨rfl, hP⟩ := hq13
        obtain ⟨I14, hI14, hP⟩ : ∃ I14 : gI, I14 = au I (g + 28) 6 (I (g + 28) 6 + 1) ∧ gP G T I14 J Q O H8 := ⟨_, rfl, hP⟩
        refine W.eq (g2 := F0 m 33 ls [.int (-6 : Int32)]) rfl ?_
        refine g_retci hC hS ?_ dX4_game_33
        refine Or.inr (Or.inl ⟨?_, ?_, rfl, gt_ref hg hck hI14 hP⟩)
        · rintro (h | h)
          · exact c2 h
          · exact Int32.not_lt.mpr c7 h
        · first | exact Or.inl c19 | exact Or.inr (Int32.not_le.mp c24)
      · refine lv_iload_n hx hb dX4_game_22 rfl (lv_at hl 2 rfl) ?_
        refine lv_iconst (v := nI 4) hx hb dX4_game_23 (by decide) ?_
        refine lv_icmp_le (tgt := 34) hx hb dX4_game_24 (by decide) (fun c24 => ?_) (fun c24 => ?_)
        · have k2 : ¬ nI 4 < b2 := Int32.not_lt.mpr c24
          obtain ⟨i, hi1, hi4, rfl⟩ := g14 c2 c19
          obtain ⟨k, hk1, hk4, rfl⟩ := g14 (Int32.not_lt.mpr c7) k2
          refine lv_aload_n hx hb dX4_game_34 rfl (lv_at hl 0 rfl) ?_
          refine g_get hC hP hg.1 rfl inX4 0 (by decide) q1_115 hg.2.1 dX4_game_35 ?_
          refine lv_iload_n hx hb dX4_game_38 rfl (lv_at hl 1 rfl) ?_
          refine g_cc (g_rV (As := [.int (nI i)]) hC hP (c_X3_startAnew l hP (b := r) (ch := mr) (nn := i) hg.2.2.2.2.2.2.2.2.1) hg.2.2.2.2.2.2.2.2.1.1 rfl ⟨q1_142, q1_139, q1_140, q1_141, q1_2⟩ dd_X3_startAnew ⟨Nat.le_of_ble_eq_true rfl, Nat.le_of_ble_eq_true rfl, rfl, rfl⟩ hl.1 rfl (Nat.le_of_ble_eq_true rfl) dX4_game_39 ⟨Nat.le_of_ble_eq_true rfl, Nat.le_of_ble_eq_true rfl⟩) hS (fun q h => h.elim (hTA q) (fun z => hA q (Nat.le_trans hS.1 z))) (fun r19 H15 locs16 hq20 hS hz17 hfr18 => ?_)
          obtain ⟨rfl, hP⟩ := hq20
          obtain ⟨I21, hI21, O22, hO22, hP⟩ : ∃ I21 : gI, I21 = gu I (r + 9) (z16 (I (r + 9)) 16) ∧ ∃ O22 : gO, O22 = au O r 0 (.int (nI i)) ∧ gP G T I21 J Q O22 H15 := ⟨_, rfl, _, rfl, hP⟩
          refine W.eq (g2 := F0 m 42 ls []) rfl ?_
          have hg2 := isGT_m hg hO22 hi1 hi4
          refine lv_aload_n hx hb dX4_game_42 rfl (lv_at hl 0 rfl) ?_
          refine g_get hC hP hg2.1 rfl inX4 1 (by decide) q1_116 hg2.2.2.1 dX4_game_43 ?_
          refine lv_iload_n hx hb dX4_game_46 rfl (lv_at hl 2 rfl) ?_
          refine g_cc (g_rV (As := [.int (nI k)]) hC hP (c_X3_startAnew l hP (b := d) (ch := md) (nn := k) hg2.2.2.2.2.2.2.2.2.2.1) hg2.2.2.2.2.2.2.2.2.2.1.1 rfl ⟨q1_142, q1_139, q1_140, q1_141, q1_2⟩ dd_X3_startAnew ⟨Nat.le_of_ble_eq_true rfl, Nat.le_of_ble_eq_true rfl, rfl, rfl⟩ hl.1 rfl (Nat.le_of_ble_eq_true rfl) dX4_game_47 ⟨Nat.le_of_ble_eq_true rfl, Nat.le_of_ble_eq_true rfl⟩) hS (fun q h => h.elim (hTA q) (fun z => hA q (Nat.le_trans hS.1 z))) (fun r27 H23 locs24 hq28 hS hz25 hfr26 => ?_)
          obtain ⟨rfl, hP⟩ := hq28
          obtain ⟨I29, hI29, O30, hO30, hP⟩ : ∃ I29 : gI, I29 = gu I21 (d + 9) (z16 (I21 (d + 9)) 16) ∧ ∃ O30 : gO, O30 = au O22 d 0 (.int (nI k)) ∧ gP G T I29 J Q O30 H23 := ⟨_, rfl, _, rfl, hP⟩
          refine W.eq (g2 := F0 m 50 ls []) rfl ?_
          have hg3 := isGT_n hg2 hO30 hk1 hk4
          refine lv_aload_n hx hb dX4_game_50 rfl (lv_at hl 0 rfl) ?_
          refine lv_iconst (v := nI 0) hx hb dX4_game_51 (by decide) ?_
          refine g_put hC hP hS hTA hg3.1 rfl inX4 tyX4 tyX4_ok nmX4 4 (by decide) q1_119 rfl (ty := tyX4 4) (by decide) rfl rfl dX4_game_52 (fun H31 locs32 hP hS hz34 => ?_)
          obtain ⟨O33, hO33, hP⟩ : ∃ X : gO, X = au O30 g 4 (.int (nI 0)) ∧ gP G T I29 J Q X H31 := ⟨_, rfl, hP⟩
          refine lv_iconst (v := nI 1) hx hb dX4_game_55 (by decide) ?_
          refine g_retci hC hS ?_ dX4_game_56
          refine Or.inr (Or.inr ⟨i, k, ⟨hi1, hi4⟩, ⟨hk1, hk4⟩, rfl, rfl, rfl, T, I29, J, Q, O33, r, d, false, cr, cd, Sr, Sd, hP, fun _ h => Or.inl h, isGT_ck (b := false) hg3 hO33, ckOK_f, ?_, ?_, ?_, ?_, ?_⟩)
          all_goals simp only [*]
          all_goals simp only [au, gu, show (r + 9 = d + 9) = False from eq_false (by omega), show (d + 9 = r + 9) = False from eq_false (by omega), show (r + 10 = r + 9) = False from eq_false (by omega), show (r + 10 = d + 9) = False from eq_false (by omega), show (d + 10 = r + 9) = False from eq_false (by omega), show (d + 10 = d + 9) = False from eq_false (by omega), show (g + 28 = r + 9) = False from eq_false (by omega), show (g + 28 = d + 9) = False from eq_false (by omega), show (r + 9 = r + 10) = False from eq_false (by omega), show (d + 9 = r + 10) = False from eq_false (by omega), show (r + 9 = d + 10) = False from eq_false (by omega), show (d + 9 = d + 10) = False from eq_false (by omega), show (r + 10 = d + 10) = False from eq_false (by omega), show (d + 10 = r + 10) = False from eq_false (by omega), show (g + 28 = r + 10) = False from eq_false (by omega), show (g + 28 = d + 10) = False from eq_false (by omega), if_true, if_false]
        · refine lv_aload_n hx hb dX4_game_27 rfl (lv_at hl 0 rfl) ?_
          refine lv_bipush (v := (-6)) hx hb dX4_game_28 (by decide) ?_
          refine g_cc (g_rV (As := [.int (-6 : Int32)]) hC hP (c_X4_refuse l hP (g := g) (q := (-6 : Int32)) (j := 6) (by first | assumption | omega) (by decide) (by omega)) hg.1 rfl ⟨q1_138, q1_135, q1_137, qs_0, q1_1⟩ dd_X4_refuse ⟨Nat.le_of_ble_eq_true rfl, Nat.le_of_ble_eq_true rfl, rfl, rfl⟩ hl.1 rfl (Nat.le_of_ble_eq_true rfl) dX4_game_30 ⟨Nat.le_of_ble_eq_true rfl, Nat.le_of_ble_eq_true rfl⟩) hS (fun q h => h.elim (hTA q) (fun z => hA q (Nat.le_trans hS.1 z))) (fun r39 H35 locs36 hq40 hS hz37 hfr38 => ?_)
          obtain ⟨rfl, hP⟩ := hq40
          obtain ⟨I41, hI41, hP⟩ : ∃ I41 : gI, I41 = au I (g + 28) 6 (I (g + 28) 6 + 1) ∧ gP G T I41 J Q O H35 := ⟨_, rfl, hP⟩
          refine W.eq (g2 := F0 m 33 ls [.int (-6 : Int32)]) rfl ?_
          refine g_retci hC hS ?_ dX4_game_33
          refine Or.inr (Or.inl ⟨?_, ?_, rfl, gt_ref hg hck hI41 hP⟩)
          · rintro (h | h)
            · exact c2 h
            · exact Int32.not_lt.mpr c7 h
          · first | exact Or.inl c19 | exact Or.inr (Int32.not_le.mp c24)
    · refine lv_aload_n hx hb dX4_game_10 rfl (lv_at hl 0 rfl) ?_
      refine lv_bipush (v := (-4)) hx hb dX4_game_11 (by decide) ?_
      refine g_cc (g_rV (As := [.int (-4 : Int32)]) hC hP (c_X4_refuse l hP (g := g) (q := (-4 : Int32)) (j := 4) (by first | assumption | omega) (by decide) (by omega)) hg.1 rfl ⟨q1_138, q1_135, q1_137, qs_0, q1_1⟩ dd_X4_refuse ⟨Nat.le_of_ble_eq_true rfl, Nat.le_of_ble_eq_true rfl, rfl, rfl⟩ hl.1 rfl (Nat.le_of_ble_eq_true rfl) dX4_game_13 ⟨Nat.le_of_ble_eq_true rfl, Nat.le_of_ble_eq_true rfl⟩) hS (fun q h => h.elim (hTA q) (fun z => hA q (Nat.le_trans hS.1 z))) (fun r46 H42 locs43 hq47 hS hz44 hfr45 => ?_)
      obtain ⟨rfl, hP⟩ := hq47
      obtain ⟨I48, hI48, hP⟩ : ∃ I48 : gI, I48 = au I (g + 28) 4 (I (g + 28) 4 + 1) ∧ gP G T I48 J Q O H42 := ⟨_, rfl, hP⟩
      refine W.eq (g2 := F0 m 16 ls [.int (-4 : Int32)]) rfl ?_
      refine g_retci hC hS ?_ dX4_game_16
      refine Or.inl ⟨?_, rfl, gt_ref hg hck hI48 hP⟩
      first | exact Or.inl c2 | exact Or.inr (Int32.not_le.mp c7)
