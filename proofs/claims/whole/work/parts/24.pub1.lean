/-! ===== GameTables: public methods ===== -/
def gtG (G : gG) (T : gTy) (nn g : Nat) (s : GS) (H1 : Heap) : Prop := gtS G T nn g (gsm s) (gsn s) (gsP0 s) (gsP1 s) (gsw0 s) (gsw1 s) (gsrf s) H1
def gsI (I : gI) (g r d mr md : Nat) : GS := (mr, md, I (r + 9), I (d + 9), I (r + 10), I (d + 10), I (g + 28))
/-- a refusal alone is counted -/
theorem gt_ref {G : gG} {T : gTy} {I I2 : gI} {J : gJ} {Q : gR} {O : gO} {H1 : Heap} {nn g r d mr md j : Nat} {ck : Bool} {cr cd : CL} {Sr Sd : Nat → Prop} (hg : isGT T J Q O g r d mr md ck cr cd Sr Sd) (hck : ckOK ck cr cd mr md (I (r + 9)) (I (d + 9))) (hI : I2 = au I (g + 28) j (I (g + 28) j + 1)) (hP : gP G T I2 J Q O H1) : gtG G T nn g (gsRef (gsI I g r d mr md) j) H1 := by
  have e := hg.2.2.2.2.2.2.2.2.2.2.2.2.2.2.2.2.1
  exact ⟨T, I2, J, Q, O, r, d, ck, cr, cd, Sr, Sd, hP, fun _ h => Or.inl h, hg, hck, by rw [hI, au_ne _ _ _ (by omega)]; rfl, by rw [hI, au_ne _ _ _ (by omega)]; rfl, by rw [hI, au_ne _ _ _ (by omega)]; rfl, by rw [hI, au_ne _ _ _ (by omega)]; rfl, by rw [hI, au_row]; rfl⟩
theorem gt_same {G : gG} {T : gTy} {I : gI} {J : gJ} {Q : gR} {O : gO} {H1 : Heap} {nn g r d mr md : Nat} {ck : Bool} {cr cd : CL} {Sr Sd : Nat → Prop} (hg : isGT T J Q O g r d mr md ck cr cd Sr Sd) (hck : ckOK ck cr cd mr md (I (r + 9)) (I (d + 9))) (hP : gP G T I J Q O H1) : gtG G T nn g (gsI I g r d mr md) H1 := ⟨T, I, J, Q, O, r, d, ck, cr, cd, Sr, Sd, hP, fun _ h => Or.inl h, hg, hck, rfl, rfl, rfl, rfl, rfl⟩
/-- pays of one changed, cornersKnown false -/
theorem gt_pay0 {G : gG} {T : gTy} {I I2 : gI} {J : gJ} {Q : gR} {O O2 : gO} {H1 : Heap} {nn g r d mr md : Nat} {ck : Bool} {cr cd : CL} {Sr Sd : Nat → Prop} {P : Nat → Int32} (hg : isGT T J Q O g r d mr md ck cr cd Sr Sd) (hI : I2 = gu I (r + 9) P) (hO : O2 = au O g 4 (.int (gb false))) (hP : gP G T I2 J Q O2 H1) : gtG G T nn g (gsSetP (gsI I g r d mr md) P (I (d + 9))) H1 := by
  have e := hg.2.2.2.2.2.2.2.2.2.2.2.2.2.2.2.2.1
  exact ⟨T, I2, J, Q, O2, r, d, false, cr, cd, Sr, Sd, hP, fun _ h => Or.inl h, isGT_ck hg hO, ckOK_f, by rw [hI, gu_eq]; rfl, by rw [hI, gu_ne _ _ (by omega)]; rfl, by rw [hI, gu_ne _ _ (by omega)]; rfl, by rw [hI, gu_ne _ _ (by omega)]; rfl, by rw [hI, gu_ne _ _ (by omega)]; rfl⟩
theorem gt_pay1 {G : gG} {T : gTy} {I I2 : gI} {J : gJ} {Q : gR} {O O2 : gO} {H1 : Heap} {nn g r d mr md : Nat} {ck : Bool} {cr cd : CL} {Sr Sd : Nat → Prop} {P : Nat → Int32} (hg : isGT T J Q O g r d mr md ck cr cd Sr Sd) (hI : I2 = gu I (d + 9) P) (hO : O2 = au O g 4 (.int (gb false))) (hP : gP G T I2 J Q O2 H1) : gtG G T nn g (gsSetP (gsI I g r d mr md) (I (r + 9)) P) H1 := by
  have e := hg.2.2.2.2.2.2.2.2.2.2.2.2.2.2.2.2.1
  exact ⟨T, I2, J, Q, O2, r, d, false, cr, cd, Sr, Sd, hP, fun _ h => Or.inl h, isGT_ck hg hO, ckOK_f, by rw [hI, gu_ne _ _ (by omega)]; rfl, by rw [hI, gu_eq]; rfl, by rw [hI, gu_ne _ _ (by omega)]; rfl, by rw [hI, gu_ne _ _ (by omega)]; rfl, by rw [hI, gu_ne _ _ (by omega)]; rfl⟩
theorem gt_w0 {G : gG} {T : gTy} {I I2 : gI} {J : gJ} {Q : gR} {O : gO} {H1 : Heap} {nn g r d mr md k : Nat} {v : Int32} {ck : Bool} {cr cd : CL} {Sr Sd : Nat → Prop} (hg : isGT T J Q O g r d mr md ck cr cd Sr Sd) (hck : ckOK ck cr cd mr md (I (r + 9)) (I (d + 9))) (hI : I2 = au I (r + 10) k v) (hP : gP G T I2 J Q O H1) : gtG G T nn g (gsSetW (gsI I g r d mr md) (gu (I (r + 10)) k v) (I (d + 10))) H1 := by
  have e := hg.2.2.2.2.2.2.2.2.2.2.2.2.2.2.2.2.1
  exact ⟨T, I2, J, Q, O, r, d, ck, cr, cd, Sr, Sd, hP, fun _ h => Or.inl h, hg, hck, by rw [hI, au_ne _ _ _ (by omega)]; rfl, by rw [hI, au_ne _ _ _ (by omega)]; rfl, by rw [hI, au_row]; rfl, by rw [hI, au_ne _ _ _ (by omega)]; rfl, by rw [hI, au_ne _ _ _ (by omega)]; rfl⟩
theorem gt_w1 {G : gG} {T : gTy} {I I2 : gI} {J : gJ} {Q : gR} {O : gO} {H1 : Heap} {nn g r d mr md k : Nat} {v : Int32} {ck : Bool} {cr cd : CL} {Sr Sd : Nat → Prop} (hg : isGT T J Q O g r d mr md ck cr cd Sr Sd) (hck : ckOK ck cr cd mr md (I (r + 9)) (I (d + 9))) (hI : I2 = au I (d + 10) k v) (hP : gP G T I2 J Q O H1) : gtG G T nn g (gsSetW (gsI I g r d mr md) (I (r + 10)) (gu (I (d + 10)) k v)) H1 := by
  have e := hg.2.2.2.2.2.2.2.2.2.2.2.2.2.2.2.2.1
  exact ⟨T, I2, J, Q, O, r, d, ck, cr, cd, Sr, Sd, hP, fun _ h => Or.inl h, hg, hck, by rw [hI, au_ne _ _ _ (by omega)]; rfl, by rw [hI, au_ne _ _ _ (by omega)]; rfl, by rw [hI, au_ne _ _ _ (by omega)]; rfl, by rw [hI, au_row]; rfl, by rw [hI, au_ne _ _ _ (by omega)]; rfl⟩
/-- a number from 1 to 4 -/
theorem g14 {x : Int32} (h1 : ¬ x < nI 1) (h2 : ¬ nI 4 < x) : ∃ j : Nat, 1 ≤ j ∧ j ≤ 4 ∧ x = nI j := by
  have e1 : (nI 1).toInt = 1 := by decide
  have e4 : (nI 4).toInt = 4 := by decide
  simp only [Int32.lt_iff_toInt_lt, e1, e4] at h1 h2
  obtain ⟨j, hj, rfl⟩ := nI_of (x := x) (by simp only [Int32.lt_iff_toInt_lt]; have e0 : (0 : Int32).toInt = 0 := (by decide); omega)
  rw [nI_toInt hj] at h1 h2
  exact ⟨j, by omega, by omega, rfl⟩
set_option maxHeartbeats 4000000 in
set_option maxRecDepth 100000 in
theorem c_X4_game (l : Launch) {G : gG} {T : gTy} {I : gI} {J : gJ} {Q : gR} {O : gO} {H : Heap} (hP : gP G T I J Q O H) {g r d mr md : Nat} {ck : Bool} {cr cd : CL} {Sr Sd : Nat → Prop} {a b2 : Int32} (hg : isGT T J Q O g r d mr md ck cr cd Sr Sd) (hck : ckOK ck cr cd mr md (I (r + 9)) (I (d + 9))) : Met l yX4_game (gw yX4_game cX4_game 3 (some (.int))) ({ frames := 1, cells := 0, slots := 0, locals := 22 } : Room) (gPc G H [.ref g, .int a, .int b2]) (gQc (gF T H) (fun x H1 => rGame (gsI I g r d mr md) (fun x1 s1 => x = some (.int x1) ∧ gtG G T H.size g s1 H1) a b2)) 0 0 (gF T H) := by
  refine g_met [(0, .ref g), (1, .int a), (2, .int b2)] (by decide) rfl (by exact Nat.le_of_ble_eq_true rfl) ?_
  intro p e s m below meth c hC hs ls hl
  have hx := hC.1.1
  have hb := hC.1.2.1
  have hS : va_S (gF T H) s.heap H [] := hs ▸ va_S.rf
  have hTA : ∀ q, (T q).1 ≠ 0 → gF T H q := fun q h => Or.inl h
  have hA : ∀ q, s.heap.size ≤ q → gF T H q := fun q h => Or.inr (hs ▸ h)
  generalize hAe : gF T H = A at hS hTA hA ⊢
  have hg_lo8 := hg.2.2.2.2.2.2.2.2.1.2.2.2.2.2.2.2.2.1
  have hg_hi8 := hg.2.2.2.2.2.2.2.2.1.2.2.2.2.2.2.2.2.2
  have hg_lo9 := hg.2.2.2.2.2.2.2.2.2.1.2.2.2.2.2.2.2.2.1
  have hg_hi9 := hg.2.2.2.2.2.2.2.2.2.1.2.2.2.2.2.2.2.2.2
  have hg_ad := hg.2.2.2.2.2.2.2.2.2.2.2.2.2.2.2.2.1
  refine lv_iload_n hx hb dX4_game_0 rfl (lv_at hl 1 rfl) ?_
  refine lv_iconst (v := nI 1) hx hb dX4_game_1 (by decide) ?_
  refine lv_icmp_lt (tgt := 10) hx hb dX4_game_2 (by decide) (fun c2 => ?_) (fun c2 => ?_)
  · refine lv_aload_n hx hb dX4_game_10 rfl (lv_at hl 0 rfl) ?_
    refine lv_bipush (v := (-4)) hx hb dX4_game_11 (by decide) ?_
    refine g_cc (g_rV (As := [.int (-4 : Int32)]) hC hP (c_X4_refuse l hP (g := g) (q := (-4 : Int32)) (j := 4) (by first | assumption | omega) (by decide) (by omega)) hg.1 rfl ⟨q1_138, q1_135, q1_137, qs_0, q1_1⟩ dd_X4_refuse ⟨Nat.le_of_ble_eq_true rfl, Nat.le_of_ble_eq_true rfl, rfl, rfl⟩ hl.1 rfl (Nat.le_of_ble_eq_true rfl) dX4_game_13 ⟨Nat.le_of_ble_eq_true rfl, Nat.le_of_ble_eq_true rfl⟩) hS (fun q h => h.elim (hTA q) (fun z => hA q (Nat.le_trans hS.1 z))) (fun r5 H1 locs2 hq6 hS hz3 hfr4 => ?_)
    obtain ⟨rfl, hP⟩ := hq6
    obtain ⟨I7, hI7, hP⟩ : ∃ I7 : gI, I7 = au I (g + 28) 4 (I (g + 28) 4 + 1) ∧ gP G T I7 J Q O H1 := ⟨_, rfl, hP⟩
    refine W.eq (g2 := F0 m 16 ls [.int (-4 : Int32)]) rfl ?_
    refine g_retci hC hS ?_ dX4_game_16
    refine Or.inl ⟨?_, rfl, gt_ref hg hck hI7 hP⟩
    first | exact Or.inl c2 | exact Or.inr (Int32.not_le.mp c7)
  · refine lv_iload_n hx hb dX4_game_5 rfl (lv_at hl 2 rfl) ?_
    refine lv_iconst (v := nI 1) hx hb dX4_game_6 (by decide) ?_
    refine lv_icmp_ge (tgt := 17) hx hb dX4_game_7 (by decide) (fun c7 => ?_) (fun c7 => ?_)
    · refine lv_iload_n hx hb dX4_game_17 rfl (lv_at hl 1 rfl) ?_
      refine lv_iconst (v := nI 4) hx hb dX4_game_18 (by decide) ?_
      refine lv_icmp_gt (tgt := 27) hx hb dX4_game_19 (by decide) (fun c19 => ?_) (fun c19 => ?_)
      · refine lv_aload_n hx hb dX4_game_27 rfl (lv_at hl 0 rfl) ?_
        refine lv_bipush (v := (-6)) hx hb dX4_game_28 (by decide) ?_
        refine g_cc (g_rV (As := [.int (-6 : Int32)]) hC hP (c_X4_refuse l hP (g := g) (q := (-6 : Int32)) (j := 6) (by first | assumption | omega) (by decide) (by omega)) hg.1 rfl ⟨q1_138, q1_135, q1_137, qs_0, q1_1⟩ dd_X4_refuse ⟨Nat.le_of_ble_eq_true rfl, Nat.le_of_ble_eq_true rfl, rfl, rfl⟩ hl.1 rfl (Nat.le_of_ble_eq_true rfl) dX4_game_30 ⟨Nat.le_of_ble_eq_true rfl, Nat.le_of_ble_eq_true rfl⟩) hS (fun q h => h.elim (hTA q) (fun z => hA q (Nat.le_trans hS.1 z))) (fun r12 H8 locs9 hq13 hS hz10 hfr11 => ?_)
        obtain ⟨rfl, hP⟩ := hq13
        obtain ⟨I14, hI14, hP⟩ : ∃ I14 : gI, I14 = au I (g + 28) 6 (I (g + 28) 6 + 1) ∧ gP G T I14 J Q O H8 := ⟨_, rfl, hP⟩
        refine W.eq (g2 := F0 m 33 ls [.int (-6 : Int32)]) rfl ?_
        refine g_retci hC hS ?_ dX4_game_33
        refine Or.inr (Or.inl ⟨?_, ?_, rfl, gt_ref hg hck hI14 hP⟩)
        · rintro (h | h)
          · exact c2 h
          · exact Int32.not_lt.mpr c7 h
        · first | exact Or.inl c19 | exact Or.inr (Int32.not_le.mp c24)
      · refine lv_iload_n hx hb dX4_game_22 rfl (lv_at hl 2 rfl) ?_
        refine lv_iconst (v := nI 4) hx hb dX4_game_23 (by decide) ?_
        refine lv_icmp_le (tgt := 34) hx hb dX4_game_24 (by decide) (fun c24 => ?_) (fun c24 => ?_)
        · have k2 : ¬ nI 4 < b2 := Int32.not_lt.mpr c24
          obtain ⟨i, hi1, hi4, rfl⟩ := g14 c2 c19
          obtain ⟨k, hk1, hk4, rfl⟩ := g14 (Int32.not_lt.mpr c7) k2
          refine lv_aload_n hx hb dX4_game_34 rfl (lv_at hl 0 rfl) ?_
          refine g_get hC hP hg.1 rfl inX4 0 (by decide) q1_115 hg.2.1 dX4_game_35 ?_
          refine lv_iload_n hx hb dX4_game_38 rfl (lv_at hl 1 rfl) ?_
          refine g_cc (g_rV (As := [.int (nI i)]) hC hP (c_X3_startAnew l hP (b := r) (ch := mr) (nn := i) hg.2.2.2.2.2.2.2.2.1) hg.2.2.2.2.2.2.2.2.1.1 rfl ⟨q1_142, q1_139, q1_140, q1_141, q1_2⟩ dd_X3_startAnew ⟨Nat.le_of_ble_eq_true rfl, Nat.le_of_ble_eq_true rfl, rfl, rfl⟩ hl.1 rfl (Nat.le_of_ble_eq_true rfl) dX4_game_39 ⟨Nat.le_of_ble_eq_true rfl, Nat.le_of_ble_eq_true rfl⟩) hS (fun q h => h.elim (hTA q) (fun z => hA q (Nat.le_trans hS.1 z))) (fun r19 H15 locs16 hq20 hS hz17 hfr18 => ?_)
          obtain ⟨rfl, hP⟩ := hq20
          obtain ⟨I21, hI21, O22, hO22, hP⟩ : ∃ I21 : gI, I21 = gu I (r + 9) (z16 (I (r + 9)) 16) ∧ ∃ O22 : gO, O22 = au O r 0 (.int (nI i)) ∧ gP G T I21 J Q O22 H15 := ⟨_, rfl, _, rfl, hP⟩
          refine W.eq (g2 := F0 m 42 ls []) rfl ?_
          have hg2 := isGT_m hg hO22 hi1 hi4
          refine lv_aload_n hx hb dX4_game_42 rfl (lv_at hl 0 rfl) ?_
          refine g_get hC hP hg2.1 rfl inX4 1 (by decide) q1_116 hg2.2.2.1 dX4_game_43 ?_
          refine lv_iload_n hx hb dX4_game_46 rfl (lv_at hl 2 rfl) ?_
          refine g_cc (g_rV (As := [.int (nI k)]) hC hP (c_X3_startAnew l hP (b := d) (ch := md) (nn := k) hg2.2.2.2.2.2.2.2.2.2.1) hg2.2.2.2.2.2.2.2.2.2.1.1 rfl ⟨q1_142, q1_139, q1_140, q1_141, q1_2⟩ dd_X3_startAnew ⟨Nat.le_of_ble_eq_true rfl, Nat.le_of_ble_eq_true rfl, rfl, rfl⟩ hl.1 rfl (Nat.le_of_ble_eq_true rfl) dX4_game_47 ⟨Nat.le_of_ble_eq_true rfl, Nat.le_of_ble_eq_true rfl⟩) hS (fun q h => h.elim (hTA q) (fun z => hA q (Nat.le_trans hS.1 z))) (fun r27 H23 locs24 hq28 hS hz25 hfr26 => ?_)
          obtain ⟨rfl, hP⟩ := hq28
          obtain ⟨I29, hI29, O30, hO30, hP⟩ : ∃ I29 : gI, I29 = gu I21 (d + 9) (z16 (I21 (d + 9)) 16) ∧ ∃ O30 : gO, O30 = au O22 d 0 (.int (nI k)) ∧ gP G T I29 J Q O30 H23 := ⟨_, rfl, _, rfl, hP⟩
          refine W.eq (g2 := F0 m 50 ls []) rfl ?_
          have hg3 := isGT_n hg2 hO30 hk1 hk4
          refine lv_aload_n hx hb dX4_game_50 rfl (lv_at hl 0 rfl) ?_
          refine lv_iconst (v := nI 0) hx hb dX4_game_51 (by decide) ?_
          refine g_put hC hP hS hTA hg3.1 rfl inX4 tyX4 tyX4_ok nmX4 4 (by decide) q1_119 rfl (ty := tyX4 4) (by decide) rfl rfl dX4_game_52 (fun H31 locs32 hP hS hz34 => ?_)
          obtain ⟨O33, hO33, hP⟩ : ∃ X : gO, X = au O30 g 4 (.int (nI 0)) ∧ gP G T I29 J Q X H31 := ⟨_, rfl, hP⟩
          refine lv_iconst (v := nI 1) hx hb dX4_game_55 (by decide) ?_
          refine g_retci hC hS ?_ dX4_game_56
          refine Or.inr (Or.inr ⟨i, k, ⟨hi1, hi4⟩, ⟨hk1, hk4⟩, rfl, rfl, rfl, T, I29, J, Q, O33, r, d, false, cr, cd, Sr, Sd, hP, fun _ h => Or.inl h, isGT_ck (b := false) hg3 hO33, ckOK_f, ?_, ?_, ?_, ?_, ?_⟩)
          all_goals simp only [*, gsI, gu, show (r + 9 = d + 9) = False from eq_false (by omega), show (d + 9 = r + 9) = False from eq_false (by omega), show (r + 10 = r + 9) = False from eq_false (by omega), show (r + 10 = d + 9) = False from eq_false (by omega), show (d + 10 = r + 9) = False from eq_false (by omega), show (d + 10 = d + 9) = False from eq_false (by omega), show (g + 28 = r + 9) = False from eq_false (by omega), show (g + 28 = d + 9) = False from eq_false (by omega), if_true, if_false]
        · refine lv_aload_n hx hb dX4_game_27 rfl (lv_at hl 0 rfl) ?_
          refine lv_bipush (v := (-6)) hx hb dX4_game_28 (by decide) ?_
          refine g_cc (g_rV (As := [.int (-6 : Int32)]) hC hP (c_X4_refuse l hP (g := g) (q := (-6 : Int32)) (j := 6) (by first | assumption | omega) (by decide) (by omega)) hg.1 rfl ⟨q1_138, q1_135, q1_137, qs_0, q1_1⟩ dd_X4_refuse ⟨Nat.le_of_ble_eq_true rfl, Nat.le_of_ble_eq_true rfl, rfl, rfl⟩ hl.1 rfl (Nat.le_of_ble_eq_true rfl) dX4_game_30 ⟨Nat.le_of_ble_eq_true rfl, Nat.le_of_ble_eq_true rfl⟩) hS (fun q h => h.elim (hTA q) (fun z => hA q (Nat.le_trans hS.1 z))) (fun r39 H35 locs36 hq40 hS hz37 hfr38 => ?_)
          obtain ⟨rfl, hP⟩ := hq40
          obtain ⟨I41, hI41, hP⟩ : ∃ I41 : gI, I41 = au I (g + 28) 6 (I (g + 28) 6 + 1) ∧ gP G T I41 J Q O H35 := ⟨_, rfl, hP⟩
          refine W.eq (g2 := F0 m 33 ls [.int (-6 : Int32)]) rfl ?_
          refine g_retci hC hS ?_ dX4_game_33
          refine Or.inr (Or.inl ⟨?_, ?_, rfl, gt_ref hg hck hI41 hP⟩)
          · rintro (h | h)
            · exact c2 h
            · exact Int32.not_lt.mpr c7 h
          · first | exact Or.inl c19 | exact Or.inr (Int32.not_le.mp c24)
    · refine lv_aload_n hx hb dX4_game_10 rfl (lv_at hl 0 rfl) ?_
      refine lv_bipush (v := (-4)) hx hb dX4_game_11 (by decide) ?_
      refine g_cc (g_rV (As := [.int (-4 : Int32)]) hC hP (c_X4_refuse l hP (g := g) (q := (-4 : Int32)) (j := 4) (by first | assumption | omega) (by decide) (by omega)) hg.1 rfl ⟨q1_138, q1_135, q1_137, qs_0, q1_1⟩ dd_X4_refuse ⟨Nat.le_of_ble_eq_true rfl, Nat.le_of_ble_eq_true rfl, rfl, rfl⟩ hl.1 rfl (Nat.le_of_ble_eq_true rfl) dX4_game_13 ⟨Nat.le_of_ble_eq_true rfl, Nat.le_of_ble_eq_true rfl⟩) hS (fun q h => h.elim (hTA q) (fun z => hA q (Nat.le_trans hS.1 z))) (fun r46 H42 locs43 hq47 hS hz44 hfr45 => ?_)
      obtain ⟨rfl, hP⟩ := hq47
      obtain ⟨I48, hI48, hP⟩ : ∃ I48 : gI, I48 = au I (g + 28) 4 (I (g + 28) 4 + 1) ∧ gP G T I48 J Q O H42 := ⟨_, rfl, hP⟩
      refine W.eq (g2 := F0 m 16 ls [.int (-4 : Int32)]) rfl ?_
      refine g_retci hC hS ?_ dX4_game_16
      refine Or.inl ⟨?_, rfl, gt_ref hg hck hI48 hP⟩
      first | exact Or.inl c2 | exact Or.inr (Int32.not_le.mp c7)
set_option maxHeartbeats 4000000 in
set_option maxRecDepth 100000 in
theorem c_X4_pay (l : Launch) {G : gG} {T : gTy} {I : gI} {J : gJ} {Q : gR} {O : gO} {H : Heap} (hP : gP G T I J Q O H) {g r d mr md : Nat} {ck : Bool} {cr cd : CL} {Sr Sd : Nat → Prop} {q i k v : Int32} (hg : isGT T J Q O g r d mr md ck cr cd Sr Sd) (hck : ckOK ck cr cd mr md (I (r + 9)) (I (d + 9))) : Met l yX4_pay (gw yX4_pay cX4_pay 8 (some (.int))) ({ frames := 2, cells := 0, slots := 0, locals := 44 } : Room) (gPc G H [.ref g, .int q, .int i, .int k, .int v]) (gQc (gF T H) (fun x H1 => rPay (gsI I g r d mr md) (fun x1 s1 => x = some (.int x1) ∧ gtG G T H.size g s1 H1) q i k v)) 0 0 (gF T H) := by
  refine g_met [(0, .ref g), (1, .int q), (2, .int i), (3, .int k), (4, .int v)] (by decide) rfl (by exact Nat.le_of_ble_eq_true rfl) ?_
  intro p e s m below meth c hC hs ls hl
  have hx := hC.1.1
  have hb := hC.1.2.1
  have hS : va_S (gF T H) s.heap H [] := hs ▸ va_S.rf
  have hTA : ∀ q, (T q).1 ≠ 0 → gF T H q := fun q h => Or.inl h
  have hA : ∀ q, s.heap.size ≤ q → gF T H q := fun q h => Or.inr (hs ▸ h)
  generalize hAe : gF T H = A at hS hTA hA ⊢
  have hg_lo8 := hg.2.2.2.2.2.2.2.2.1.2.2.2.2.2.2.2.2.1
  have hg_hi8 := hg.2.2.2.2.2.2.2.2.1.2.2.2.2.2.2.2.2.2
  have hg_lo9 := hg.2.2.2.2.2.2.2.2.2.1.2.2.2.2.2.2.2.2.1
  have hg_hi9 := hg.2.2.2.2.2.2.2.2.2.1.2.2.2.2.2.2.2.2.2
  have hg_ad := hg.2.2.2.2.2.2.2.2.2.2.2.2.2.2.2.2.1
  refine lv_aload_n hx hb dX4_pay_0 rfl (lv_at hl 0 rfl) ?_
  refine lv_iload_n hx hb dX4_pay_1 rfl (lv_at hl 1 rfl) ?_
  refine lv_iload_n hx hb dX4_pay_2 rfl (lv_at hl 2 rfl) ?_
  refine lv_iload_n hx hb dX4_pay_3 rfl (lv_at hl 3 rfl) ?_
  refine g_cp (g_rV (As := [.int q, .int i, .int k]) hC hP (c_X4_isPlace l hP (g := g) (q := q) (i := i) (k := k) (by first | assumption | omega)) hg.1 rfl ⟨q1_150, q1_147, q1_149, qs_1, q1_1⟩ dd_X4_isPlace ⟨Nat.le_of_ble_eq_true rfl, Nat.le_of_ble_eq_true rfl, rfl, rfl⟩ hl.1 rfl (Nat.le_of_ble_eq_true rfl) dX4_pay_4 ⟨Nat.le_of_ble_eq_true rfl, Nat.le_of_ble_eq_true rfl⟩) ?_
  refine W.eq (g2 := F0 m 7 ls [.int (gb (isW q && (inR i mr && inR k md)))]) rfl ?_
  refine lv_if_ne (tgt := 16) hx hb dX4_pay_7 (by decide) (fun c7 => ?_) (fun c7 => ?_)
  · have c7 := gb_t c7
    refine lv_iload hx hb dX4_pay_16 (lv_at hl 4 rfl) ?_
    refine lv_bipush (v := (-20)) hx hb dX4_pay_18 (by decide) ?_
    refine lv_icmp_ge (tgt := 30) hx hb dX4_pay_20 (by decide) (fun c20 => ?_) (fun c20 => ?_)
    · refine lv_iload hx hb dX4_pay_30 (lv_at hl 4 rfl) ?_
      refine lv_bipush (v := nI 20) hx hb dX4_pay_32 (by decide) ?_
      refine lv_icmp_le (tgt := 44) hx hb dX4_pay_34 (by decide) (fun c34 => ?_) (fun c34 => ?_)
      · have c7b := c7
        simp only [Bool.and_eq_true] at c7
        obtain ⟨c7w, c7i, c7k⟩ := c7
        obtain ⟨a, ha, rfl⟩ := inR_nI (by omega) c7i
        obtain ⟨b, hb2, rfl⟩ := inR_nI (by omega) c7k
        rcases isW_c c7w with rfl | rfl
        · refine lv_iload_n hx hb dX4_pay_44 rfl (lv_at hl 1 rfl) ?_
          refine lv_if_ne (tgt := 52) hx hb dX4_pay_45 (by decide) (fun q => absurd (by decide) q) (fun _ => ?_)
          refine lv_iload_n hx hb dX4_pay_48 rfl (lv_at hl 2 rfl) ?_
          refine lv_goto (tgt := 53) hx hb dX4_pay_49 (by decide) ?_
          refine lv_istore (lv' := [(5, .int (nI a)), (0, .ref g), (1, .int (nI 0)), (2, .int (nI a)), (3, .int (nI b)), (4, .int v)]) hx hb dX4_pay_53 hl (by decide) rfl (fun ls hl => ?_)
          refine lv_iload_n hx hb dX4_pay_55 rfl (lv_at hl 2 rfl) ?_
          refine lv_if_ne (tgt := 63) hx hb dX4_pay_56 (by decide) (fun q => absurd (by decide) q) (fun _ => ?_)
          refine lv_iload_n hx hb dX4_pay_59 rfl (lv_at hl 4 rfl) ?_
          refine lv_goto (tgt := 64) hx hb dX4_pay_60 (by decide) ?_
          refine lv_istore (lv' := [(6, .int (nI b)), (5, .int (nI a)), (0, .ref g), (1, .int (nI 0)), (2, .int (nI a)), (3, .int (nI b)), (4, .int v)]) hx hb dX4_pay_64 hl (by decide) rfl (fun ls hl => ?_)
          refine lv_aload_n hx hb dX4_pay_66 rfl (lv_at hl 2 rfl) ?_
          refine lv_iload_n hx hb dX4_pay_67 rfl (lv_at hl 3 rfl) ?_
          refine g_cp (g_rV (As := [.int (nI 0)]) hC hP (c_X4_player l hP (g := g) (w := 0) (by first | assumption | omega) (by first | assumption | omega)) hg.1 rfl ⟨q1_166, q1_163, q1_165, qs_3, q1_1⟩ dd_X4_player ⟨Nat.le_of_ble_eq_true rfl, Nat.le_of_ble_eq_true rfl, rfl, rfl⟩ hl.1 rfl (Nat.le_of_ble_eq_true rfl) dX4_pay_68 ⟨Nat.le_of_ble_eq_true rfl, Nat.le_of_ble_eq_true rfl⟩) ?_
          refine W.eq (g2 := F0 m 71 ls [.ref r]) rfl ?_
          refine lv_iload hx hb dX4_pay_71 (lv_at hl 1 rfl) ?_
          refine lv_iload hx hb dX4_pay_73 (lv_at hl 0 rfl) ?_
          refine g_cp (g_rV (As := [.int (nI a), .int (nI b)]) hC hP (c_X3_payFor l hP (b := r) (ch := mr) (i := a) (k := b) (by first | exact hg.2.2.2.2.2.2.2.2.1 | exact hg.2.2.2.2.2.2.2.2.2.1) (by first | assumption | omega) (by first | assumption | omega)) hg.2.2.2.2.2.2.2.2.1.1 rfl ⟨q1_170, q1_167, q1_168, q1_169, q1_2⟩ dd_X3_payFor ⟨Nat.le_of_ble_eq_true rfl, Nat.le_of_ble_eq_true rfl, rfl, rfl⟩ hl.1 rfl (Nat.le_of_ble_eq_true rfl) dX4_pay_75 ⟨Nat.le_of_ble_eq_true rfl, Nat.le_of_ble_eq_true rfl⟩) ?_
          refine W.eq (g2 := F0 m 78 ls [.int (I (r + 9) (a * 4 + b))]) rfl ?_
          refine lv_istore (lv' := [(7, .int (I (r + 9) (a * 4 + b))), (6, .int (nI b)), (5, .int (nI a)), (0, .ref g), (1, .int (nI 0)), (2, .int (nI a)), (3, .int (nI b)), (4, .int v)]) hx hb dX4_pay_78 hl (by decide) rfl (fun ls hl => ?_)
          refine lv_aload_n hx hb dX4_pay_80 rfl (lv_at hl 3 rfl) ?_
          refine lv_iload_n hx hb dX4_pay_81 rfl (lv_at hl 4 rfl) ?_
          refine g_cp (g_rV (As := [.int (nI 0)]) hC hP (c_X4_player l hP (g := g) (w := 0) (by first | assumption | omega) (by first | assumption | omega)) hg.1 rfl ⟨q1_166, q1_163, q1_165, qs_3, q1_1⟩ dd_X4_player ⟨Nat.le_of_ble_eq_true rfl, Nat.le_of_ble_eq_true rfl, rfl, rfl⟩ hl.1 rfl (Nat.le_of_ble_eq_true rfl) dX4_pay_82 ⟨Nat.le_of_ble_eq_true rfl, Nat.le_of_ble_eq_true rfl⟩) ?_
          refine W.eq (g2 := F0 m 85 ls [.ref r]) rfl ?_
          refine lv_iload hx hb dX4_pay_85 (lv_at hl 2 rfl) ?_
          refine lv_iload hx hb dX4_pay_87 (lv_at hl 1 rfl) ?_
          refine lv_iload hx hb dX4_pay_89 (lv_at hl 7 rfl) ?_
          refine g_cc (g_rV (As := [.int (nI a), .int (nI b), .int v]) hC hP (c_X3_setPay l hP (b := r) (ch := mr) (i := a) (k := b) (v := v) (by first | exact hg.2.2.2.2.2.2.2.2.1 | exact hg.2.2.2.2.2.2.2.2.2.1) (by first | assumption | omega) (by first | assumption | omega)) hg.2.2.2.2.2.2.2.2.1.1 rfl ⟨q1_174, q1_171, q1_172, q1_173, q1_2⟩ dd_X3_setPay ⟨Nat.le_of_ble_eq_true rfl, Nat.le_of_ble_eq_true rfl, rfl, rfl⟩ hl.1 rfl (Nat.le_of_ble_eq_true rfl) dX4_pay_91 ⟨Nat.le_of_ble_eq_true rfl, Nat.le_of_ble_eq_true rfl⟩) hS (fun q h => h.elim (hTA q) (fun z => hA q (Nat.le_trans hS.1 z))) (fun r5 H1 locs2 hq6 hS hz3 hfr4 => ?_)
          obtain ⟨rfl, hP⟩ := hq6
          obtain ⟨I7, hI7, hP⟩ : ∃ I7 : gI, I7 = au I (r + 9) (a * 4 + b) v ∧ gP G T I7 J Q O H1 := ⟨_, rfl, hP⟩
          refine W.eq (g2 := F0 m 94 ls []) rfl ?_
          refine lv_aload_n hx hb dX4_pay_94 rfl (lv_at hl 3 rfl) ?_
          refine lv_iconst (v := nI 0) hx hb dX4_pay_95 (by decide) ?_
          refine g_put hC hP hS hTA hg.1 rfl inX4 tyX4 tyX4_ok nmX4 4 (by decide) q1_119 rfl (ty := tyX4 4) (by decide) rfl rfl dX4_pay_96 (fun H8 locs9 hP hS hz11 => ?_)
          obtain ⟨O10, hO10, hP⟩ : ∃ X : gO, X = au O g 4 (.int (nI 0)) ∧ gP G T I7 J Q X H8 := ⟨_, rfl, hP⟩
          refine lv_iload hx hb dX4_pay_99 (lv_at hl 0 rfl) ?_
          refine g_retci hC hS ?_ dX4_pay_101
          refine Or.inr (Or.inr (Or.inr ⟨a, b, ha, hb2, rfl, rfl, Int32.not_lt.mpr c20, Int32.not_lt.mpr c34, Or.inl ⟨rfl, rfl, gt_pay0 hg hI7 hO10 hP⟩⟩))
        · refine lv_iload_n hx hb dX4_pay_44 rfl (lv_at hl 1 rfl) ?_
          refine lv_if_ne (tgt := 52) hx hb dX4_pay_45 (by decide) (fun _ => ?_) (fun q => absurd q (by decide))
          refine lv_iload_n hx hb dX4_pay_52 rfl (lv_at hl 3 rfl) ?_
          refine lv_istore (lv' := [(5, .int (nI b)), (0, .ref g), (1, .int (nI 1)), (2, .int (nI a)), (3, .int (nI b)), (4, .int v)]) hx hb dX4_pay_53 hl (by decide) rfl (fun ls hl => ?_)
          refine lv_iload_n hx hb dX4_pay_55 rfl (lv_at hl 2 rfl) ?_
          refine lv_if_ne (tgt := 63) hx hb dX4_pay_56 (by decide) (fun _ => ?_) (fun q => absurd q (by decide))
          refine lv_iload_n hx hb dX4_pay_63 rfl (lv_at hl 3 rfl) ?_
          refine lv_istore (lv' := [(6, .int (nI a)), (5, .int (nI b)), (0, .ref g), (1, .int (nI 1)), (2, .int (nI a)), (3, .int (nI b)), (4, .int v)]) hx hb dX4_pay_64 hl (by decide) rfl (fun ls hl => ?_)
          refine lv_aload_n hx hb dX4_pay_66 rfl (lv_at hl 2 rfl) ?_
          refine lv_iload_n hx hb dX4_pay_67 rfl (lv_at hl 3 rfl) ?_
          refine g_cp (g_rV (As := [.int (nI 1)]) hC hP (c_X4_player l hP (g := g) (w := 1) (by first | assumption | omega) (by first | assumption | omega)) hg.1 rfl ⟨q1_166, q1_163, q1_165, qs_3, q1_1⟩ dd_X4_player ⟨Nat.le_of_ble_eq_true rfl, Nat.le_of_ble_eq_true rfl, rfl, rfl⟩ hl.1 rfl (Nat.le_of_ble_eq_true rfl) dX4_pay_68 ⟨Nat.le_of_ble_eq_true rfl, Nat.le_of_ble_eq_true rfl⟩) ?_
          refine W.eq (g2 := F0 m 71 ls [.ref d]) rfl ?_
          refine lv_iload hx hb dX4_pay_71 (lv_at hl 1 rfl) ?_
          refine lv_iload hx hb dX4_pay_73 (lv_at hl 0 rfl) ?_
          refine g_cp (g_rV (As := [.int (nI b), .int (nI a)]) hC hP (c_X3_payFor l hP (b := d) (ch := md) (i := b) (k := a) (by first | exact hg.2.2.2.2.2.2.2.2.1 | exact hg.2.2.2.2.2.2.2.2.2.1) (by first | assumption | omega) (by first | assumption | omega)) hg.2.2.2.2.2.2.2.2.2.1.1 rfl ⟨q1_170, q1_167, q1_168, q1_169, q1_2⟩ dd_X3_payFor ⟨Nat.le_of_ble_eq_true rfl, Nat.le_of_ble_eq_true rfl, rfl, rfl⟩ hl.1 rfl (Nat.le_of_ble_eq_true rfl) dX4_pay_75 ⟨Nat.le_of_ble_eq_true rfl, Nat.le_of_ble_eq_true rfl⟩) ?_
          refine W.eq (g2 := F0 m 78 ls [.int (I (d + 9) (b * 4 + a))]) rfl ?_
          refine lv_istore (lv' := [(7, .int (I (d + 9) (b * 4 + a))), (6, .int (nI a)), (5, .int (nI b)), (0, .ref g), (1, .int (nI 1)), (2, .int (nI a)), (3, .int (nI b)), (4, .int v)]) hx hb dX4_pay_78 hl (by decide) rfl (fun ls hl => ?_)
          refine lv_aload_n hx hb dX4_pay_80 rfl (lv_at hl 3 rfl) ?_
          refine lv_iload_n hx hb dX4_pay_81 rfl (lv_at hl 4 rfl) ?_
          refine g_cp (g_rV (As := [.int (nI 1)]) hC hP (c_X4_player l hP (g := g) (w := 1) (by first | assumption | omega) (by first | assumption | omega)) hg.1 rfl ⟨q1_166, q1_163, q1_165, qs_3, q1_1⟩ dd_X4_player ⟨Nat.le_of_ble_eq_true rfl, Nat.le_of_ble_eq_true rfl, rfl, rfl⟩ hl.1 rfl (Nat.le_of_ble_eq_true rfl) dX4_pay_82 ⟨Nat.le_of_ble_eq_true rfl, Nat.le_of_ble_eq_true rfl⟩) ?_
          refine W.eq (g2 := F0 m 85 ls [.ref d]) rfl ?_
          refine lv_iload hx hb dX4_pay_85 (lv_at hl 2 rfl) ?_
          refine lv_iload hx hb dX4_pay_87 (lv_at hl 1 rfl) ?_
          refine lv_iload hx hb dX4_pay_89 (lv_at hl 7 rfl) ?_
          refine g_cc (g_rV (As := [.int (nI b), .int (nI a), .int v]) hC hP (c_X3_setPay l hP (b := d) (ch := md) (i := b) (k := a) (v := v) (by first | exact hg.2.2.2.2.2.2.2.2.1 | exact hg.2.2.2.2.2.2.2.2.2.1) (by first | assumption | omega) (by first | assumption | omega)) hg.2.2.2.2.2.2.2.2.2.1.1 rfl ⟨q1_174, q1_171, q1_172, q1_173, q1_2⟩ dd_X3_setPay ⟨Nat.le_of_ble_eq_true rfl, Nat.le_of_ble_eq_true rfl, rfl, rfl⟩ hl.1 rfl (Nat.le_of_ble_eq_true rfl) dX4_pay_91 ⟨Nat.le_of_ble_eq_true rfl, Nat.le_of_ble_eq_true rfl⟩) hS (fun q h => h.elim (hTA q) (fun z => hA q (Nat.le_trans hS.1 z))) (fun r16 H12 locs13 hq17 hS hz14 hfr15 => ?_)
          obtain ⟨rfl, hP⟩ := hq17
          obtain ⟨I18, hI18, hP⟩ : ∃ I18 : gI, I18 = au I (d + 9) (b * 4 + a) v ∧ gP G T I18 J Q O H12 := ⟨_, rfl, hP⟩
          refine W.eq (g2 := F0 m 94 ls []) rfl ?_
          refine lv_aload_n hx hb dX4_pay_94 rfl (lv_at hl 3 rfl) ?_
          refine lv_iconst (v := nI 0) hx hb dX4_pay_95 (by decide) ?_
          refine g_put hC hP hS hTA hg.1 rfl inX4 tyX4 tyX4_ok nmX4 4 (by decide) q1_119 rfl (ty := tyX4 4) (by decide) rfl rfl dX4_pay_96 (fun H19 locs20 hP hS hz22 => ?_)
          obtain ⟨O21, hO21, hP⟩ : ∃ X : gO, X = au O g 4 (.int (nI 0)) ∧ gP G T I18 J Q X H19 := ⟨_, rfl, hP⟩
          refine lv_iload hx hb dX4_pay_99 (lv_at hl 0 rfl) ?_
          refine g_retci hC hS ?_ dX4_pay_101
          refine Or.inr (Or.inr (Or.inr ⟨a, b, ha, hb2, rfl, rfl, Int32.not_lt.mpr c20, Int32.not_lt.mpr c34, Or.inr ⟨rfl, rfl, gt_pay1 hg hI18 hO21 hP⟩⟩))
      · refine lv_aload_n hx hb dX4_pay_37 rfl (lv_at hl 0 rfl) ?_
        refine lv_bipush (v := (-6)) hx hb dX4_pay_38 (by decide) ?_
        refine g_cc (g_rV (As := [.int (-6 : Int32)]) hC hP (c_X4_refuseAmongPays l hP (g := g) (q := (-6 : Int32)) (j := 6) (by first | assumption | omega) (by decide) (by omega)) hg.1 rfl ⟨q1_161, q1_158, q1_160, qs_2, q1_1⟩ dd_X4_refuseAmongPays ⟨Nat.le_of_ble_eq_true rfl, Nat.le_of_ble_eq_true rfl, rfl, rfl⟩ hl.1 rfl (Nat.le_of_ble_eq_true rfl) dX4_pay_40 ⟨Nat.le_of_ble_eq_true rfl, Nat.le_of_ble_eq_true rfl⟩) hS (fun q h => h.elim (hTA q) (fun z => hA q (Nat.le_trans hS.1 z))) (fun r27 H23 locs24 hq28 hS hz25 hfr26 => ?_)
        obtain ⟨rfl, hP⟩ := hq28
        obtain ⟨I29, hI29, hP⟩ : ∃ I29 : gI, I29 = au I (g + 28) 6 (I (g + 28) 6 + 1) ∧ gP G T I29 J Q O H23 := ⟨_, rfl, hP⟩
        refine W.eq (g2 := F0 m 43 ls [.int (1000000000 - (-6 : Int32))]) rfl ?_
        refine g_retci hC hS ?_ dX4_pay_43
        exact Or.inr (Or.inr (Or.inl ⟨c7, Int32.not_lt.mpr c20, Int32.not_le.mp c34, rfl, gt_ref hg hck hI29 hP⟩))
    · refine lv_aload_n hx hb dX4_pay_23 rfl (lv_at hl 0 rfl) ?_
      refine lv_bipush (v := (-4)) hx hb dX4_pay_24 (by decide) ?_
      refine g_cc (g_rV (As := [.int (-4 : Int32)]) hC hP (c_X4_refuseAmongPays l hP (g := g) (q := (-4 : Int32)) (j := 4) (by first | assumption | omega) (by decide) (by omega)) hg.1 rfl ⟨q1_161, q1_158, q1_160, qs_2, q1_1⟩ dd_X4_refuseAmongPays ⟨Nat.le_of_ble_eq_true rfl, Nat.le_of_ble_eq_true rfl, rfl, rfl⟩ hl.1 rfl (Nat.le_of_ble_eq_true rfl) dX4_pay_26 ⟨Nat.le_of_ble_eq_true rfl, Nat.le_of_ble_eq_true rfl⟩) hS (fun q h => h.elim (hTA q) (fun z => hA q (Nat.le_trans hS.1 z))) (fun r34 H30 locs31 hq35 hS hz32 hfr33 => ?_)
      obtain ⟨rfl, hP⟩ := hq35
      obtain ⟨I36, hI36, hP⟩ : ∃ I36 : gI, I36 = au I (g + 28) 4 (I (g + 28) 4 + 1) ∧ gP G T I36 J Q O H30 := ⟨_, rfl, hP⟩
      refine W.eq (g2 := F0 m 29 ls [.int (1000000000 - (-4 : Int32))]) rfl ?_
      refine g_retci hC hS ?_ dX4_pay_29
      exact Or.inr (Or.inl ⟨c7, Int32.not_le.mp c20, rfl, gt_ref hg hck hI36 hP⟩)
  · have c7 := gb_f c7
    refine lv_aload_n hx hb dX4_pay_10 rfl (lv_at hl 0 rfl) ?_
    refine lv_iconst (v := (-1)) hx hb dX4_pay_11 (by decide) ?_
    refine g_cc (g_rV (As := [.int (-1 : Int32)]) hC hP (c_X4_refuseAmongPays l hP (g := g) (q := (-1 : Int32)) (j := 1) (by first | assumption | omega) (by decide) (by omega)) hg.1 rfl ⟨q1_161, q1_158, q1_160, qs_2, q1_1⟩ dd_X4_refuseAmongPays ⟨Nat.le_of_ble_eq_true rfl, Nat.le_of_ble_eq_true rfl, rfl, rfl⟩ hl.1 rfl (Nat.le_of_ble_eq_true rfl) dX4_pay_12 ⟨Nat.le_of_ble_eq_true rfl, Nat.le_of_ble_eq_true rfl⟩) hS (fun q h => h.elim (hTA q) (fun z => hA q (Nat.le_trans hS.1 z))) (fun r41 H37 locs38 hq42 hS hz39 hfr40 => ?_)
    obtain ⟨rfl, hP⟩ := hq42
    obtain ⟨I43, hI43, hP⟩ : ∃ I43 : gI, I43 = au I (g + 28) 1 (I (g + 28) 1 + 1) ∧ gP G T I43 J Q O H37 := ⟨_, rfl, hP⟩
    refine W.eq (g2 := F0 m 15 ls [.int (1000000000 - (-1 : Int32))]) rfl ?_
    refine g_retci hC hS ?_ dX4_pay_15
    exact Or.inl ⟨c7, rfl, gt_ref hg hck hI43 hP⟩
