set_option maxHeartbeats 4000000 in
set_option maxRecDepth 100000 in
theorem c_X4_paid (l : Launch) {G : gG} {T : gTy} {I : gI} {J : gJ} {Q : gR} {O : gO} {H : Heap} (hP : gP G T I J Q O H) {g r d mr md : Nat} {ck : Bool} {cr cd : CL} {Sr Sd : Nat → Prop} {q i k : Int32} (hg : isGT T J Q O g r d mr md ck cr cd Sr Sd) (hck : ckOK ck cr cd mr md (I (r + 9)) (I (d + 9))) : Met l yX4_paid (gw yX4_paid cX4_paid 4 (some (.int))) ({ frames := 2, cells := 0, slots := 0, locals := 44 } : Room) (gPc G H [.ref g, .int q, .int i, .int k]) (gQc (gF T H) (fun x H1 => rPaid (gsI I g r d mr md) (fun x1 s1 => x = some (.int x1) ∧ gtG G T H.size g s1 H1) q i k)) 0 0 (gF T H) := by
  refine g_met [(0, .ref g), (1, .int q), (2, .int i), (3, .int k)] (by decide) rfl (by exact Nat.le_of_ble_eq_true rfl) ?_
  intro p e s m below meth c hC hs ls hl
  have hx := hC.1.1
  have hb := hC.1.2.1
  have hS : va_S (gF T H) s.heap H [] := hs ▸ va_S.rf
  have hTA : ∀ q, (T q).1 ≠ 0 → gF T H q := fun q h => Or.inl h
  have hA : ∀ q, s.heap.size ≤ q → gF T H q := fun q h => Or.inr (hs ▸ h)
  generalize hAe : gF T H = A at hS hTA hA ⊢
  have hg_lo8 := hg.2.2.2.2.2.2.2.2.1.2.2.2.2.2.2.2.2.1
  have hg_hi8 := hg.2.2.2.2.2.2.2.2.1.2.2.2.2.2.2.2.2.2
  have hg_lo9 := hg.2.2.2.2.2.2.2.2.2.1.2.2.2.2.2.2.2.2.1
  have hg_hi9 := hg.2.2.2.2.2.2.2.2.2.1.2.2.2.2.2.2.2.2.2
  have hg_ad := hg.2.2.2.2.2.2.2.2.2.2.2.2.2.2.2.2.1
  refine lv_aload_n hx hb dX4_paid_0 rfl (lv_at hl 0 rfl) ?_
  refine lv_iload_n hx hb dX4_paid_1 rfl (lv_at hl 1 rfl) ?_
  refine lv_iload_n hx hb dX4_paid_2 rfl (lv_at hl 2 rfl) ?_
  refine lv_iload_n hx hb dX4_paid_3 rfl (lv_at hl 3 rfl) ?_
  refine g_cp (g_rV (As := [.int q, .int i, .int k]) hC hP (c_X4_isPlace l hP (g := g) (q := q) (i := i) (k := k) (by first | assumption | omega)) hg.1 rfl ⟨q1_150, q1_147, q1_149, qs_1, q1_1⟩ dd_X4_isPlace ⟨Nat.le_of_ble_eq_true rfl, Nat.le_of_ble_eq_true rfl, rfl, rfl⟩ hl.1 rfl (Nat.le_of_ble_eq_true rfl) dX4_paid_4 ⟨Nat.le_of_ble_eq_true rfl, Nat.le_of_ble_eq_true rfl⟩) ?_
  refine W.eq (g2 := F0 m 7 ls [.int (gb (isW q && (inR i mr && inR k md)))]) rfl ?_
  refine lv_if_ne (tgt := 16) hx hb dX4_paid_7 (by decide) (fun c7 => ?_) (fun c7 => ?_)
  · have c7 := gb_t c7
    have c7b := c7
    simp only [Bool.and_eq_true] at c7
    obtain ⟨c7w, c7i, c7k⟩ := c7
    obtain ⟨a, ha, rfl⟩ := inR_nI (by omega) c7i
    obtain ⟨b, hb2, rfl⟩ := inR_nI (by omega) c7k
    rcases isW_c c7w with rfl | rfl
    · refine lv_iload_n hx hb dX4_paid_16 rfl (lv_at hl 1 rfl) ?_
      refine lv_if_ne (tgt := 32) hx hb dX4_paid_17 (by decide) (fun q => absurd (by decide) q) (fun _ => ?_)
      refine lv_aload_n hx hb dX4_paid_20 rfl (lv_at hl 0 rfl) ?_
      refine g_get hC hP hg.1 rfl inX4 0 (by decide) q1_115 hg.2.1 dX4_paid_21 ?_
      refine lv_iload_n hx hb dX4_paid_24 rfl (lv_at hl 2 rfl) ?_
      refine lv_iload_n hx hb dX4_paid_25 rfl (lv_at hl 3 rfl) ?_
      refine g_cp (g_rV (As := [.int (nI a), .int (nI b)]) hC hP (c_X3_payFor l hP (b := r) (ch := mr) (i := a) (k := b) (by first | exact hg.2.2.2.2.2.2.2.2.1 | exact hg.2.2.2.2.2.2.2.2.2.1) (by first | assumption | omega) (by first | assumption | omega)) hg.2.2.2.2.2.2.2.2.1.1 rfl ⟨q1_170, q1_167, q1_168, q1_169, q1_2⟩ dd_X3_payFor ⟨Nat.le_of_ble_eq_true rfl, Nat.le_of_ble_eq_true rfl, rfl, rfl⟩ hl.1 rfl (Nat.le_of_ble_eq_true rfl) dX4_paid_26 ⟨Nat.le_of_ble_eq_true rfl, Nat.le_of_ble_eq_true rfl⟩) ?_
      refine W.eq (g2 := F0 m 29 ls [.int (I (r + 9) (a * 4 + b))]) rfl ?_
      refine lv_goto (tgt := 41) hx hb dX4_paid_29 (by decide) ?_
      refine g_retci hC hS ?_ dX4_paid_41
      exact Or.inr ⟨a, b, ha, hb2, rfl, rfl, Or.inl ⟨rfl, rfl, gt_same hg hck hP⟩⟩
    · refine lv_iload_n hx hb dX4_paid_16 rfl (lv_at hl 1 rfl) ?_
      refine lv_if_ne (tgt := 32) hx hb dX4_paid_17 (by decide) (fun _ => ?_) (fun q => absurd q (by decide))
      refine lv_aload_n hx hb dX4_paid_32 rfl (lv_at hl 0 rfl) ?_
      refine g_get hC hP hg.1 rfl inX4 1 (by decide) q1_116 hg.2.2.1 dX4_paid_33 ?_
      refine lv_iload_n hx hb dX4_paid_36 rfl (lv_at hl 3 rfl) ?_
      refine lv_iload_n hx hb dX4_paid_37 rfl (lv_at hl 2 rfl) ?_
      refine g_cp (g_rV (As := [.int (nI b), .int (nI a)]) hC hP (c_X3_payFor l hP (b := d) (ch := md) (i := b) (k := a) (by first | exact hg.2.2.2.2.2.2.2.2.1 | exact hg.2.2.2.2.2.2.2.2.2.1) (by first | assumption | omega) (by first | assumption | omega)) hg.2.2.2.2.2.2.2.2.2.1.1 rfl ⟨q1_170, q1_167, q1_168, q1_169, q1_2⟩ dd_X3_payFor ⟨Nat.le_of_ble_eq_true rfl, Nat.le_of_ble_eq_true rfl, rfl, rfl⟩ hl.1 rfl (Nat.le_of_ble_eq_true rfl) dX4_paid_38 ⟨Nat.le_of_ble_eq_true rfl, Nat.le_of_ble_eq_true rfl⟩) ?_
      refine W.eq (g2 := F0 m 41 ls [.int (I (d + 9) (b * 4 + a))]) rfl ?_
      refine g_retci hC hS ?_ dX4_paid_41
      exact Or.inr ⟨a, b, ha, hb2, rfl, rfl, Or.inr ⟨rfl, rfl, gt_same hg hck hP⟩⟩
  · have c7 := gb_f c7
    refine lv_aload_n hx hb dX4_paid_10 rfl (lv_at hl 0 rfl) ?_
    refine lv_iconst (v := (-1)) hx hb dX4_paid_11 (by decide) ?_
    refine g_cc (g_rV (As := [.int (-1 : Int32)]) hC hP (c_X4_refuseAmongPays l hP (g := g) (q := (-1 : Int32)) (j := 1) (by first | assumption | omega) (by decide) (by omega)) hg.1 rfl ⟨q1_161, q1_158, q1_160, qs_2, q1_1⟩ dd_X4_refuseAmongPays ⟨Nat.le_of_ble_eq_true rfl, Nat.le_of_ble_eq_true rfl, rfl, rfl⟩ hl.1 rfl (Nat.le_of_ble_eq_true rfl) dX4_paid_12 ⟨Nat.le_of_ble_eq_true rfl, Nat.le_of_ble_eq_true rfl⟩) hS (fun q h => h.elim (hTA q) (fun z => hA q (Nat.le_trans hS.1 z))) (fun r5 H1 locs2 hq6 hS hz3 hfr4 => ?_)
    obtain ⟨rfl, hP⟩ := hq6
    obtain ⟨I7, hI7, hP⟩ : ∃ I7 : gI, I7 = au I (g + 28) 1 (I (g + 28) 1 + 1) ∧ gP G T I7 J Q O H1 := ⟨_, rfl, hP⟩
    refine W.eq (g2 := F0 m 15 ls [.int (1000000000 - (-1 : Int32))]) rfl ?_
    refine g_retci hC hS ?_ dX4_paid_15
    exact Or.inl ⟨c7, rfl, gt_ref hg hck hI7 hP⟩
set_option maxHeartbeats 4000000 in
set_option maxRecDepth 100000 in
theorem c_X4_weight (l : Launch) {G : gG} {T : gTy} {I : gI} {J : gJ} {Q : gR} {O : gO} {H : Heap} (hP : gP G T I J Q O H) {g r d mr md : Nat} {ck : Bool} {cr cd : CL} {Sr Sd : Nat → Prop} {q k v : Int32} (hg : isGT T J Q O g r d mr md ck cr cd Sr Sd) (hck : ckOK ck cr cd mr md (I (r + 9)) (I (d + 9))) : Met l yX4_weight (gw yX4_weight cX4_weight 4 (some (.int))) ({ frames := 1, cells := 0, slots := 0, locals := 23 } : Room) (gPc G H [.ref g, .int q, .int k, .int v]) (gQc (gF T H) (fun x H1 => rWeight (gsI I g r d mr md) (fun x1 s1 => x = some (.int x1) ∧ gtG G T H.size g s1 H1) q k v)) 0 0 (gF T H) := by
  refine g_met [(0, .ref g), (1, .int q), (2, .int k), (3, .int v)] (by decide) rfl (by exact Nat.le_of_ble_eq_true rfl) ?_
  intro p e s m below meth c hC hs ls hl
  have hx := hC.1.1
  have hb := hC.1.2.1
  have hS : va_S (gF T H) s.heap H [] := hs ▸ va_S.rf
  have hTA : ∀ q, (T q).1 ≠ 0 → gF T H q := fun q h => Or.inl h
  have hA : ∀ q, s.heap.size ≤ q → gF T H q := fun q h => Or.inr (hs ▸ h)
  generalize hAe : gF T H = A at hS hTA hA ⊢
  have hg_lo8 := hg.2.2.2.2.2.2.2.2.1.2.2.2.2.2.2.2.2.1
  have hg_hi8 := hg.2.2.2.2.2.2.2.2.1.2.2.2.2.2.2.2.2.2
  have hg_lo9 := hg.2.2.2.2.2.2.2.2.2.1.2.2.2.2.2.2.2.2.1
  have hg_hi9 := hg.2.2.2.2.2.2.2.2.2.1.2.2.2.2.2.2.2.2.2
  have hg_ad := hg.2.2.2.2.2.2.2.2.2.2.2.2.2.2.2.2.1
  refine lv_iload_n hx hb dX4_weight_0 rfl (lv_at hl 1 rfl) ?_
  refine g_cp (g_rS (As := [.int q]) hC (c_X4_isWho l (q := q)) ⟨q1_153, q1_151, q1_152, q1_1⟩ dd_X4_isWho ⟨Nat.le_of_ble_eq_true rfl, Nat.le_of_ble_eq_true rfl, rfl, rfl⟩ hl.1 rfl (Nat.le_of_ble_eq_true rfl) dX4_weight_1 ⟨Nat.le_of_ble_eq_true rfl, Nat.le_of_ble_eq_true rfl⟩) ?_
  refine W.eq (g2 := F0 m 4 ls [.int (gb (isW q))]) rfl ?_
  refine lv_if_eq (tgt := 16) hx hb dX4_weight_4 (by decide) (fun c4 => ?_) (fun c4 => ?_)
  · have c4 := gb_f c4
    refine lv_aload_n hx hb dX4_weight_16 rfl (lv_at hl 0 rfl) ?_
    refine lv_iconst (v := (-1)) hx hb dX4_weight_17 (by decide) ?_
    refine g_cc (g_rV (As := [.int (-1 : Int32)]) hC hP (c_X4_refuse l hP (g := g) (q := (-1 : Int32)) (j := 1) (by first | assumption | omega) (by decide) (by omega)) hg.1 rfl ⟨q1_138, q1_135, q1_137, qs_0, q1_1⟩ dd_X4_refuse ⟨Nat.le_of_ble_eq_true rfl, Nat.le_of_ble_eq_true rfl, rfl, rfl⟩ hl.1 rfl (Nat.le_of_ble_eq_true rfl) dX4_weight_18 ⟨Nat.le_of_ble_eq_true rfl, Nat.le_of_ble_eq_true rfl⟩) hS (fun q h => h.elim (hTA q) (fun z => hA q (Nat.le_trans hS.1 z))) (fun r5 H1 locs2 hq6 hS hz3 hfr4 => ?_)
    obtain ⟨rfl, hP⟩ := hq6
    obtain ⟨I7, hI7, hP⟩ : ∃ I7 : gI, I7 = au I (g + 28) 1 (I (g + 28) 1 + 1) ∧ gP G T I7 J Q O H1 := ⟨_, rfl, hP⟩
    refine W.eq (g2 := F0 m 21 ls [.int (-1 : Int32)]) rfl ?_
    refine g_retci hC hS ?_ dX4_weight_21
    refine Or.inl ⟨?_, rfl, gt_ref hg hck hI7 hP⟩
    unfold wtOK
    first | (rw [c4]; rfl) | (rw [inR_f1 c8, Bool.and_false]) | (rw [inR_f2 (n := 4) (Int32.not_lt.mp c13), Bool.and_false])
  · have c4 := gb_t c4
    refine lv_iload_n hx hb dX4_weight_7 rfl (lv_at hl 2 rfl) ?_
    refine lv_if_lt (tgt := 16) hx hb dX4_weight_8 (by decide) (fun c8 => ?_) (fun c8 => ?_)
    · refine lv_aload_n hx hb dX4_weight_16 rfl (lv_at hl 0 rfl) ?_
      refine lv_iconst (v := (-1)) hx hb dX4_weight_17 (by decide) ?_
      refine g_cc (g_rV (As := [.int (-1 : Int32)]) hC hP (c_X4_refuse l hP (g := g) (q := (-1 : Int32)) (j := 1) (by first | assumption | omega) (by decide) (by omega)) hg.1 rfl ⟨q1_138, q1_135, q1_137, qs_0, q1_1⟩ dd_X4_refuse ⟨Nat.le_of_ble_eq_true rfl, Nat.le_of_ble_eq_true rfl, rfl, rfl⟩ hl.1 rfl (Nat.le_of_ble_eq_true rfl) dX4_weight_18 ⟨Nat.le_of_ble_eq_true rfl, Nat.le_of_ble_eq_true rfl⟩) hS (fun q h => h.elim (hTA q) (fun z => hA q (Nat.le_trans hS.1 z))) (fun r12 H8 locs9 hq13 hS hz10 hfr11 => ?_)
      obtain ⟨rfl, hP⟩ := hq13
      obtain ⟨I14, hI14, hP⟩ : ∃ I14 : gI, I14 = au I (g + 28) 1 (I (g + 28) 1 + 1) ∧ gP G T I14 J Q O H8 := ⟨_, rfl, hP⟩
      refine W.eq (g2 := F0 m 21 ls [.int (-1 : Int32)]) rfl ?_
      refine g_retci hC hS ?_ dX4_weight_21
      refine Or.inl ⟨?_, rfl, gt_ref hg hck hI14 hP⟩
      unfold wtOK
      first | (rw [c4]; rfl) | (rw [inR_f1 c8, Bool.and_false]) | (rw [inR_f2 (n := 4) (Int32.not_lt.mp c13), Bool.and_false])
    · refine lv_iload_n hx hb dX4_weight_11 rfl (lv_at hl 2 rfl) ?_
      refine lv_iconst (v := nI 4) hx hb dX4_weight_12 (by decide) ?_
      refine lv_icmp_lt (tgt := 22) hx hb dX4_weight_13 (by decide) (fun c13 => ?_) (fun c13 => ?_)
      · refine lv_iload_n hx hb dX4_weight_22 rfl (lv_at hl 3 rfl) ?_
        refine lv_if_ge (tgt := 33) hx hb dX4_weight_23 (by decide) (fun c23 => ?_) (fun c23 => ?_)
        · refine lv_iload_n hx hb dX4_weight_33 rfl (lv_at hl 3 rfl) ?_
          refine lv_bipush (v := nI 99) hx hb dX4_weight_34 (by decide) ?_
          refine lv_icmp_le (tgt := 46) hx hb dX4_weight_36 (by decide) (fun c36 => ?_) (fun c36 => ?_)
          · have hk4 : inR k 4 = true := inR_t c8 (Int32.not_le.mpr c13)
            obtain ⟨b, hb4, rfl⟩ := inR_nI (by decide) hk4
            rcases isW_c c4 with rfl | rfl
            · refine lv_aload_n hx hb dX4_weight_46 rfl (lv_at hl 0 rfl) ?_
              refine lv_iload_n hx hb dX4_weight_47 rfl (lv_at hl 1 rfl) ?_
              refine g_cp (g_rV (As := [.int (nI 0)]) hC hP (c_X4_player l hP (g := g) (w := 0) (by first | assumption | omega) (by first | assumption | omega)) hg.1 rfl ⟨q1_166, q1_163, q1_165, qs_3, q1_1⟩ dd_X4_player ⟨Nat.le_of_ble_eq_true rfl, Nat.le_of_ble_eq_true rfl, rfl, rfl⟩ hl.1 rfl (Nat.le_of_ble_eq_true rfl) dX4_weight_48 ⟨Nat.le_of_ble_eq_true rfl, Nat.le_of_ble_eq_true rfl⟩) ?_
              refine W.eq (g2 := F0 m 51 ls [.ref r]) rfl ?_
              refine lv_iload_n hx hb dX4_weight_51 rfl (lv_at hl 2 rfl) ?_
              refine lv_iload_n hx hb dX4_weight_52 rfl (lv_at hl 3 rfl) ?_
              refine g_cc (g_rV (As := [.int (nI b), .int v]) hC hP (c_X3_changeWeight l hP (b := r) (ch := mr) (k := b) (v := v) (by first | exact hg.2.2.2.2.2.2.2.2.1 | exact hg.2.2.2.2.2.2.2.2.2.1) (by first | assumption | omega)) hg.2.2.2.2.2.2.2.2.1.1 rfl ⟨q1_186, q1_183, q1_184, q1_185, q1_2⟩ dd_X3_changeWeight ⟨Nat.le_of_ble_eq_true rfl, Nat.le_of_ble_eq_true rfl, rfl, rfl⟩ hl.1 rfl (Nat.le_of_ble_eq_true rfl) dX4_weight_53 ⟨Nat.le_of_ble_eq_true rfl, Nat.le_of_ble_eq_true rfl⟩) hS (fun q h => h.elim (hTA q) (fun z => hA q (Nat.le_trans hS.1 z))) (fun r19 H15 locs16 hq20 hS hz17 hfr18 => ?_)
              obtain ⟨rfl, hP⟩ := hq20
              obtain ⟨I21, hI21, hP⟩ : ∃ I21 : gI, I21 = au I (r + 10) b v ∧ gP G T I21 J Q O H15 := ⟨_, rfl, hP⟩
              refine W.eq (g2 := F0 m 56 ls [.int (I (r + 10) b)]) rfl ?_
              refine g_retci hC hS ?_ dX4_weight_56
              exact Or.inr (Or.inr (Or.inr ⟨b, hb4, rfl, Int32.not_lt.mpr c23, Int32.not_lt.mpr c36, Or.inl ⟨rfl, rfl, gt_w0 hg hck hI21 hP⟩⟩))
            · refine lv_aload_n hx hb dX4_weight_46 rfl (lv_at hl 0 rfl) ?_
              refine lv_iload_n hx hb dX4_weight_47 rfl (lv_at hl 1 rfl) ?_
              refine g_cp (g_rV (As := [.int (nI 1)]) hC hP (c_X4_player l hP (g := g) (w := 1) (by first | assumption | omega) (by first | assumption | omega)) hg.1 rfl ⟨q1_166, q1_163, q1_165, qs_3, q1_1⟩ dd_X4_player ⟨Nat.le_of_ble_eq_true rfl, Nat.le_of_ble_eq_true rfl, rfl, rfl⟩ hl.1 rfl (Nat.le_of_ble_eq_true rfl) dX4_weight_48 ⟨Nat.le_of_ble_eq_true rfl, Nat.le_of_ble_eq_true rfl⟩) ?_
              refine W.eq (g2 := F0 m 51 ls [.ref d]) rfl ?_
              refine lv_iload_n hx hb dX4_weight_51 rfl (lv_at hl 2 rfl) ?_
              refine lv_iload_n hx hb dX4_weight_52 rfl (lv_at hl 3 rfl) ?_
              refine g_cc (g_rV (As := [.int (nI b), .int v]) hC hP (c_X3_changeWeight l hP (b := d) (ch := md) (k := b) (v := v) (by first | exact hg.2.2.2.2.2.2.2.2.1 | exact hg.2.2.2.2.2.2.2.2.2.1) (by first | assumption | omega)) hg.2.2.2.2.2.2.2.2.2.1.1 rfl ⟨q1_186, q1_183, q1_184, q1_185, q1_2⟩ dd_X3_changeWeight ⟨Nat.le_of_ble_eq_true rfl, Nat.le_of_ble_eq_true rfl, rfl, rfl⟩ hl.1 rfl (Nat.le_of_ble_eq_true rfl) dX4_weight_53 ⟨Nat.le_of_ble_eq_true rfl, Nat.le_of_ble_eq_true rfl⟩) hS (fun q h => h.elim (hTA q) (fun z => hA q (Nat.le_trans hS.1 z))) (fun r26 H22 locs23 hq27 hS hz24 hfr25 => ?_)
              obtain ⟨rfl, hP⟩ := hq27
              obtain ⟨I28, hI28, hP⟩ : ∃ I28 : gI, I28 = au I (d + 10) b v ∧ gP G T I28 J Q O H22 := ⟨_, rfl, hP⟩
              refine W.eq (g2 := F0 m 56 ls [.int (I (d + 10) b)]) rfl ?_
              refine g_retci hC hS ?_ dX4_weight_56
              exact Or.inr (Or.inr (Or.inr ⟨b, hb4, rfl, Int32.not_lt.mpr c23, Int32.not_lt.mpr c36, Or.inr ⟨rfl, rfl, gt_w1 hg hck hI28 hP⟩⟩))
          · refine lv_aload_n hx hb dX4_weight_39 rfl (lv_at hl 0 rfl) ?_
            refine lv_bipush (v := (-6)) hx hb dX4_weight_40 (by decide) ?_
            refine g_cc (g_rV (As := [.int (-6 : Int32)]) hC hP (c_X4_refuse l hP (g := g) (q := (-6 : Int32)) (j := 6) (by first | assumption | omega) (by decide) (by omega)) hg.1 rfl ⟨q1_138, q1_135, q1_137, qs_0, q1_1⟩ dd_X4_refuse ⟨Nat.le_of_ble_eq_true rfl, Nat.le_of_ble_eq_true rfl, rfl, rfl⟩ hl.1 rfl (Nat.le_of_ble_eq_true rfl) dX4_weight_42 ⟨Nat.le_of_ble_eq_true rfl, Nat.le_of_ble_eq_true rfl⟩) hS (fun q h => h.elim (hTA q) (fun z => hA q (Nat.le_trans hS.1 z))) (fun r33 H29 locs30 hq34 hS hz31 hfr32 => ?_)
            obtain ⟨rfl, hP⟩ := hq34
            obtain ⟨I35, hI35, hP⟩ : ∃ I35 : gI, I35 = au I (g + 28) 6 (I (g + 28) 6 + 1) ∧ gP G T I35 J Q O H29 := ⟨_, rfl, hP⟩
            refine W.eq (g2 := F0 m 45 ls [.int (-6 : Int32)]) rfl ?_
            refine g_retci hC hS ?_ dX4_weight_45
            exact Or.inr (Or.inr (Or.inl ⟨(by unfold wtOK; rw [c4, inR_t c8 (Int32.not_le.mpr c13)]; rfl), Int32.not_lt.mpr c23, Int32.not_le.mp c36, rfl, gt_ref hg hck hI35 hP⟩))
        · refine lv_aload_n hx hb dX4_weight_26 rfl (lv_at hl 0 rfl) ?_
          refine lv_bipush (v := (-4)) hx hb dX4_weight_27 (by decide) ?_
          refine g_cc (g_rV (As := [.int (-4 : Int32)]) hC hP (c_X4_refuse l hP (g := g) (q := (-4 : Int32)) (j := 4) (by first | assumption | omega) (by decide) (by omega)) hg.1 rfl ⟨q1_138, q1_135, q1_137, qs_0, q1_1⟩ dd_X4_refuse ⟨Nat.le_of_ble_eq_true rfl, Nat.le_of_ble_eq_true rfl, rfl, rfl⟩ hl.1 rfl (Nat.le_of_ble_eq_true rfl) dX4_weight_29 ⟨Nat.le_of_ble_eq_true rfl, Nat.le_of_ble_eq_true rfl⟩) hS (fun q h => h.elim (hTA q) (fun z => hA q (Nat.le_trans hS.1 z))) (fun r40 H36 locs37 hq41 hS hz38 hfr39 => ?_)
          obtain ⟨rfl, hP⟩ := hq41
          obtain ⟨I42, hI42, hP⟩ : ∃ I42 : gI, I42 = au I (g + 28) 4 (I (g + 28) 4 + 1) ∧ gP G T I42 J Q O H36 := ⟨_, rfl, hP⟩
          refine W.eq (g2 := F0 m 32 ls [.int (-4 : Int32)]) rfl ?_
          refine g_retci hC hS ?_ dX4_weight_32
          exact Or.inr (Or.inl ⟨(by unfold wtOK; rw [c4, inR_t c8 (Int32.not_le.mpr c13)]; rfl), Int32.not_le.mp c23, rfl, gt_ref hg hck hI42 hP⟩)
      · refine lv_aload_n hx hb dX4_weight_16 rfl (lv_at hl 0 rfl) ?_
        refine lv_iconst (v := (-1)) hx hb dX4_weight_17 (by decide) ?_
        refine g_cc (g_rV (As := [.int (-1 : Int32)]) hC hP (c_X4_refuse l hP (g := g) (q := (-1 : Int32)) (j := 1) (by first | assumption | omega) (by decide) (by omega)) hg.1 rfl ⟨q1_138, q1_135, q1_137, qs_0, q1_1⟩ dd_X4_refuse ⟨Nat.le_of_ble_eq_true rfl, Nat.le_of_ble_eq_true rfl, rfl, rfl⟩ hl.1 rfl (Nat.le_of_ble_eq_true rfl) dX4_weight_18 ⟨Nat.le_of_ble_eq_true rfl, Nat.le_of_ble_eq_true rfl⟩) hS (fun q h => h.elim (hTA q) (fun z => hA q (Nat.le_trans hS.1 z))) (fun r47 H43 locs44 hq48 hS hz45 hfr46 => ?_)
        obtain ⟨rfl, hP⟩ := hq48
        obtain ⟨I49, hI49, hP⟩ : ∃ I49 : gI, I49 = au I (g + 28) 1 (I (g + 28) 1 + 1) ∧ gP G T I49 J Q O H43 := ⟨_, rfl, hP⟩
        refine W.eq (g2 := F0 m 21 ls [.int (-1 : Int32)]) rfl ?_
        refine g_retci hC hS ?_ dX4_weight_21
        refine Or.inl ⟨?_, rfl, gt_ref hg hck hI49 hP⟩
        unfold wtOK
        first | (rw [c4]; rfl) | (rw [inR_f1 c8, Bool.and_false]) | (rw [inR_f2 (n := 4) (Int32.not_lt.mp c13), Bool.and_false])
set_option maxHeartbeats 4000000 in
set_option maxRecDepth 100000 in
theorem c_X4_sure (l : Launch) {G : gG} {T : gTy} {I : gI} {J : gJ} {Q : gR} {O : gO} {H : Heap} (hP : gP G T I J Q O H) {g r d mr md : Nat} {ck : Bool} {cr cd : CL} {Sr Sd : Nat → Prop} {q : Int32} (hg : isGT T J Q O g r d mr md ck cr cd Sr Sd) (hck : ckOK ck cr cd mr md (I (r + 9)) (I (d + 9))) : Met l yX4_sure (gw yX4_sure cX4_sure 2 (some (.int))) ({ frames := 3, cells := 0, slots := 0, locals := 71 } : Room) (gPc G H [.ref g, .int q]) (gQc (gF T H) (fun x H1 => rSure (gsI I g r d mr md) (fun x1 s1 => x = some (.int x1) ∧ gtG G T H.size g s1 H1) q)) 0 0 (gF T H) := by
  refine g_met [(0, .ref g), (1, .int q)] (by decide) rfl (by exact Nat.le_of_ble_eq_true rfl) ?_
  intro p e s m below meth c hC hs ls hl
  have hx := hC.1.1
  have hb := hC.1.2.1
  have hS : va_S (gF T H) s.heap H [] := hs ▸ va_S.rf
  have hTA : ∀ q, (T q).1 ≠ 0 → gF T H q := fun q h => Or.inl h
  have hA : ∀ q, s.heap.size ≤ q → gF T H q := fun q h => Or.inr (hs ▸ h)
  generalize hAe : gF T H = A at hS hTA hA ⊢
  have hg_lo8 := hg.2.2.2.2.2.2.2.2.1.2.2.2.2.2.2.2.2.1
  have hg_hi8 := hg.2.2.2.2.2.2.2.2.1.2.2.2.2.2.2.2.2.2
  have hg_lo9 := hg.2.2.2.2.2.2.2.2.2.1.2.2.2.2.2.2.2.2.1
  have hg_hi9 := hg.2.2.2.2.2.2.2.2.2.1.2.2.2.2.2.2.2.2.2
  have hg_ad := hg.2.2.2.2.2.2.2.2.2.2.2.2.2.2.2.2.1
  refine lv_iload_n hx hb dX4_sure_0 rfl (lv_at hl 1 rfl) ?_
  refine g_cp (g_rS (As := [.int q]) hC (c_X4_isWho l (q := q)) ⟨q1_153, q1_151, q1_152, q1_1⟩ dd_X4_isWho ⟨Nat.le_of_ble_eq_true rfl, Nat.le_of_ble_eq_true rfl, rfl, rfl⟩ hl.1 rfl (Nat.le_of_ble_eq_true rfl) dX4_sure_1 ⟨Nat.le_of_ble_eq_true rfl, Nat.le_of_ble_eq_true rfl⟩) ?_
  refine W.eq (g2 := F0 m 4 ls [.int (gb (isW q))]) rfl ?_
  refine lv_if_ne (tgt := 13) hx hb dX4_sure_4 (by decide) (fun c4 => ?_) (fun c4 => ?_)
  · have c4 := gb_t c4
    rcases isW_c c4 with rfl | rfl
    · refine lv_aload_n hx hb dX4_sure_13 rfl (lv_at hl 0 rfl) ?_
      refine lv_iload_n hx hb dX4_sure_14 rfl (lv_at hl 1 rfl) ?_
      refine g_cp (g_rV (As := [.int (nI 0)]) hC hP (c_X4_player l hP (g := g) (w := 0) (by first | assumption | omega) (by first | assumption | omega)) hg.1 rfl ⟨q1_166, q1_163, q1_165, qs_3, q1_1⟩ dd_X4_player ⟨Nat.le_of_ble_eq_true rfl, Nat.le_of_ble_eq_true rfl, rfl, rfl⟩ hl.1 rfl (Nat.le_of_ble_eq_true rfl) dX4_sure_15 ⟨Nat.le_of_ble_eq_true rfl, Nat.le_of_ble_eq_true rfl⟩) ?_
      refine W.eq (g2 := F0 m 18 ls [.ref r]) rfl ?_
      refine lv_aload_n hx hb dX4_sure_18 rfl (lv_at hl 0 rfl) ?_
      refine lv_iconst (v := nI 1) hx hb dX4_sure_19 (by decide) ?_
      refine lv_iload_n hx hb dX4_sure_20 rfl (lv_at hl 1 rfl) ?_
      refine lv_isub hx hb dX4_sure_21 ?_
      refine g_topi (y := nI 1) (by decide) ?_
      refine g_cp (g_rV (As := [.int (nI 1)]) hC hP (c_X4_player l hP (g := g) (w := 1) (by first | assumption | omega) (by first | assumption | omega)) hg.1 rfl ⟨q1_166, q1_163, q1_165, qs_3, q1_1⟩ dd_X4_player ⟨Nat.le_of_ble_eq_true rfl, Nat.le_of_ble_eq_true rfl, rfl, rfl⟩ hl.1 rfl (Nat.le_of_ble_eq_true rfl) dX4_sure_22 ⟨Nat.le_of_ble_eq_true rfl, Nat.le_of_ble_eq_true rfl⟩) ?_
      refine W.eq (g2 := F0 m 25 ls [.ref d, .ref r]) rfl ?_
      refine g_get hC hP hg.2.2.2.2.2.2.2.2.2.1.1 rfl inX3 0 (by decide) q1_78 hg.2.2.2.2.2.2.2.2.2.1.2.1 dX4_sure_25 ?_
      refine g_cp (g_rV (As := [.int (nI md)]) hC hP (c_X3_surePay l hP (b := r) (ch := mr) (nn := md) (by first | exact hg.2.2.2.2.2.2.2.2.1 | exact hg.2.2.2.2.2.2.2.2.2.1) (by omega)) hg.2.2.2.2.2.2.2.2.1.1 rfl ⟨q2_54, q2_51, q2_52, q2_53, q1_2⟩ dd_X3_surePay ⟨Nat.le_of_ble_eq_true rfl, Nat.le_of_ble_eq_true rfl, rfl, rfl⟩ hl.1 rfl (Nat.le_of_ble_eq_true rfl) dX4_sure_28 ⟨Nat.le_of_ble_eq_true rfl, Nat.le_of_ble_eq_true rfl⟩) ?_
      refine W.eq (g2 := F0 m 31 ls [.int (sureP (I (r + 9)) mr md)]) rfl ?_
      refine g_retci hC hS ?_ dX4_sure_31
      exact Or.inr (Or.inl ⟨rfl, rfl, gt_same hg hck hP⟩)
    · refine lv_aload_n hx hb dX4_sure_13 rfl (lv_at hl 0 rfl) ?_
      refine lv_iload_n hx hb dX4_sure_14 rfl (lv_at hl 1 rfl) ?_
      refine g_cp (g_rV (As := [.int (nI 1)]) hC hP (c_X4_player l hP (g := g) (w := 1) (by first | assumption | omega) (by first | assumption | omega)) hg.1 rfl ⟨q1_166, q1_163, q1_165, qs_3, q1_1⟩ dd_X4_player ⟨Nat.le_of_ble_eq_true rfl, Nat.le_of_ble_eq_true rfl, rfl, rfl⟩ hl.1 rfl (Nat.le_of_ble_eq_true rfl) dX4_sure_15 ⟨Nat.le_of_ble_eq_true rfl, Nat.le_of_ble_eq_true rfl⟩) ?_
      refine W.eq (g2 := F0 m 18 ls [.ref d]) rfl ?_
      refine lv_aload_n hx hb dX4_sure_18 rfl (lv_at hl 0 rfl) ?_
      refine lv_iconst (v := nI 1) hx hb dX4_sure_19 (by decide) ?_
      refine lv_iload_n hx hb dX4_sure_20 rfl (lv_at hl 1 rfl) ?_
      refine lv_isub hx hb dX4_sure_21 ?_
      refine g_topi (y := nI 0) (by decide) ?_
      refine g_cp (g_rV (As := [.int (nI 0)]) hC hP (c_X4_player l hP (g := g) (w := 0) (by first | assumption | omega) (by first | assumption | omega)) hg.1 rfl ⟨q1_166, q1_163, q1_165, qs_3, q1_1⟩ dd_X4_player ⟨Nat.le_of_ble_eq_true rfl, Nat.le_of_ble_eq_true rfl, rfl, rfl⟩ hl.1 rfl (Nat.le_of_ble_eq_true rfl) dX4_sure_22 ⟨Nat.le_of_ble_eq_true rfl, Nat.le_of_ble_eq_true rfl⟩) ?_
      refine W.eq (g2 := F0 m 25 ls [.ref r, .ref d]) rfl ?_
      refine g_get hC hP hg.2.2.2.2.2.2.2.2.1.1 rfl inX3 0 (by decide) q1_78 hg.2.2.2.2.2.2.2.2.1.2.1 dX4_sure_25 ?_
      refine g_cp (g_rV (As := [.int (nI mr)]) hC hP (c_X3_surePay l hP (b := d) (ch := md) (nn := mr) (by first | exact hg.2.2.2.2.2.2.2.2.1 | exact hg.2.2.2.2.2.2.2.2.2.1) (by omega)) hg.2.2.2.2.2.2.2.2.2.1.1 rfl ⟨q2_54, q2_51, q2_52, q2_53, q1_2⟩ dd_X3_surePay ⟨Nat.le_of_ble_eq_true rfl, Nat.le_of_ble_eq_true rfl, rfl, rfl⟩ hl.1 rfl (Nat.le_of_ble_eq_true rfl) dX4_sure_28 ⟨Nat.le_of_ble_eq_true rfl, Nat.le_of_ble_eq_true rfl⟩) ?_
      refine W.eq (g2 := F0 m 31 ls [.int (sureP (I (d + 9)) md mr)]) rfl ?_
      refine g_retci hC hS ?_ dX4_sure_31
      exact Or.inr (Or.inr ⟨rfl, rfl, gt_same hg hck hP⟩)
  · have c4 := gb_f c4
    refine lv_aload_n hx hb dX4_sure_7 rfl (lv_at hl 0 rfl) ?_
    refine lv_iconst (v := (-1)) hx hb dX4_sure_8 (by decide) ?_
    refine g_cc (g_rV (As := [.int (-1 : Int32)]) hC hP (c_X4_refuseAmongPays l hP (g := g) (q := (-1 : Int32)) (j := 1) (by first | assumption | omega) (by decide) (by omega)) hg.1 rfl ⟨q1_161, q1_158, q1_160, qs_2, q1_1⟩ dd_X4_refuseAmongPays ⟨Nat.le_of_ble_eq_true rfl, Nat.le_of_ble_eq_true rfl, rfl, rfl⟩ hl.1 rfl (Nat.le_of_ble_eq_true rfl) dX4_sure_9 ⟨Nat.le_of_ble_eq_true rfl, Nat.le_of_ble_eq_true rfl⟩) hS (fun q h => h.elim (hTA q) (fun z => hA q (Nat.le_trans hS.1 z))) (fun r5 H1 locs2 hq6 hS hz3 hfr4 => ?_)
    obtain ⟨rfl, hP⟩ := hq6
    obtain ⟨I7, hI7, hP⟩ : ∃ I7 : gI, I7 = au I (g + 28) 1 (I (g + 28) 1 + 1) ∧ gP G T I7 J Q O H1 := ⟨_, rfl, hP⟩
    refine W.eq (g2 := F0 m 12 ls [.int (1000000000 - (-1 : Int32))]) rfl ?_
    refine g_retci hC hS ?_ dX4_sure_12
    exact Or.inl ⟨c4, rfl, gt_ref hg hck hI7 hP⟩
set_option maxHeartbeats 4000000 in
set_option maxRecDepth 100000 in
theorem c_X4_hold (l : Launch) {G : gG} {T : gTy} {I : gI} {J : gJ} {Q : gR} {O : gO} {H : Heap} (hP : gP G T I J Q O H) {g r d mr md : Nat} {ck : Bool} {cr cd : CL} {Sr Sd : Nat → Prop} {q : Int32} (hg : isGT T J Q O g r d mr md ck cr cd Sr Sd) (hck : ckOK ck cr cd mr md (I (r + 9)) (I (d + 9))) : Met l yX4_hold (gw yX4_hold cX4_hold 2 (some (.int))) ({ frames := 3, cells := 0, slots := 0, locals := 70 } : Room) (gPc G H [.ref g, .int q]) (gQc (gF T H) (fun x H1 => rHold (gsI I g r d mr md) (fun x1 s1 => x = some (.int x1) ∧ gtG G T H.size g s1 H1) q)) 0 0 (gF T H) := by
  refine g_met [(0, .ref g), (1, .int q)] (by decide) rfl (by exact Nat.le_of_ble_eq_true rfl) ?_
  intro p e s m below meth c hC hs ls hl
  have hx := hC.1.1
  have hb := hC.1.2.1
  have hS : va_S (gF T H) s.heap H [] := hs ▸ va_S.rf
  have hTA : ∀ q, (T q).1 ≠ 0 → gF T H q := fun q h => Or.inl h
  have hA : ∀ q, s.heap.size ≤ q → gF T H q := fun q h => Or.inr (hs ▸ h)
  generalize hAe : gF T H = A at hS hTA hA ⊢
  have hg_lo8 := hg.2.2.2.2.2.2.2.2.1.2.2.2.2.2.2.2.2.1
  have hg_hi8 := hg.2.2.2.2.2.2.2.2.1.2.2.2.2.2.2.2.2.2
  have hg_lo9 := hg.2.2.2.2.2.2.2.2.2.1.2.2.2.2.2.2.2.2.1
  have hg_hi9 := hg.2.2.2.2.2.2.2.2.2.1.2.2.2.2.2.2.2.2.2
  have hg_ad := hg.2.2.2.2.2.2.2.2.2.2.2.2.2.2.2.2.1
  refine lv_iload_n hx hb dX4_hold_0 rfl (lv_at hl 1 rfl) ?_
  refine g_cp (g_rS (As := [.int q]) hC (c_X4_isWho l (q := q)) ⟨q1_153, q1_151, q1_152, q1_1⟩ dd_X4_isWho ⟨Nat.le_of_ble_eq_true rfl, Nat.le_of_ble_eq_true rfl, rfl, rfl⟩ hl.1 rfl (Nat.le_of_ble_eq_true rfl) dX4_hold_1 ⟨Nat.le_of_ble_eq_true rfl, Nat.le_of_ble_eq_true rfl⟩) ?_
  refine W.eq (g2 := F0 m 4 ls [.int (gb (isW q))]) rfl ?_
  refine lv_if_ne (tgt := 13) hx hb dX4_hold_4 (by decide) (fun c4 => ?_) (fun c4 => ?_)
  · have c4 := gb_t c4
    rcases isW_c c4 with rfl | rfl
    · refine lv_aload_n hx hb dX4_hold_13 rfl (lv_at hl 0 rfl) ?_
      refine lv_iload_n hx hb dX4_hold_14 rfl (lv_at hl 1 rfl) ?_
      refine g_cp (g_rV (As := [.int (nI 0)]) hC hP (c_X4_player l hP (g := g) (w := 0) (by first | assumption | omega) (by first | assumption | omega)) hg.1 rfl ⟨q1_166, q1_163, q1_165, qs_3, q1_1⟩ dd_X4_player ⟨Nat.le_of_ble_eq_true rfl, Nat.le_of_ble_eq_true rfl, rfl, rfl⟩ hl.1 rfl (Nat.le_of_ble_eq_true rfl) dX4_hold_15 ⟨Nat.le_of_ble_eq_true rfl, Nat.le_of_ble_eq_true rfl⟩) ?_
      refine W.eq (g2 := F0 m 18 ls [.ref r]) rfl ?_
      refine lv_aload_n hx hb dX4_hold_18 rfl (lv_at hl 0 rfl) ?_
      refine lv_iconst (v := nI 1) hx hb dX4_hold_19 (by decide) ?_
      refine lv_iload_n hx hb dX4_hold_20 rfl (lv_at hl 1 rfl) ?_
      refine lv_isub hx hb dX4_hold_21 ?_
      refine g_topi (y := nI 1) (by decide) ?_
      refine g_cp (g_rV (As := [.int (nI 1)]) hC hP (c_X4_player l hP (g := g) (w := 1) (by first | assumption | omega) (by first | assumption | omega)) hg.1 rfl ⟨q1_166, q1_163, q1_165, qs_3, q1_1⟩ dd_X4_player ⟨Nat.le_of_ble_eq_true rfl, Nat.le_of_ble_eq_true rfl, rfl, rfl⟩ hl.1 rfl (Nat.le_of_ble_eq_true rfl) dX4_hold_22 ⟨Nat.le_of_ble_eq_true rfl, Nat.le_of_ble_eq_true rfl⟩) ?_
      refine W.eq (g2 := F0 m 25 ls [.ref d, .ref r]) rfl ?_
      refine g_get hC hP hg.2.2.2.2.2.2.2.2.2.1.1 rfl inX3 0 (by decide) q1_78 hg.2.2.2.2.2.2.2.2.2.1.2.1 dX4_hold_25 ?_
      refine g_cp (g_rV (As := [.int (nI md)]) hC hP (c_X3_holdPay l hP (b := r) (ch := mr) (nn := md) (by first | exact hg.2.2.2.2.2.2.2.2.1 | exact hg.2.2.2.2.2.2.2.2.2.1) (by omega)) hg.2.2.2.2.2.2.2.2.1.1 rfl ⟨q2_72, q2_69, q2_70, q2_71, q1_2⟩ dd_X3_holdPay ⟨Nat.le_of_ble_eq_true rfl, Nat.le_of_ble_eq_true rfl, rfl, rfl⟩ hl.1 rfl (Nat.le_of_ble_eq_true rfl) dX4_hold_28 ⟨Nat.le_of_ble_eq_true rfl, Nat.le_of_ble_eq_true rfl⟩) ?_
      refine W.eq (g2 := F0 m 31 ls [.int (holdP (I (r + 9)) mr md)]) rfl ?_
      refine g_retci hC hS ?_ dX4_hold_31
      exact Or.inr (Or.inl ⟨rfl, rfl, gt_same hg hck hP⟩)
    · refine lv_aload_n hx hb dX4_hold_13 rfl (lv_at hl 0 rfl) ?_
      refine lv_iload_n hx hb dX4_hold_14 rfl (lv_at hl 1 rfl) ?_
      refine g_cp (g_rV (As := [.int (nI 1)]) hC hP (c_X4_player l hP (g := g) (w := 1) (by first | assumption | omega) (by first | assumption | omega)) hg.1 rfl ⟨q1_166, q1_163, q1_165, qs_3, q1_1⟩ dd_X4_player ⟨Nat.le_of_ble_eq_true rfl, Nat.le_of_ble_eq_true rfl, rfl, rfl⟩ hl.1 rfl (Nat.le_of_ble_eq_true rfl) dX4_hold_15 ⟨Nat.le_of_ble_eq_true rfl, Nat.le_of_ble_eq_true rfl⟩) ?_
      refine W.eq (g2 := F0 m 18 ls [.ref d]) rfl ?_
      refine lv_aload_n hx hb dX4_hold_18 rfl (lv_at hl 0 rfl) ?_
      refine lv_iconst (v := nI 1) hx hb dX4_hold_19 (by decide) ?_
      refine lv_iload_n hx hb dX4_hold_20 rfl (lv_at hl 1 rfl) ?_
      refine lv_isub hx hb dX4_hold_21 ?_
      refine g_topi (y := nI 0) (by decide) ?_
      refine g_cp (g_rV (As := [.int (nI 0)]) hC hP (c_X4_player l hP (g := g) (w := 0) (by first | assumption | omega) (by first | assumption | omega)) hg.1 rfl ⟨q1_166, q1_163, q1_165, qs_3, q1_1⟩ dd_X4_player ⟨Nat.le_of_ble_eq_true rfl, Nat.le_of_ble_eq_true rfl, rfl, rfl⟩ hl.1 rfl (Nat.le_of_ble_eq_true rfl) dX4_hold_22 ⟨Nat.le_of_ble_eq_true rfl, Nat.le_of_ble_eq_true rfl⟩) ?_
      refine W.eq (g2 := F0 m 25 ls [.ref r, .ref d]) rfl ?_
      refine g_get hC hP hg.2.2.2.2.2.2.2.2.1.1 rfl inX3 0 (by decide) q1_78 hg.2.2.2.2.2.2.2.2.1.2.1 dX4_hold_25 ?_
      refine g_cp (g_rV (As := [.int (nI mr)]) hC hP (c_X3_holdPay l hP (b := d) (ch := md) (nn := mr) (by first | exact hg.2.2.2.2.2.2.2.2.1 | exact hg.2.2.2.2.2.2.2.2.2.1) (by omega)) hg.2.2.2.2.2.2.2.2.2.1.1 rfl ⟨q2_72, q2_69, q2_70, q2_71, q1_2⟩ dd_X3_holdPay ⟨Nat.le_of_ble_eq_true rfl, Nat.le_of_ble_eq_true rfl, rfl, rfl⟩ hl.1 rfl (Nat.le_of_ble_eq_true rfl) dX4_hold_28 ⟨Nat.le_of_ble_eq_true rfl, Nat.le_of_ble_eq_true rfl⟩) ?_
      refine W.eq (g2 := F0 m 31 ls [.int (holdP (I (d + 9)) md mr)]) rfl ?_
      refine g_retci hC hS ?_ dX4_hold_31
      exact Or.inr (Or.inr ⟨rfl, rfl, gt_same hg hck hP⟩)
  · have c4 := gb_f c4
    refine lv_aload_n hx hb dX4_hold_7 rfl (lv_at hl 0 rfl) ?_
    refine lv_iconst (v := (-1)) hx hb dX4_hold_8 (by decide) ?_
    refine g_cc (g_rV (As := [.int (-1 : Int32)]) hC hP (c_X4_refuseAmongPays l hP (g := g) (q := (-1 : Int32)) (j := 1) (by first | assumption | omega) (by decide) (by omega)) hg.1 rfl ⟨q1_161, q1_158, q1_160, qs_2, q1_1⟩ dd_X4_refuseAmongPays ⟨Nat.le_of_ble_eq_true rfl, Nat.le_of_ble_eq_true rfl, rfl, rfl⟩ hl.1 rfl (Nat.le_of_ble_eq_true rfl) dX4_hold_9 ⟨Nat.le_of_ble_eq_true rfl, Nat.le_of_ble_eq_true rfl⟩) hS (fun q h => h.elim (hTA q) (fun z => hA q (Nat.le_trans hS.1 z))) (fun r5 H1 locs2 hq6 hS hz3 hfr4 => ?_)
    obtain ⟨rfl, hP⟩ := hq6
    obtain ⟨I7, hI7, hP⟩ : ∃ I7 : gI, I7 = au I (g + 28) 1 (I (g + 28) 1 + 1) ∧ gP G T I7 J Q O H1 := ⟨_, rfl, hP⟩
    refine W.eq (g2 := F0 m 12 ls [.int (1000000000 - (-1 : Int32))]) rfl ?_
    refine g_retci hC hS ?_ dX4_hold_12
    exact Or.inl ⟨c4, rfl, gt_ref hg hck hI7 hP⟩
set_option maxHeartbeats 4000000 in
set_option maxRecDepth 100000 in
theorem c_X4_worse (l : Launch) {G : gG} {T : gTy} {I : gI} {J : gJ} {Q : gR} {O : gO} {H : Heap} (hP : gP G T I J Q O H) {g r d mr md : Nat} {ck : Bool} {cr cd : CL} {Sr Sd : Nat → Prop} {q k : Int32} (hg : isGT T J Q O g r d mr md ck cr cd Sr Sd) (hck : ckOK ck cr cd mr md (I (r + 9)) (I (d + 9))) : Met l yX4_worse (gw yX4_worse cX4_worse 3 (some (.int))) ({ frames := 3, cells := 0, slots := 0, locals := 70 } : Room) (gPc G H [.ref g, .int q, .int k]) (gQc (gF T H) (fun x H1 => rWorse (gsI I g r d mr md) (fun x1 s1 => x = some (.int x1) ∧ gtG G T H.size g s1 H1) q k)) 0 0 (gF T H) := by
  refine g_met [(0, .ref g), (1, .int q), (2, .int k)] (by decide) rfl (by exact Nat.le_of_ble_eq_true rfl) ?_
  intro p e s m below meth c hC hs ls hl
  have hx := hC.1.1
  have hb := hC.1.2.1
  have hS : va_S (gF T H) s.heap H [] := hs ▸ va_S.rf
  have hTA : ∀ q, (T q).1 ≠ 0 → gF T H q := fun q h => Or.inl h
  have hA : ∀ q, s.heap.size ≤ q → gF T H q := fun q h => Or.inr (hs ▸ h)
  generalize hAe : gF T H = A at hS hTA hA ⊢
  have hg_lo8 := hg.2.2.2.2.2.2.2.2.1.2.2.2.2.2.2.2.2.1
  have hg_hi8 := hg.2.2.2.2.2.2.2.2.1.2.2.2.2.2.2.2.2.2
  have hg_lo9 := hg.2.2.2.2.2.2.2.2.2.1.2.2.2.2.2.2.2.2.1
  have hg_hi9 := hg.2.2.2.2.2.2.2.2.2.1.2.2.2.2.2.2.2.2.2
  have hg_ad := hg.2.2.2.2.2.2.2.2.2.2.2.2.2.2.2.2.1
  refine lv_iload_n hx hb dX4_worse_0 rfl (lv_at hl 1 rfl) ?_
  refine g_cp (g_rS (As := [.int q]) hC (c_X4_isWho l (q := q)) ⟨q1_153, q1_151, q1_152, q1_1⟩ dd_X4_isWho ⟨Nat.le_of_ble_eq_true rfl, Nat.le_of_ble_eq_true rfl, rfl, rfl⟩ hl.1 rfl (Nat.le_of_ble_eq_true rfl) dX4_worse_1 ⟨Nat.le_of_ble_eq_true rfl, Nat.le_of_ble_eq_true rfl⟩) ?_
  refine W.eq (g2 := F0 m 4 ls [.int (gb (isW q))]) rfl ?_
  refine lv_if_eq (tgt := 19) hx hb dX4_worse_4 (by decide) (fun c4 => ?_) (fun c4 => ?_)
  · have c4 := gb_f c4
    refine lv_aload_n hx hb dX4_worse_19 rfl (lv_at hl 0 rfl) ?_
    refine lv_iconst (v := (-1)) hx hb dX4_worse_20 (by decide) ?_
    refine g_cc (g_rV (As := [.int (-1 : Int32)]) hC hP (c_X4_refuse l hP (g := g) (q := (-1 : Int32)) (j := 1) (by first | assumption | omega) (by decide) (by omega)) hg.1 rfl ⟨q1_138, q1_135, q1_137, qs_0, q1_1⟩ dd_X4_refuse ⟨Nat.le_of_ble_eq_true rfl, Nat.le_of_ble_eq_true rfl, rfl, rfl⟩ hl.1 rfl (Nat.le_of_ble_eq_true rfl) dX4_worse_21 ⟨Nat.le_of_ble_eq_true rfl, Nat.le_of_ble_eq_true rfl⟩) hS (fun q h => h.elim (hTA q) (fun z => hA q (Nat.le_trans hS.1 z))) (fun r5 H1 locs2 hq6 hS hz3 hfr4 => ?_)
    obtain ⟨rfl, hP⟩ := hq6
    obtain ⟨I7, hI7, hP⟩ : ∃ I7 : gI, I7 = au I (g + 28) 1 (I (g + 28) 1 + 1) ∧ gP G T I7 J Q O H1 := ⟨_, rfl, hP⟩
    refine W.eq (g2 := F0 m 24 ls [.int (-1 : Int32)]) rfl ?_
    refine g_retci hC hS ?_ dX4_worse_24
    exact Or.inl ⟨Or.inl c4, rfl, gt_ref hg hck hI7 hP⟩
  · have c4 := gb_t c4
    rcases isW_c c4 with rfl | rfl
    · refine lv_aload_n hx hb dX4_worse_7 rfl (lv_at hl 0 rfl) ?_
      refine lv_iload_n hx hb dX4_worse_8 rfl (lv_at hl 1 rfl) ?_
      refine g_cp (g_rV (As := [.int (nI 0)]) hC hP (c_X4_player l hP (g := g) (w := 0) (by first | assumption | omega) (by first | assumption | omega)) hg.1 rfl ⟨q1_166, q1_163, q1_165, qs_3, q1_1⟩ dd_X4_player ⟨Nat.le_of_ble_eq_true rfl, Nat.le_of_ble_eq_true rfl, rfl, rfl⟩ hl.1 rfl (Nat.le_of_ble_eq_true rfl) dX4_worse_9 ⟨Nat.le_of_ble_eq_true rfl, Nat.le_of_ble_eq_true rfl⟩) ?_
      refine W.eq (g2 := F0 m 12 ls [.ref r]) rfl ?_
      refine lv_iload_n hx hb dX4_worse_12 rfl (lv_at hl 2 rfl) ?_
      refine g_cp (g_rV (As := [.int k]) hC hP (c_X3_hasChoice l hP (b := r) (ch := mr) (q := k) (by first | exact hg.2.2.2.2.2.2.2.2.1 | exact hg.2.2.2.2.2.2.2.2.2.1)) hg.2.2.2.2.2.2.2.2.1.1 rfl ⟨q1_157, q1_154, q1_155, q1_156, q1_2⟩ dd_X3_hasChoice ⟨Nat.le_of_ble_eq_true rfl, Nat.le_of_ble_eq_true rfl, rfl, rfl⟩ hl.1 rfl (Nat.le_of_ble_eq_true rfl) dX4_worse_13 ⟨Nat.le_of_ble_eq_true rfl, Nat.le_of_ble_eq_true rfl⟩) ?_
      refine W.eq (g2 := F0 m 16 ls [.int (gb (inR k mr))]) rfl ?_
      refine lv_if_ne (tgt := 25) hx hb dX4_worse_16 (by decide) (fun c16 => ?_) (fun c16 => ?_)
      · have c16 := gb_t c16
        obtain ⟨b, hbq, rfl⟩ := inR_nI (by omega) c16
        have hp8 := pow1_lt hg_hi8
        have hp9 := pow1_lt hg_hi9
        refine lv_aload_n hx hb dX4_worse_25 rfl (lv_at hl 0 rfl) ?_
        refine lv_iload_n hx hb dX4_worse_26 rfl (lv_at hl 1 rfl) ?_
        refine g_cp (g_rV (As := [.int (nI 0)]) hC hP (c_X4_player l hP (g := g) (w := 0) (by first | assumption | omega) (by first | assumption | omega)) hg.1 rfl ⟨q1_166, q1_163, q1_165, qs_3, q1_1⟩ dd_X4_player ⟨Nat.le_of_ble_eq_true rfl, Nat.le_of_ble_eq_true rfl, rfl, rfl⟩ hl.1 rfl (Nat.le_of_ble_eq_true rfl) dX4_worse_27 ⟨Nat.le_of_ble_eq_true rfl, Nat.le_of_ble_eq_true rfl⟩) ?_
        refine W.eq (g2 := F0 m 30 ls [.ref r]) rfl ?_
        refine lv_iload_n hx hb dX4_worse_30 rfl (lv_at hl 2 rfl) ?_
        refine lv_aload_n hx hb dX4_worse_31 rfl (lv_at hl 0 rfl) ?_
        refine lv_iload_n hx hb dX4_worse_32 rfl (lv_at hl 1 rfl) ?_
        refine g_cp (g_rV (As := [.int (nI 0)]) hC hP (c_X4_player l hP (g := g) (w := 0) (by first | assumption | omega) (by first | assumption | omega)) hg.1 rfl ⟨q1_166, q1_163, q1_165, qs_3, q1_1⟩ dd_X4_player ⟨Nat.le_of_ble_eq_true rfl, Nat.le_of_ble_eq_true rfl, rfl, rfl⟩ hl.1 rfl (Nat.le_of_ble_eq_true rfl) dX4_worse_33 ⟨Nat.le_of_ble_eq_true rfl, Nat.le_of_ble_eq_true rfl⟩) ?_
        refine W.eq (g2 := F0 m 36 ls [.ref r, .int (nI b), .ref r]) rfl ?_
        refine g_cp (g_rV (As := []) hC hP (c_X3_allBits l hP (b := r) (ch := mr) (by first | exact hg.2.2.2.2.2.2.2.2.1 | exact hg.2.2.2.2.2.2.2.2.2.1)) hg.2.2.2.2.2.2.2.2.1.1 rfl ⟨q2_19, q2_16, q2_17, q2_18, q1_2⟩ dd_X3_allBits ⟨Nat.le_of_ble_eq_true rfl, Nat.le_of_ble_eq_true rfl, rfl, rfl⟩ hl.1 rfl (Nat.le_of_ble_eq_true rfl) dX4_worse_36 ⟨Nat.le_of_ble_eq_true rfl, Nat.le_of_ble_eq_true rfl⟩) ?_
        refine W.eq (g2 := F0 m 39 ls [.int (nI (2 ^ mr - 1)), .int (nI b), .ref r]) rfl ?_
        refine lv_aload_n hx hb dX4_worse_39 rfl (lv_at hl 0 rfl) ?_
        refine lv_iconst (v := nI 1) hx hb dX4_worse_40 (by decide) ?_
        refine lv_iload_n hx hb dX4_worse_41 rfl (lv_at hl 1 rfl) ?_
        refine lv_isub hx hb dX4_worse_42 ?_
        refine g_topi (y := nI 1) (by decide) ?_
        refine g_cp (g_rV (As := [.int (nI 1)]) hC hP (c_X4_player l hP (g := g) (w := 1) (by first | assumption | omega) (by first | assumption | omega)) hg.1 rfl ⟨q1_166, q1_163, q1_165, qs_3, q1_1⟩ dd_X4_player ⟨Nat.le_of_ble_eq_true rfl, Nat.le_of_ble_eq_true rfl, rfl, rfl⟩ hl.1 rfl (Nat.le_of_ble_eq_true rfl) dX4_worse_43 ⟨Nat.le_of_ble_eq_true rfl, Nat.le_of_ble_eq_true rfl⟩) ?_
        refine W.eq (g2 := F0 m 46 ls [.ref d, .int (nI (2 ^ mr - 1)), .int (nI b), .ref r]) rfl ?_
        refine g_cp (g_rV (As := []) hC hP (c_X3_allBits l hP (b := d) (ch := md) (by first | exact hg.2.2.2.2.2.2.2.2.1 | exact hg.2.2.2.2.2.2.2.2.2.1)) hg.2.2.2.2.2.2.2.2.2.1.1 rfl ⟨q2_19, q2_16, q2_17, q2_18, q1_2⟩ dd_X3_allBits ⟨Nat.le_of_ble_eq_true rfl, Nat.le_of_ble_eq_true rfl, rfl, rfl⟩ hl.1 rfl (Nat.le_of_ble_eq_true rfl) dX4_worse_46 ⟨Nat.le_of_ble_eq_true rfl, Nat.le_of_ble_eq_true rfl⟩) ?_
        refine W.eq (g2 := F0 m 49 ls [.int (nI (2 ^ md - 1)), .int (nI (2 ^ mr - 1)), .int (nI b), .ref r]) rfl ?_
        refine g_cp (g_rV (As := [.int (nI b), .int (nI (2 ^ mr - 1)), .int (nI (2 ^ md - 1))]) hC hP (c_X3_firstBetter l hP (b := r) (ch := mr) (q := b) (A := 2 ^ mr - 1) (B := 2 ^ md - 1) (by first | exact hg.2.2.2.2.2.2.2.2.1 | exact hg.2.2.2.2.2.2.2.2.2.1) (by first | assumption | omega) (by first | assumption | omega) (by first | assumption | omega)) hg.2.2.2.2.2.2.2.2.1.1 rfl ⟨q2_23, q2_20, q2_21, q2_22, q1_2⟩ dd_X3_firstBetter ⟨Nat.le_of_ble_eq_true rfl, Nat.le_of_ble_eq_true rfl, rfl, rfl⟩ hl.1 rfl (Nat.le_of_ble_eq_true rfl) dX4_worse_49 ⟨Nat.le_of_ble_eq_true rfl, Nat.le_of_ble_eq_true rfl⟩) ?_
        refine W.eq (g2 := F0 m 52 ls [.int (oI (fBet (I (r + 9)) b (2 ^ mr - 1) (2 ^ md - 1)))]) rfl ?_
        refine g_retci hC hS ?_ dX4_worse_52
        exact Or.inr ⟨b, rfl, Or.inl ⟨rfl, hbq, rfl, gt_same hg hck hP⟩⟩
      · have c16 := gb_f c16
        refine lv_aload_n hx hb dX4_worse_19 rfl (lv_at hl 0 rfl) ?_
        refine lv_iconst (v := (-1)) hx hb dX4_worse_20 (by decide) ?_
        refine g_cc (g_rV (As := [.int (-1 : Int32)]) hC hP (c_X4_refuse l hP (g := g) (q := (-1 : Int32)) (j := 1) (by first | assumption | omega) (by decide) (by omega)) hg.1 rfl ⟨q1_138, q1_135, q1_137, qs_0, q1_1⟩ dd_X4_refuse ⟨Nat.le_of_ble_eq_true rfl, Nat.le_of_ble_eq_true rfl, rfl, rfl⟩ hl.1 rfl (Nat.le_of_ble_eq_true rfl) dX4_worse_21 ⟨Nat.le_of_ble_eq_true rfl, Nat.le_of_ble_eq_true rfl⟩) hS (fun q h => h.elim (hTA q) (fun z => hA q (Nat.le_trans hS.1 z))) (fun r12 H8 locs9 hq13 hS hz10 hfr11 => ?_)
        obtain ⟨rfl, hP⟩ := hq13
        obtain ⟨I14, hI14, hP⟩ : ∃ I14 : gI, I14 = au I (g + 28) 1 (I (g + 28) 1 + 1) ∧ gP G T I14 J Q O H8 := ⟨_, rfl, hP⟩
        refine W.eq (g2 := F0 m 24 ls [.int (-1 : Int32)]) rfl ?_
        refine g_retci hC hS ?_ dX4_worse_24
        exact Or.inl ⟨Or.inr (Or.inl ⟨rfl, c16⟩), rfl, gt_ref hg hck hI14 hP⟩
    · refine lv_aload_n hx hb dX4_worse_7 rfl (lv_at hl 0 rfl) ?_
      refine lv_iload_n hx hb dX4_worse_8 rfl (lv_at hl 1 rfl) ?_
      refine g_cp (g_rV (As := [.int (nI 1)]) hC hP (c_X4_player l hP (g := g) (w := 1) (by first | assumption | omega) (by first | assumption | omega)) hg.1 rfl ⟨q1_166, q1_163, q1_165, qs_3, q1_1⟩ dd_X4_player ⟨Nat.le_of_ble_eq_true rfl, Nat.le_of_ble_eq_true rfl, rfl, rfl⟩ hl.1 rfl (Nat.le_of_ble_eq_true rfl) dX4_worse_9 ⟨Nat.le_of_ble_eq_true rfl, Nat.le_of_ble_eq_true rfl⟩) ?_
      refine W.eq (g2 := F0 m 12 ls [.ref d]) rfl ?_
      refine lv_iload_n hx hb dX4_worse_12 rfl (lv_at hl 2 rfl) ?_
      refine g_cp (g_rV (As := [.int k]) hC hP (c_X3_hasChoice l hP (b := d) (ch := md) (q := k) (by first | exact hg.2.2.2.2.2.2.2.2.1 | exact hg.2.2.2.2.2.2.2.2.2.1)) hg.2.2.2.2.2.2.2.2.2.1.1 rfl ⟨q1_157, q1_154, q1_155, q1_156, q1_2⟩ dd_X3_hasChoice ⟨Nat.le_of_ble_eq_true rfl, Nat.le_of_ble_eq_true rfl, rfl, rfl⟩ hl.1 rfl (Nat.le_of_ble_eq_true rfl) dX4_worse_13 ⟨Nat.le_of_ble_eq_true rfl, Nat.le_of_ble_eq_true rfl⟩) ?_
      refine W.eq (g2 := F0 m 16 ls [.int (gb (inR k md))]) rfl ?_
      refine lv_if_ne (tgt := 25) hx hb dX4_worse_16 (by decide) (fun c16 => ?_) (fun c16 => ?_)
      · have c16 := gb_t c16
        obtain ⟨b, hbq, rfl⟩ := inR_nI (by omega) c16
        have hp8 := pow1_lt hg_hi8
        have hp9 := pow1_lt hg_hi9
        refine lv_aload_n hx hb dX4_worse_25 rfl (lv_at hl 0 rfl) ?_
        refine lv_iload_n hx hb dX4_worse_26 rfl (lv_at hl 1 rfl) ?_
        refine g_cp (g_rV (As := [.int (nI 1)]) hC hP (c_X4_player l hP (g := g) (w := 1) (by first | assumption | omega) (by first | assumption | omega)) hg.1 rfl ⟨q1_166, q1_163, q1_165, qs_3, q1_1⟩ dd_X4_player ⟨Nat.le_of_ble_eq_true rfl, Nat.le_of_ble_eq_true rfl, rfl, rfl⟩ hl.1 rfl (Nat.le_of_ble_eq_true rfl) dX4_worse_27 ⟨Nat.le_of_ble_eq_true rfl, Nat.le_of_ble_eq_true rfl⟩) ?_
        refine W.eq (g2 := F0 m 30 ls [.ref d]) rfl ?_
        refine lv_iload_n hx hb dX4_worse_30 rfl (lv_at hl 2 rfl) ?_
        refine lv_aload_n hx hb dX4_worse_31 rfl (lv_at hl 0 rfl) ?_
        refine lv_iload_n hx hb dX4_worse_32 rfl (lv_at hl 1 rfl) ?_
        refine g_cp (g_rV (As := [.int (nI 1)]) hC hP (c_X4_player l hP (g := g) (w := 1) (by first | assumption | omega) (by first | assumption | omega)) hg.1 rfl ⟨q1_166, q1_163, q1_165, qs_3, q1_1⟩ dd_X4_player ⟨Nat.le_of_ble_eq_true rfl, Nat.le_of_ble_eq_true rfl, rfl, rfl⟩ hl.1 rfl (Nat.le_of_ble_eq_true rfl) dX4_worse_33 ⟨Nat.le_of_ble_eq_true rfl, Nat.le_of_ble_eq_true rfl⟩) ?_
        refine W.eq (g2 := F0 m 36 ls [.ref d, .int (nI b), .ref d]) rfl ?_
        refine g_cp (g_rV (As := []) hC hP (c_X3_allBits l hP (b := d) (ch := md) (by first | exact hg.2.2.2.2.2.2.2.2.1 | exact hg.2.2.2.2.2.2.2.2.2.1)) hg.2.2.2.2.2.2.2.2.2.1.1 rfl ⟨q2_19, q2_16, q2_17, q2_18, q1_2⟩ dd_X3_allBits ⟨Nat.le_of_ble_eq_true rfl, Nat.le_of_ble_eq_true rfl, rfl, rfl⟩ hl.1 rfl (Nat.le_of_ble_eq_true rfl) dX4_worse_36 ⟨Nat.le_of_ble_eq_true rfl, Nat.le_of_ble_eq_true rfl⟩) ?_
        refine W.eq (g2 := F0 m 39 ls [.int (nI (2 ^ md - 1)), .int (nI b), .ref d]) rfl ?_
        refine lv_aload_n hx hb dX4_worse_39 rfl (lv_at hl 0 rfl) ?_
        refine lv_iconst (v := nI 1) hx hb dX4_worse_40 (by decide) ?_
        refine lv_iload_n hx hb dX4_worse_41 rfl (lv_at hl 1 rfl) ?_
        refine lv_isub hx hb dX4_worse_42 ?_
        refine g_topi (y := nI 0) (by decide) ?_
        refine g_cp (g_rV (As := [.int (nI 0)]) hC hP (c_X4_player l hP (g := g) (w := 0) (by first | assumption | omega) (by first | assumption | omega)) hg.1 rfl ⟨q1_166, q1_163, q1_165, qs_3, q1_1⟩ dd_X4_player ⟨Nat.le_of_ble_eq_true rfl, Nat.le_of_ble_eq_true rfl, rfl, rfl⟩ hl.1 rfl (Nat.le_of_ble_eq_true rfl) dX4_worse_43 ⟨Nat.le_of_ble_eq_true rfl, Nat.le_of_ble_eq_true rfl⟩) ?_
        refine W.eq (g2 := F0 m 46 ls [.ref r, .int (nI (2 ^ md - 1)), .int (nI b), .ref d]) rfl ?_
        refine g_cp (g_rV (As := []) hC hP (c_X3_allBits l hP (b := r) (ch := mr) (by first | exact hg.2.2.2.2.2.2.2.2.1 | exact hg.2.2.2.2.2.2.2.2.2.1)) hg.2.2.2.2.2.2.2.2.1.1 rfl ⟨q2_19, q2_16, q2_17, q2_18, q1_2⟩ dd_X3_allBits ⟨Nat.le_of_ble_eq_true rfl, Nat.le_of_ble_eq_true rfl, rfl, rfl⟩ hl.1 rfl (Nat.le_of_ble_eq_true rfl) dX4_worse_46 ⟨Nat.le_of_ble_eq_true rfl, Nat.le_of_ble_eq_true rfl⟩) ?_
        refine W.eq (g2 := F0 m 49 ls [.int (nI (2 ^ mr - 1)), .int (nI (2 ^ md - 1)), .int (nI b), .ref d]) rfl ?_
        refine g_cp (g_rV (As := [.int (nI b), .int (nI (2 ^ md - 1)), .int (nI (2 ^ mr - 1))]) hC hP (c_X3_firstBetter l hP (b := d) (ch := md) (q := b) (A := 2 ^ md - 1) (B := 2 ^ mr - 1) (by first | exact hg.2.2.2.2.2.2.2.2.1 | exact hg.2.2.2.2.2.2.2.2.2.1) (by first | assumption | omega) (by first | assumption | omega) (by first | assumption | omega)) hg.2.2.2.2.2.2.2.2.2.1.1 rfl ⟨q2_23, q2_20, q2_21, q2_22, q1_2⟩ dd_X3_firstBetter ⟨Nat.le_of_ble_eq_true rfl, Nat.le_of_ble_eq_true rfl, rfl, rfl⟩ hl.1 rfl (Nat.le_of_ble_eq_true rfl) dX4_worse_49 ⟨Nat.le_of_ble_eq_true rfl, Nat.le_of_ble_eq_true rfl⟩) ?_
        refine W.eq (g2 := F0 m 52 ls [.int (oI (fBet (I (d + 9)) b (2 ^ md - 1) (2 ^ mr - 1)))]) rfl ?_
        refine g_retci hC hS ?_ dX4_worse_52
        exact Or.inr ⟨b, rfl, Or.inr ⟨rfl, hbq, rfl, gt_same hg hck hP⟩⟩
      · have c16 := gb_f c16
        refine lv_aload_n hx hb dX4_worse_19 rfl (lv_at hl 0 rfl) ?_
        refine lv_iconst (v := (-1)) hx hb dX4_worse_20 (by decide) ?_
        refine g_cc (g_rV (As := [.int (-1 : Int32)]) hC hP (c_X4_refuse l hP (g := g) (q := (-1 : Int32)) (j := 1) (by first | assumption | omega) (by decide) (by omega)) hg.1 rfl ⟨q1_138, q1_135, q1_137, qs_0, q1_1⟩ dd_X4_refuse ⟨Nat.le_of_ble_eq_true rfl, Nat.le_of_ble_eq_true rfl, rfl, rfl⟩ hl.1 rfl (Nat.le_of_ble_eq_true rfl) dX4_worse_21 ⟨Nat.le_of_ble_eq_true rfl, Nat.le_of_ble_eq_true rfl⟩) hS (fun q h => h.elim (hTA q) (fun z => hA q (Nat.le_trans hS.1 z))) (fun r19 H15 locs16 hq20 hS hz17 hfr18 => ?_)
        obtain ⟨rfl, hP⟩ := hq20
        obtain ⟨I21, hI21, hP⟩ : ∃ I21 : gI, I21 = au I (g + 28) 1 (I (g + 28) 1 + 1) ∧ gP G T I21 J Q O H15 := ⟨_, rfl, hP⟩
        refine W.eq (g2 := F0 m 24 ls [.int (-1 : Int32)]) rfl ?_
        refine g_retci hC hS ?_ dX4_worse_24
        exact Or.inl ⟨Or.inr (Or.inr ⟨rfl, c16⟩), rfl, gt_ref hg hck hI21 hP⟩
set_option maxHeartbeats 4000000 in
set_option maxRecDepth 100000 in
theorem c_X4_raise (l : Launch) {G : gG} {T : gTy} {I : gI} {J : gJ} {Q : gR} {O : gO} {H : Heap} (hP : gP G T I J Q O H) {g r d mr md : Nat} {ck : Bool} {cr cd : CL} {Sr Sd : Nat → Prop} {q k v : Int32} (hg : isGT T J Q O g r d mr md ck cr cd Sr Sd) (hck : ckOK ck cr cd mr md (I (r + 9)) (I (d + 9))) : Met l yX4_raise (gw yX4_raise cX4_raise 5 (some (.int))) ({ frames := 2, cells := 0, slots := 0, locals := 47 } : Room) (gPc G H [.ref g, .int q, .int k, .int v]) (gQc (gF T H) (fun x H1 => rRaise (gsI I g r d mr md) (fun x1 s1 => x = some (.int x1) ∧ gtG G T H.size g s1 H1) q k v)) 0 0 (gF T H) := by
  refine g_met [(0, .ref g), (1, .int q), (2, .int k), (3, .int v)] (by decide) rfl (by exact Nat.le_of_ble_eq_true rfl) ?_
  intro p e s m below meth c hC hs ls hl
  have hx := hC.1.1
  have hb := hC.1.2.1
  have hS : va_S (gF T H) s.heap H [] := hs ▸ va_S.rf
  have hTA : ∀ q, (T q).1 ≠ 0 → gF T H q := fun q h => Or.inl h
  have hA : ∀ q, s.heap.size ≤ q → gF T H q := fun q h => Or.inr (hs ▸ h)
  generalize hAe : gF T H = A at hS hTA hA ⊢
  have hg_lo8 := hg.2.2.2.2.2.2.2.2.1.2.2.2.2.2.2.2.2.1
  have hg_hi8 := hg.2.2.2.2.2.2.2.2.1.2.2.2.2.2.2.2.2.2
  have hg_lo9 := hg.2.2.2.2.2.2.2.2.2.1.2.2.2.2.2.2.2.2.1
  have hg_hi9 := hg.2.2.2.2.2.2.2.2.2.1.2.2.2.2.2.2.2.2.2
  have hg_ad := hg.2.2.2.2.2.2.2.2.2.2.2.2.2.2.2.2.1
  refine lv_iload_n hx hb dX4_raise_0 rfl (lv_at hl 1 rfl) ?_
  refine g_cp (g_rS (As := [.int q]) hC (c_X4_isWho l (q := q)) ⟨q1_153, q1_151, q1_152, q1_1⟩ dd_X4_isWho ⟨Nat.le_of_ble_eq_true rfl, Nat.le_of_ble_eq_true rfl, rfl, rfl⟩ hl.1 rfl (Nat.le_of_ble_eq_true rfl) dX4_raise_1 ⟨Nat.le_of_ble_eq_true rfl, Nat.le_of_ble_eq_true rfl⟩) ?_
  refine W.eq (g2 := F0 m 4 ls [.int (gb (isW q))]) rfl ?_
  refine lv_if_eq (tgt := 21) hx hb dX4_raise_4 (by decide) (fun c4 => ?_) (fun c4 => ?_)
  · have c4 := gb_f c4
    refine lv_aload_n hx hb dX4_raise_21 rfl (lv_at hl 0 rfl) ?_
    refine lv_iconst (v := (-1)) hx hb dX4_raise_22 (by decide) ?_
    refine g_cc (g_rV (As := [.int (-1 : Int32)]) hC hP (c_X4_refuse l hP (g := g) (q := (-1 : Int32)) (j := 1) (by first | assumption | omega) (by decide) (by omega)) hg.1 rfl ⟨q1_138, q1_135, q1_137, qs_0, q1_1⟩ dd_X4_refuse ⟨Nat.le_of_ble_eq_true rfl, Nat.le_of_ble_eq_true rfl, rfl, rfl⟩ hl.1 rfl (Nat.le_of_ble_eq_true rfl) dX4_raise_23 ⟨Nat.le_of_ble_eq_true rfl, Nat.le_of_ble_eq_true rfl⟩) hS (fun q h => h.elim (hTA q) (fun z => hA q (Nat.le_trans hS.1 z))) (fun r5 H1 locs2 hq6 hS hz3 hfr4 => ?_)
    obtain ⟨rfl, hP⟩ := hq6
    obtain ⟨I7, hI7, hP⟩ : ∃ I7 : gI, I7 = au I (g + 28) 1 (I (g + 28) 1 + 1) ∧ gP G T I7 J Q O H1 := ⟨_, rfl, hP⟩
    refine W.eq (g2 := F0 m 26 ls [.int (-1 : Int32)]) rfl ?_
    refine g_retci hC hS ?_ dX4_raise_26
    exact Or.inl ⟨Or.inl c4, rfl, gt_ref hg hck hI7 hP⟩
  · have c4 := gb_t c4
    rcases isW_c c4 with rfl | rfl
    · refine lv_aload_n hx hb dX4_raise_7 rfl (lv_at hl 0 rfl) ?_
      refine lv_iconst (v := nI 1) hx hb dX4_raise_8 (by decide) ?_
      refine lv_iload_n hx hb dX4_raise_9 rfl (lv_at hl 1 rfl) ?_
      refine lv_isub hx hb dX4_raise_10 ?_
      refine g_topi (y := nI 1) (by decide) ?_
      refine g_cp (g_rV (As := [.int (nI 1)]) hC hP (c_X4_player l hP (g := g) (w := 1) (by first | assumption | omega) (by first | assumption | omega)) hg.1 rfl ⟨q1_166, q1_163, q1_165, qs_3, q1_1⟩ dd_X4_player ⟨Nat.le_of_ble_eq_true rfl, Nat.le_of_ble_eq_true rfl, rfl, rfl⟩ hl.1 rfl (Nat.le_of_ble_eq_true rfl) dX4_raise_11 ⟨Nat.le_of_ble_eq_true rfl, Nat.le_of_ble_eq_true rfl⟩) ?_
      refine W.eq (g2 := F0 m 14 ls [.ref d]) rfl ?_
      refine lv_iload_n hx hb dX4_raise_14 rfl (lv_at hl 2 rfl) ?_
      refine g_cp (g_rV (As := [.int k]) hC hP (c_X3_hasChoice l hP (b := d) (ch := md) (q := k) (by first | exact hg.2.2.2.2.2.2.2.2.1 | exact hg.2.2.2.2.2.2.2.2.2.1)) hg.2.2.2.2.2.2.2.2.2.1.1 rfl ⟨q1_157, q1_154, q1_155, q1_156, q1_2⟩ dd_X3_hasChoice ⟨Nat.le_of_ble_eq_true rfl, Nat.le_of_ble_eq_true rfl, rfl, rfl⟩ hl.1 rfl (Nat.le_of_ble_eq_true rfl) dX4_raise_15 ⟨Nat.le_of_ble_eq_true rfl, Nat.le_of_ble_eq_true rfl⟩) ?_
      refine W.eq (g2 := F0 m 18 ls [.int (gb (inR k md))]) rfl ?_
      refine lv_if_ne (tgt := 27) hx hb dX4_raise_18 (by decide) (fun c18 => ?_) (fun c18 => ?_)
      · have c18 := gb_t c18
        obtain ⟨b, hbq, rfl⟩ := inR_nI (by omega) c18
        refine lv_aload_n hx hb dX4_raise_27 rfl (lv_at hl 0 rfl) ?_
        refine lv_iload_n hx hb dX4_raise_28 rfl (lv_at hl 1 rfl) ?_
        refine g_cp (g_rV (As := [.int (nI 0)]) hC hP (c_X4_player l hP (g := g) (w := 0) (by first | assumption | omega) (by first | assumption | omega)) hg.1 rfl ⟨q1_166, q1_163, q1_165, qs_3, q1_1⟩ dd_X4_player ⟨Nat.le_of_ble_eq_true rfl, Nat.le_of_ble_eq_true rfl, rfl, rfl⟩ hl.1 rfl (Nat.le_of_ble_eq_true rfl) dX4_raise_29 ⟨Nat.le_of_ble_eq_true rfl, Nat.le_of_ble_eq_true rfl⟩) ?_
        refine W.eq (g2 := F0 m 32 ls [.ref r]) rfl ?_
        refine lv_astore (lv' := [(4, .ref r), (0, .ref g), (1, .int (nI 0)), (2, .int (nI b)), (3, .int v)]) hx hb dX4_raise_32 hl (by decide) rfl (fun ls hl => ?_)
        refine lv_aload hx hb dX4_raise_34 (lv_at hl 0 rfl) ?_
        refine lv_iload_n hx hb dX4_raise_36 rfl (lv_at hl 3 rfl) ?_
        refine g_cp (g_rV (As := [.int (nI b)]) hC hP (c_X3_leastAgainst l hP (b := r) (ch := mr) (k := b) (by first | exact hg.2.2.2.2.2.2.2.2.1 | exact hg.2.2.2.2.2.2.2.2.2.1) (by first | assumption | omega)) hg.2.2.2.2.2.2.2.2.1.1 rfl ⟨q2_200, q2_197, q2_198, q2_199, q1_2⟩ dd_X3_leastAgainst ⟨Nat.le_of_ble_eq_true rfl, Nat.le_of_ble_eq_true rfl, rfl, rfl⟩ hl.1 rfl (Nat.le_of_ble_eq_true rfl) dX4_raise_37 ⟨Nat.le_of_ble_eq_true rfl, Nat.le_of_ble_eq_true rfl⟩) ?_
        refine W.eq (g2 := F0 m 40 ls [.int (leastA (I (r + 9)) mr b)]) rfl ?_
        refine lv_i2l hx hb dX4_raise_40 rfl ?_
        refine lv_iload_n hx hb dX4_raise_41 rfl (lv_at hl 4 rfl) ?_
        refine lv_i2l hx hb dX4_raise_42 rfl ?_
        refine lv_ladd hx hb dX4_raise_43 ?_
        refine lv_ldc2 (v := (-20 : Int64)) hx hb hC.1.2.2.2.1 (hC.1.2.2.2.2 _ q2_201) dX4_raise_44 ?_
        refine W.lcmp hx hb dX4_raise_47 ?_
        refine lv_if_ge (tgt := 58) hx hb dX4_raise_48 (by decide) (fun c48 => ?_) (fun c48 => ?_)
        · have c48 := (lg_cmp_ge _ _).mp c48
          refine lv_aload hx hb dX4_raise_58 (lv_at hl 0 rfl) ?_
          refine lv_iload_n hx hb dX4_raise_60 rfl (lv_at hl 3 rfl) ?_
          refine g_cp (g_rV (As := [.int (nI b)]) hC hP (c_X3_mostAgainst l hP (b := r) (ch := mr) (k := b) (by first | exact hg.2.2.2.2.2.2.2.2.1 | exact hg.2.2.2.2.2.2.2.2.2.1) (by first | assumption | omega)) hg.2.2.2.2.2.2.2.2.1.1 rfl ⟨q2_76, q2_202, q2_74, q2_75, q1_2⟩ dd_X3_mostAgainst ⟨Nat.le_of_ble_eq_true rfl, Nat.le_of_ble_eq_true rfl, rfl, rfl⟩ hl.1 rfl (Nat.le_of_ble_eq_true rfl) dX4_raise_61 ⟨Nat.le_of_ble_eq_true rfl, Nat.le_of_ble_eq_true rfl⟩) ?_
          refine W.eq (g2 := F0 m 64 ls [.int (mostA (I (r + 9)) mr b)]) rfl ?_
          refine lv_i2l hx hb dX4_raise_64 rfl ?_
          refine lv_iload_n hx hb dX4_raise_65 rfl (lv_at hl 4 rfl) ?_
          refine lv_i2l hx hb dX4_raise_66 rfl ?_
          refine lv_ladd hx hb dX4_raise_67 ?_
          refine lv_ldc2 (v := (20 : Int64)) hx hb hC.1.2.2.2.1 (hC.1.2.2.2.2 _ q2_203) dX4_raise_68 ?_
          refine W.lcmp hx hb dX4_raise_71 ?_
          refine lv_if_le (tgt := 82) hx hb dX4_raise_72 (by decide) (fun c72 => ?_) (fun c72 => ?_)
          · have c72 := (lg_cmp_le _ _).mp c72
            refine lv_aload hx hb dX4_raise_82 (lv_at hl 0 rfl) ?_
            refine lv_iload_n hx hb dX4_raise_84 rfl (lv_at hl 3 rfl) ?_
            refine lv_iload_n hx hb dX4_raise_85 rfl (lv_at hl 4 rfl) ?_
            refine g_cc (g_rV (As := [.int (nI b), .int v]) hC hP (c_X3_addAgainst l hP (b := r) (ch := mr) (k := b) (v := v) (by first | exact hg.2.2.2.2.2.2.2.2.1 | exact hg.2.2.2.2.2.2.2.2.2.1) (by first | assumption | omega)) hg.2.2.2.2.2.2.2.2.1.1 rfl ⟨q2_207, q2_204, q2_205, q2_206, q1_2⟩ dd_X3_addAgainst ⟨Nat.le_of_ble_eq_true rfl, Nat.le_of_ble_eq_true rfl, rfl, rfl⟩ hl.1 rfl (Nat.le_of_ble_eq_true rfl) dX4_raise_86 ⟨Nat.le_of_ble_eq_true rfl, Nat.le_of_ble_eq_true rfl⟩) hS (fun q h => h.elim (hTA q) (fun z => hA q (Nat.le_trans hS.1 z))) (fun r12 H8 locs9 hq13 hS hz10 hfr11 => ?_)
            obtain ⟨rfl, hP⟩ := hq13
            obtain ⟨I14, hI14, hP⟩ : ∃ I14 : gI, I14 = gu I (r + 9) (addA (I (r + 9)) mr b v) ∧ gP G T I14 J Q O H8 := ⟨_, rfl, hP⟩
            refine W.eq (g2 := F0 m 89 ls []) rfl ?_
            refine lv_aload_n hx hb dX4_raise_89 rfl (lv_at hl 1 rfl) ?_
            refine lv_iconst (v := nI 0) hx hb dX4_raise_90 (by decide) ?_
            refine g_put hC hP hS hTA hg.1 rfl inX4 tyX4 tyX4_ok nmX4 4 (by decide) q1_119 rfl (ty := tyX4 4) (by decide) rfl rfl dX4_raise_91 (fun H15 locs16 hP hS hz18 => ?_)
            obtain ⟨O17, hO17, hP⟩ : ∃ X : gO, X = au O g 4 (.int (nI 0)) ∧ gP G T I14 J Q X H15 := ⟨_, rfl, hP⟩
            refine lv_iconst (v := nI 1) hx hb dX4_raise_94 (by decide) ?_
            refine g_retci hC hS ?_ dX4_raise_95
            exact Or.inr ⟨b, rfl, Or.inl ⟨rfl, hbq, Or.inr (Or.inr ⟨Int64.not_lt.mpr c48, Int64.not_lt.mpr c72, rfl, gt_pay0 hg hI14 hO17 hP⟩)⟩⟩
          · have c72 := mt (lg_cmp_le _ _).mpr c72
            refine lv_aload_n hx hb dX4_raise_75 rfl (lv_at hl 1 rfl) ?_
            refine lv_bipush (v := (-6)) hx hb dX4_raise_76 (by decide) ?_
            refine g_cc (g_rV (As := [.int (-6 : Int32)]) hC hP (c_X4_refuse l hP (g := g) (q := (-6 : Int32)) (j := 6) (by first | assumption | omega) (by decide) (by omega)) hg.1 rfl ⟨q1_138, q1_135, q1_137, qs_0, q1_1⟩ dd_X4_refuse ⟨Nat.le_of_ble_eq_true rfl, Nat.le_of_ble_eq_true rfl, rfl, rfl⟩ hl.1 rfl (Nat.le_of_ble_eq_true rfl) dX4_raise_78 ⟨Nat.le_of_ble_eq_true rfl, Nat.le_of_ble_eq_true rfl⟩) hS (fun q h => h.elim (hTA q) (fun z => hA q (Nat.le_trans hS.1 z))) (fun r23 H19 locs20 hq24 hS hz21 hfr22 => ?_)
            obtain ⟨rfl, hP⟩ := hq24
            obtain ⟨I25, hI25, hP⟩ : ∃ I25 : gI, I25 = au I (g + 28) 6 (I (g + 28) 6 + 1) ∧ gP G T I25 J Q O H19 := ⟨_, rfl, hP⟩
            refine W.eq (g2 := F0 m 81 ls [.int (-6 : Int32)]) rfl ?_
            refine g_retci hC hS ?_ dX4_raise_81
            exact Or.inr ⟨b, rfl, Or.inl ⟨rfl, hbq, Or.inr (Or.inl ⟨Int64.not_lt.mpr c48, Int64.not_le.mp c72, rfl, gt_ref hg hck hI25 hP⟩)⟩⟩
        · have c48 := mt (lg_cmp_ge _ _).mpr c48
          refine lv_aload_n hx hb dX4_raise_51 rfl (lv_at hl 1 rfl) ?_
          refine lv_bipush (v := (-4)) hx hb dX4_raise_52 (by decide) ?_
          refine g_cc (g_rV (As := [.int (-4 : Int32)]) hC hP (c_X4_refuse l hP (g := g) (q := (-4 : Int32)) (j := 4) (by first | assumption | omega) (by decide) (by omega)) hg.1 rfl ⟨q1_138, q1_135, q1_137, qs_0, q1_1⟩ dd_X4_refuse ⟨Nat.le_of_ble_eq_true rfl, Nat.le_of_ble_eq_true rfl, rfl, rfl⟩ hl.1 rfl (Nat.le_of_ble_eq_true rfl) dX4_raise_54 ⟨Nat.le_of_ble_eq_true rfl, Nat.le_of_ble_eq_true rfl⟩) hS (fun q h => h.elim (hTA q) (fun z => hA q (Nat.le_trans hS.1 z))) (fun r30 H26 locs27 hq31 hS hz28 hfr29 => ?_)
          obtain ⟨rfl, hP⟩ := hq31
          obtain ⟨I32, hI32, hP⟩ : ∃ I32 : gI, I32 = au I (g + 28) 4 (I (g + 28) 4 + 1) ∧ gP G T I32 J Q O H26 := ⟨_, rfl, hP⟩
          refine W.eq (g2 := F0 m 57 ls [.int (-4 : Int32)]) rfl ?_
          refine g_retci hC hS ?_ dX4_raise_57
          exact Or.inr ⟨b, rfl, Or.inl ⟨rfl, hbq, Or.inl ⟨Int64.not_le.mp c48, rfl, gt_ref hg hck hI32 hP⟩⟩⟩
      · have c18 := gb_f c18
        refine lv_aload_n hx hb dX4_raise_21 rfl (lv_at hl 0 rfl) ?_
        refine lv_iconst (v := (-1)) hx hb dX4_raise_22 (by decide) ?_
        refine g_cc (g_rV (As := [.int (-1 : Int32)]) hC hP (c_X4_refuse l hP (g := g) (q := (-1 : Int32)) (j := 1) (by first | assumption | omega) (by decide) (by omega)) hg.1 rfl ⟨q1_138, q1_135, q1_137, qs_0, q1_1⟩ dd_X4_refuse ⟨Nat.le_of_ble_eq_true rfl, Nat.le_of_ble_eq_true rfl, rfl, rfl⟩ hl.1 rfl (Nat.le_of_ble_eq_true rfl) dX4_raise_23 ⟨Nat.le_of_ble_eq_true rfl, Nat.le_of_ble_eq_true rfl⟩) hS (fun q h => h.elim (hTA q) (fun z => hA q (Nat.le_trans hS.1 z))) (fun r37 H33 locs34 hq38 hS hz35 hfr36 => ?_)
        obtain ⟨rfl, hP⟩ := hq38
        obtain ⟨I39, hI39, hP⟩ : ∃ I39 : gI, I39 = au I (g + 28) 1 (I (g + 28) 1 + 1) ∧ gP G T I39 J Q O H33 := ⟨_, rfl, hP⟩
        refine W.eq (g2 := F0 m 26 ls [.int (-1 : Int32)]) rfl ?_
        refine g_retci hC hS ?_ dX4_raise_26
        exact Or.inl ⟨Or.inr (Or.inl ⟨rfl, c18⟩), rfl, gt_ref hg hck hI39 hP⟩
    · refine lv_aload_n hx hb dX4_raise_7 rfl (lv_at hl 0 rfl) ?_
      refine lv_iconst (v := nI 1) hx hb dX4_raise_8 (by decide) ?_
      refine lv_iload_n hx hb dX4_raise_9 rfl (lv_at hl 1 rfl) ?_
      refine lv_isub hx hb dX4_raise_10 ?_
      refine g_topi (y := nI 0) (by decide) ?_
      refine g_cp (g_rV (As := [.int (nI 0)]) hC hP (c_X4_player l hP (g := g) (w := 0) (by first | assumption | omega) (by first | assumption | omega)) hg.1 rfl ⟨q1_166, q1_163, q1_165, qs_3, q1_1⟩ dd_X4_player ⟨Nat.le_of_ble_eq_true rfl, Nat.le_of_ble_eq_true rfl, rfl, rfl⟩ hl.1 rfl (Nat.le_of_ble_eq_true rfl) dX4_raise_11 ⟨Nat.le_of_ble_eq_true rfl, Nat.le_of_ble_eq_true rfl⟩) ?_
      refine W.eq (g2 := F0 m 14 ls [.ref r]) rfl ?_
      refine lv_iload_n hx hb dX4_raise_14 rfl (lv_at hl 2 rfl) ?_
      refine g_cp (g_rV (As := [.int k]) hC hP (c_X3_hasChoice l hP (b := r) (ch := mr) (q := k) (by first | exact hg.2.2.2.2.2.2.2.2.1 | exact hg.2.2.2.2.2.2.2.2.2.1)) hg.2.2.2.2.2.2.2.2.1.1 rfl ⟨q1_157, q1_154, q1_155, q1_156, q1_2⟩ dd_X3_hasChoice ⟨Nat.le_of_ble_eq_true rfl, Nat.le_of_ble_eq_true rfl, rfl, rfl⟩ hl.1 rfl (Nat.le_of_ble_eq_true rfl) dX4_raise_15 ⟨Nat.le_of_ble_eq_true rfl, Nat.le_of_ble_eq_true rfl⟩) ?_
      refine W.eq (g2 := F0 m 18 ls [.int (gb (inR k mr))]) rfl ?_
      refine lv_if_ne (tgt := 27) hx hb dX4_raise_18 (by decide) (fun c18 => ?_) (fun c18 => ?_)
      · have c18 := gb_t c18
        obtain ⟨b, hbq, rfl⟩ := inR_nI (by omega) c18
        refine lv_aload_n hx hb dX4_raise_27 rfl (lv_at hl 0 rfl) ?_
        refine lv_iload_n hx hb dX4_raise_28 rfl (lv_at hl 1 rfl) ?_
        refine g_cp (g_rV (As := [.int (nI 1)]) hC hP (c_X4_player l hP (g := g) (w := 1) (by first | assumption | omega) (by first | assumption | omega)) hg.1 rfl ⟨q1_166, q1_163, q1_165, qs_3, q1_1⟩ dd_X4_player ⟨Nat.le_of_ble_eq_true rfl, Nat.le_of_ble_eq_true rfl, rfl, rfl⟩ hl.1 rfl (Nat.le_of_ble_eq_true rfl) dX4_raise_29 ⟨Nat.le_of_ble_eq_true rfl, Nat.le_of_ble_eq_true rfl⟩) ?_
        refine W.eq (g2 := F0 m 32 ls [.ref d]) rfl ?_
        refine lv_astore (lv' := [(4, .ref d), (0, .ref g), (1, .int (nI 1)), (2, .int (nI b)), (3, .int v)]) hx hb dX4_raise_32 hl (by decide) rfl (fun ls hl => ?_)
        refine lv_aload hx hb dX4_raise_34 (lv_at hl 0 rfl) ?_
        refine lv_iload_n hx hb dX4_raise_36 rfl (lv_at hl 3 rfl) ?_
        refine g_cp (g_rV (As := [.int (nI b)]) hC hP (c_X3_leastAgainst l hP (b := d) (ch := md) (k := b) (by first | exact hg.2.2.2.2.2.2.2.2.1 | exact hg.2.2.2.2.2.2.2.2.2.1) (by first | assumption | omega)) hg.2.2.2.2.2.2.2.2.2.1.1 rfl ⟨q2_200, q2_197, q2_198, q2_199, q1_2⟩ dd_X3_leastAgainst ⟨Nat.le_of_ble_eq_true rfl, Nat.le_of_ble_eq_true rfl, rfl, rfl⟩ hl.1 rfl (Nat.le_of_ble_eq_true rfl) dX4_raise_37 ⟨Nat.le_of_ble_eq_true rfl, Nat.le_of_ble_eq_true rfl⟩) ?_
        refine W.eq (g2 := F0 m 40 ls [.int (leastA (I (d + 9)) md b)]) rfl ?_
        refine lv_i2l hx hb dX4_raise_40 rfl ?_
        refine lv_iload_n hx hb dX4_raise_41 rfl (lv_at hl 4 rfl) ?_
        refine lv_i2l hx hb dX4_raise_42 rfl ?_
        refine lv_ladd hx hb dX4_raise_43 ?_
        refine lv_ldc2 (v := (-20 : Int64)) hx hb hC.1.2.2.2.1 (hC.1.2.2.2.2 _ q2_201) dX4_raise_44 ?_
        refine W.lcmp hx hb dX4_raise_47 ?_
        refine lv_if_ge (tgt := 58) hx hb dX4_raise_48 (by decide) (fun c48 => ?_) (fun c48 => ?_)
        · have c48 := (lg_cmp_ge _ _).mp c48
          refine lv_aload hx hb dX4_raise_58 (lv_at hl 0 rfl) ?_
          refine lv_iload_n hx hb dX4_raise_60 rfl (lv_at hl 3 rfl) ?_
          refine g_cp (g_rV (As := [.int (nI b)]) hC hP (c_X3_mostAgainst l hP (b := d) (ch := md) (k := b) (by first | exact hg.2.2.2.2.2.2.2.2.1 | exact hg.2.2.2.2.2.2.2.2.2.1) (by first | assumption | omega)) hg.2.2.2.2.2.2.2.2.2.1.1 rfl ⟨q2_76, q2_202, q2_74, q2_75, q1_2⟩ dd_X3_mostAgainst ⟨Nat.le_of_ble_eq_true rfl, Nat.le_of_ble_eq_true rfl, rfl, rfl⟩ hl.1 rfl (Nat.le_of_ble_eq_true rfl) dX4_raise_61 ⟨Nat.le_of_ble_eq_true rfl, Nat.le_of_ble_eq_true rfl⟩) ?_
          refine W.eq (g2 := F0 m 64 ls [.int (mostA (I (d + 9)) md b)]) rfl ?_
          refine lv_i2l hx hb dX4_raise_64 rfl ?_
          refine lv_iload_n hx hb dX4_raise_65 rfl (lv_at hl 4 rfl) ?_
          refine lv_i2l hx hb dX4_raise_66 rfl ?_
          refine lv_ladd hx hb dX4_raise_67 ?_
          refine lv_ldc2 (v := (20 : Int64)) hx hb hC.1.2.2.2.1 (hC.1.2.2.2.2 _ q2_203) dX4_raise_68 ?_
          refine W.lcmp hx hb dX4_raise_71 ?_
          refine lv_if_le (tgt := 82) hx hb dX4_raise_72 (by decide) (fun c72 => ?_) (fun c72 => ?_)
          · have c72 := (lg_cmp_le _ _).mp c72
            refine lv_aload hx hb dX4_raise_82 (lv_at hl 0 rfl) ?_
            refine lv_iload_n hx hb dX4_raise_84 rfl (lv_at hl 3 rfl) ?_
            refine lv_iload_n hx hb dX4_raise_85 rfl (lv_at hl 4 rfl) ?_
            refine g_cc (g_rV (As := [.int (nI b), .int v]) hC hP (c_X3_addAgainst l hP (b := d) (ch := md) (k := b) (v := v) (by first | exact hg.2.2.2.2.2.2.2.2.1 | exact hg.2.2.2.2.2.2.2.2.2.1) (by first | assumption | omega)) hg.2.2.2.2.2.2.2.2.2.1.1 rfl ⟨q2_207, q2_204, q2_205, q2_206, q1_2⟩ dd_X3_addAgainst ⟨Nat.le_of_ble_eq_true rfl, Nat.le_of_ble_eq_true rfl, rfl, rfl⟩ hl.1 rfl (Nat.le_of_ble_eq_true rfl) dX4_raise_86 ⟨Nat.le_of_ble_eq_true rfl, Nat.le_of_ble_eq_true rfl⟩) hS (fun q h => h.elim (hTA q) (fun z => hA q (Nat.le_trans hS.1 z))) (fun r44 H40 locs41 hq45 hS hz42 hfr43 => ?_)
            obtain ⟨rfl, hP⟩ := hq45
            obtain ⟨I46, hI46, hP⟩ : ∃ I46 : gI, I46 = gu I (d + 9) (addA (I (d + 9)) md b v) ∧ gP G T I46 J Q O H40 := ⟨_, rfl, hP⟩
            refine W.eq (g2 := F0 m 89 ls []) rfl ?_
            refine lv_aload_n hx hb dX4_raise_89 rfl (lv_at hl 1 rfl) ?_
            refine lv_iconst (v := nI 0) hx hb dX4_raise_90 (by decide) ?_
            refine g_put hC hP hS hTA hg.1 rfl inX4 tyX4 tyX4_ok nmX4 4 (by decide) q1_119 rfl (ty := tyX4 4) (by decide) rfl rfl dX4_raise_91 (fun H47 locs48 hP hS hz50 => ?_)
            obtain ⟨O49, hO49, hP⟩ : ∃ X : gO, X = au O g 4 (.int (nI 0)) ∧ gP G T I46 J Q X H47 := ⟨_, rfl, hP⟩
            refine lv_iconst (v := nI 1) hx hb dX4_raise_94 (by decide) ?_
            refine g_retci hC hS ?_ dX4_raise_95
            exact Or.inr ⟨b, rfl, Or.inr ⟨rfl, hbq, Or.inr (Or.inr ⟨Int64.not_lt.mpr c48, Int64.not_lt.mpr c72, rfl, gt_pay1 hg hI46 hO49 hP⟩)⟩⟩
          · have c72 := mt (lg_cmp_le _ _).mpr c72
            refine lv_aload_n hx hb dX4_raise_75 rfl (lv_at hl 1 rfl) ?_
            refine lv_bipush (v := (-6)) hx hb dX4_raise_76 (by decide) ?_
            refine g_cc (g_rV (As := [.int (-6 : Int32)]) hC hP (c_X4_refuse l hP (g := g) (q := (-6 : Int32)) (j := 6) (by first | assumption | omega) (by decide) (by omega)) hg.1 rfl ⟨q1_138, q1_135, q1_137, qs_0, q1_1⟩ dd_X4_refuse ⟨Nat.le_of_ble_eq_true rfl, Nat.le_of_ble_eq_true rfl, rfl, rfl⟩ hl.1 rfl (Nat.le_of_ble_eq_true rfl) dX4_raise_78 ⟨Nat.le_of_ble_eq_true rfl, Nat.le_of_ble_eq_true rfl⟩) hS (fun q h => h.elim (hTA q) (fun z => hA q (Nat.le_trans hS.1 z))) (fun r55 H51 locs52 hq56 hS hz53 hfr54 => ?_)
            obtain ⟨rfl, hP⟩ := hq56
            obtain ⟨I57, hI57, hP⟩ : ∃ I57 : gI, I57 = au I (g + 28) 6 (I (g + 28) 6 + 1) ∧ gP G T I57 J Q O H51 := ⟨_, rfl, hP⟩
            refine W.eq (g2 := F0 m 81 ls [.int (-6 : Int32)]) rfl ?_
            refine g_retci hC hS ?_ dX4_raise_81
            exact Or.inr ⟨b, rfl, Or.inr ⟨rfl, hbq, Or.inr (Or.inl ⟨Int64.not_lt.mpr c48, Int64.not_le.mp c72, rfl, gt_ref hg hck hI57 hP⟩)⟩⟩
        · have c48 := mt (lg_cmp_ge _ _).mpr c48
          refine lv_aload_n hx hb dX4_raise_51 rfl (lv_at hl 1 rfl) ?_
          refine lv_bipush (v := (-4)) hx hb dX4_raise_52 (by decide) ?_
          refine g_cc (g_rV (As := [.int (-4 : Int32)]) hC hP (c_X4_refuse l hP (g := g) (q := (-4 : Int32)) (j := 4) (by first | assumption | omega) (by decide) (by omega)) hg.1 rfl ⟨q1_138, q1_135, q1_137, qs_0, q1_1⟩ dd_X4_refuse ⟨Nat.le_of_ble_eq_true rfl, Nat.le_of_ble_eq_true rfl, rfl, rfl⟩ hl.1 rfl (Nat.le_of_ble_eq_true rfl) dX4_raise_54 ⟨Nat.le_of_ble_eq_true rfl, Nat.le_of_ble_eq_true rfl⟩) hS (fun q h => h.elim (hTA q) (fun z => hA q (Nat.le_trans hS.1 z))) (fun r62 H58 locs59 hq63 hS hz60 hfr61 => ?_)
          obtain ⟨rfl, hP⟩ := hq63
          obtain ⟨I64, hI64, hP⟩ : ∃ I64 : gI, I64 = au I (g + 28) 4 (I (g + 28) 4 + 1) ∧ gP G T I64 J Q O H58 := ⟨_, rfl, hP⟩
          refine W.eq (g2 := F0 m 57 ls [.int (-4 : Int32)]) rfl ?_
          refine g_retci hC hS ?_ dX4_raise_57
          exact Or.inr ⟨b, rfl, Or.inr ⟨rfl, hbq, Or.inl ⟨Int64.not_le.mp c48, rfl, gt_ref hg hck hI64 hP⟩⟩⟩
      · have c18 := gb_f c18
        refine lv_aload_n hx hb dX4_raise_21 rfl (lv_at hl 0 rfl) ?_
        refine lv_iconst (v := (-1)) hx hb dX4_raise_22 (by decide) ?_
        refine g_cc (g_rV (As := [.int (-1 : Int32)]) hC hP (c_X4_refuse l hP (g := g) (q := (-1 : Int32)) (j := 1) (by first | assumption | omega) (by decide) (by omega)) hg.1 rfl ⟨q1_138, q1_135, q1_137, qs_0, q1_1⟩ dd_X4_refuse ⟨Nat.le_of_ble_eq_true rfl, Nat.le_of_ble_eq_true rfl, rfl, rfl⟩ hl.1 rfl (Nat.le_of_ble_eq_true rfl) dX4_raise_23 ⟨Nat.le_of_ble_eq_true rfl, Nat.le_of_ble_eq_true rfl⟩) hS (fun q h => h.elim (hTA q) (fun z => hA q (Nat.le_trans hS.1 z))) (fun r69 H65 locs66 hq70 hS hz67 hfr68 => ?_)
        obtain ⟨rfl, hP⟩ := hq70
        obtain ⟨I71, hI71, hP⟩ : ∃ I71 : gI, I71 = au I (g + 28) 1 (I (g + 28) 1 + 1) ∧ gP G T I71 J Q O H65 := ⟨_, rfl, hP⟩
        refine W.eq (g2 := F0 m 26 ls [.int (-1 : Int32)]) rfl ?_
        refine g_retci hC hS ?_ dX4_raise_26
        exact Or.inl ⟨Or.inr (Or.inr ⟨rfl, c18⟩), rfl, gt_ref hg hck hI71 hP⟩
set_option maxHeartbeats 4000000 in
set_option maxRecDepth 100000 in
theorem c_X4_scale (l : Launch) {G : gG} {T : gTy} {I : gI} {J : gJ} {Q : gR} {O : gO} {H : Heap} (hP : gP G T I J Q O H) {g r d mr md : Nat} {ck : Bool} {cr cd : CL} {Sr Sd : Nat → Prop} {q v : Int32} (hg : isGT T J Q O g r d mr md ck cr cd Sr Sd) (hck : ckOK ck cr cd mr md (I (r + 9)) (I (d + 9))) : Met l yX4_scale (gw yX4_scale cX4_scale 3 (some (.int))) ({ frames := 2, cells := 0, slots := 0, locals := 46 } : Room) (gPc G H [.ref g, .int q, .int v]) (gQc (gF T H) (fun x H1 => rScale (gsI I g r d mr md) (fun x1 s1 => x = some (.int x1) ∧ gtG G T H.size g s1 H1) q v)) 0 0 (gF T H) := by
  refine g_met [(0, .ref g), (1, .int q), (2, .int v)] (by decide) rfl (by exact Nat.le_of_ble_eq_true rfl) ?_
  intro p e s m below meth c hC hs ls hl
  have hx := hC.1.1
  have hb := hC.1.2.1
  have hS : va_S (gF T H) s.heap H [] := hs ▸ va_S.rf
  have hTA : ∀ q, (T q).1 ≠ 0 → gF T H q := fun q h => Or.inl h
  have hA : ∀ q, s.heap.size ≤ q → gF T H q := fun q h => Or.inr (hs ▸ h)
  generalize hAe : gF T H = A at hS hTA hA ⊢
  have hg_lo8 := hg.2.2.2.2.2.2.2.2.1.2.2.2.2.2.2.2.2.1
  have hg_hi8 := hg.2.2.2.2.2.2.2.2.1.2.2.2.2.2.2.2.2.2
  have hg_lo9 := hg.2.2.2.2.2.2.2.2.2.1.2.2.2.2.2.2.2.2.1
  have hg_hi9 := hg.2.2.2.2.2.2.2.2.2.1.2.2.2.2.2.2.2.2.2
  have hg_ad := hg.2.2.2.2.2.2.2.2.2.2.2.2.2.2.2.2.1
  refine lv_iload_n hx hb dX4_scale_0 rfl (lv_at hl 1 rfl) ?_
  refine g_cp (g_rS (As := [.int q]) hC (c_X4_isWho l (q := q)) ⟨q1_153, q1_151, q1_152, q1_1⟩ dd_X4_isWho ⟨Nat.le_of_ble_eq_true rfl, Nat.le_of_ble_eq_true rfl, rfl, rfl⟩ hl.1 rfl (Nat.le_of_ble_eq_true rfl) dX4_scale_1 ⟨Nat.le_of_ble_eq_true rfl, Nat.le_of_ble_eq_true rfl⟩) ?_
  refine W.eq (g2 := F0 m 4 ls [.int (gb (isW q))]) rfl ?_
  refine lv_if_ne (tgt := 13) hx hb dX4_scale_4 (by decide) (fun c4 => ?_) (fun c4 => ?_)
  · have c4 := gb_t c4
    refine lv_iload_n hx hb dX4_scale_13 rfl (lv_at hl 2 rfl) ?_
    refine lv_iconst (v := nI 1) hx hb dX4_scale_14 (by decide) ?_
    refine lv_icmp_ge (tgt := 25) hx hb dX4_scale_15 (by decide) (fun c15 => ?_) (fun c15 => ?_)
    · rcases isW_c c4 with rfl | rfl
      · refine lv_aload_n hx hb dX4_scale_25 rfl (lv_at hl 0 rfl) ?_
        refine lv_iload_n hx hb dX4_scale_26 rfl (lv_at hl 1 rfl) ?_
        refine g_cp (g_rV (As := [.int (nI 0)]) hC hP (c_X4_player l hP (g := g) (w := 0) (by first | assumption | omega) (by first | assumption | omega)) hg.1 rfl ⟨q1_166, q1_163, q1_165, qs_3, q1_1⟩ dd_X4_player ⟨Nat.le_of_ble_eq_true rfl, Nat.le_of_ble_eq_true rfl, rfl, rfl⟩ hl.1 rfl (Nat.le_of_ble_eq_true rfl) dX4_scale_27 ⟨Nat.le_of_ble_eq_true rfl, Nat.le_of_ble_eq_true rfl⟩) ?_
        refine W.eq (g2 := F0 m 30 ls [.ref r]) rfl ?_
        refine g_cp (g_rV (As := []) hC hP (c_X3_farthestPay l hP (b := r) (ch := mr) (by first | exact hg.2.2.2.2.2.2.2.2.1 | exact hg.2.2.2.2.2.2.2.2.2.1)) hg.2.2.2.2.2.2.2.2.1.1 rfl ⟨q2_216, q2_213, q2_214, q2_215, q1_2⟩ dd_X3_farthestPay ⟨Nat.le_of_ble_eq_true rfl, Nat.le_of_ble_eq_true rfl, rfl, rfl⟩ hl.1 rfl (Nat.le_of_ble_eq_true rfl) dX4_scale_30 ⟨Nat.le_of_ble_eq_true rfl, Nat.le_of_ble_eq_true rfl⟩) ?_
        refine W.eq (g2 := F0 m 33 ls [.int (farL (I (r + 9)) 16)]) rfl ?_
        refine lv_i2l hx hb dX4_scale_33 rfl ?_
        refine lv_iload_n hx hb dX4_scale_34 rfl (lv_at hl 2 rfl) ?_
        refine lv_i2l hx hb dX4_scale_35 rfl ?_
        refine lv_lmul hx hb dX4_scale_36 ?_
        refine lv_ldc2 (v := (20 : Int64)) hx hb hC.1.2.2.2.1 (hC.1.2.2.2.2 _ q2_203) dX4_scale_37 ?_
        refine W.lcmp hx hb dX4_scale_40 ?_
        refine lv_if_le (tgt := 51) hx hb dX4_scale_41 (by decide) (fun c41 => ?_) (fun c41 => ?_)
        · have c41 := (lg_cmp_le _ _).mp c41
          refine lv_aload_n hx hb dX4_scale_51 rfl (lv_at hl 0 rfl) ?_
          refine lv_iload_n hx hb dX4_scale_52 rfl (lv_at hl 1 rfl) ?_
          refine g_cp (g_rV (As := [.int (nI 0)]) hC hP (c_X4_player l hP (g := g) (w := 0) (by first | assumption | omega) (by first | assumption | omega)) hg.1 rfl ⟨q1_166, q1_163, q1_165, qs_3, q1_1⟩ dd_X4_player ⟨Nat.le_of_ble_eq_true rfl, Nat.le_of_ble_eq_true rfl, rfl, rfl⟩ hl.1 rfl (Nat.le_of_ble_eq_true rfl) dX4_scale_53 ⟨Nat.le_of_ble_eq_true rfl, Nat.le_of_ble_eq_true rfl⟩) ?_
          refine W.eq (g2 := F0 m 56 ls [.ref r]) rfl ?_
          refine lv_iload_n hx hb dX4_scale_56 rfl (lv_at hl 2 rfl) ?_
          refine g_cc (g_rV (As := [.int v]) hC hP (c_X3_multiplyPays l hP (b := r) (ch := mr) (v := v) (by first | exact hg.2.2.2.2.2.2.2.2.1 | exact hg.2.2.2.2.2.2.2.2.2.1)) hg.2.2.2.2.2.2.2.2.1.1 rfl ⟨q2_223, q2_220, q2_221, q2_222, q1_2⟩ dd_X3_multiplyPays ⟨Nat.le_of_ble_eq_true rfl, Nat.le_of_ble_eq_true rfl, rfl, rfl⟩ hl.1 rfl (Nat.le_of_ble_eq_true rfl) dX4_scale_57 ⟨Nat.le_of_ble_eq_true rfl, Nat.le_of_ble_eq_true rfl⟩) hS (fun q h => h.elim (hTA q) (fun z => hA q (Nat.le_trans hS.1 z))) (fun r5 H1 locs2 hq6 hS hz3 hfr4 => ?_)
          obtain ⟨rfl, hP⟩ := hq6
          obtain ⟨I7, hI7, hP⟩ : ∃ I7 : gI, I7 = gu I (r + 9) (mulA (I (r + 9)) 16 v) ∧ gP G T I7 J Q O H1 := ⟨_, rfl, hP⟩
          refine W.eq (g2 := F0 m 60 ls []) rfl ?_
          refine lv_aload_n hx hb dX4_scale_60 rfl (lv_at hl 0 rfl) ?_
          refine lv_iconst (v := nI 0) hx hb dX4_scale_61 (by decide) ?_
          refine g_put hC hP hS hTA hg.1 rfl inX4 tyX4 tyX4_ok nmX4 4 (by decide) q1_119 rfl (ty := tyX4 4) (by decide) rfl rfl dX4_scale_62 (fun H8 locs9 hP hS hz11 => ?_)
          obtain ⟨O10, hO10, hP⟩ : ∃ X : gO, X = au O g 4 (.int (nI 0)) ∧ gP G T I7 J Q X H8 := ⟨_, rfl, hP⟩
          refine lv_iconst (v := nI 1) hx hb dX4_scale_65 (by decide) ?_
          refine g_retci hC hS ?_ dX4_scale_66
          exact Or.inr (Or.inr ⟨c15, Or.inl ⟨rfl, Or.inr ⟨Int64.not_lt.mpr c41, rfl, gt_pay0 hg hI7 hO10 hP⟩⟩⟩)
        · have c41 := mt (lg_cmp_le _ _).mpr c41
          refine lv_aload_n hx hb dX4_scale_44 rfl (lv_at hl 0 rfl) ?_
          refine lv_bipush (v := (-6)) hx hb dX4_scale_45 (by decide) ?_
          refine g_cc (g_rV (As := [.int (-6 : Int32)]) hC hP (c_X4_refuse l hP (g := g) (q := (-6 : Int32)) (j := 6) (by first | assumption | omega) (by decide) (by omega)) hg.1 rfl ⟨q1_138, q1_135, q1_137, qs_0, q1_1⟩ dd_X4_refuse ⟨Nat.le_of_ble_eq_true rfl, Nat.le_of_ble_eq_true rfl, rfl, rfl⟩ hl.1 rfl (Nat.le_of_ble_eq_true rfl) dX4_scale_47 ⟨Nat.le_of_ble_eq_true rfl, Nat.le_of_ble_eq_true rfl⟩) hS (fun q h => h.elim (hTA q) (fun z => hA q (Nat.le_trans hS.1 z))) (fun r16 H12 locs13 hq17 hS hz14 hfr15 => ?_)
          obtain ⟨rfl, hP⟩ := hq17
          obtain ⟨I18, hI18, hP⟩ : ∃ I18 : gI, I18 = au I (g + 28) 6 (I (g + 28) 6 + 1) ∧ gP G T I18 J Q O H12 := ⟨_, rfl, hP⟩
          refine W.eq (g2 := F0 m 50 ls [.int (-6 : Int32)]) rfl ?_
          refine g_retci hC hS ?_ dX4_scale_50
          exact Or.inr (Or.inr ⟨c15, Or.inl ⟨rfl, Or.inl ⟨Int64.not_le.mp c41, rfl, gt_ref hg hck hI18 hP⟩⟩⟩)
      · refine lv_aload_n hx hb dX4_scale_25 rfl (lv_at hl 0 rfl) ?_
        refine lv_iload_n hx hb dX4_scale_26 rfl (lv_at hl 1 rfl) ?_
        refine g_cp (g_rV (As := [.int (nI 1)]) hC hP (c_X4_player l hP (g := g) (w := 1) (by first | assumption | omega) (by first | assumption | omega)) hg.1 rfl ⟨q1_166, q1_163, q1_165, qs_3, q1_1⟩ dd_X4_player ⟨Nat.le_of_ble_eq_true rfl, Nat.le_of_ble_eq_true rfl, rfl, rfl⟩ hl.1 rfl (Nat.le_of_ble_eq_true rfl) dX4_scale_27 ⟨Nat.le_of_ble_eq_true rfl, Nat.le_of_ble_eq_true rfl⟩) ?_
        refine W.eq (g2 := F0 m 30 ls [.ref d]) rfl ?_
        refine g_cp (g_rV (As := []) hC hP (c_X3_farthestPay l hP (b := d) (ch := md) (by first | exact hg.2.2.2.2.2.2.2.2.1 | exact hg.2.2.2.2.2.2.2.2.2.1)) hg.2.2.2.2.2.2.2.2.2.1.1 rfl ⟨q2_216, q2_213, q2_214, q2_215, q1_2⟩ dd_X3_farthestPay ⟨Nat.le_of_ble_eq_true rfl, Nat.le_of_ble_eq_true rfl, rfl, rfl⟩ hl.1 rfl (Nat.le_of_ble_eq_true rfl) dX4_scale_30 ⟨Nat.le_of_ble_eq_true rfl, Nat.le_of_ble_eq_true rfl⟩) ?_
        refine W.eq (g2 := F0 m 33 ls [.int (farL (I (d + 9)) 16)]) rfl ?_
        refine lv_i2l hx hb dX4_scale_33 rfl ?_
        refine lv_iload_n hx hb dX4_scale_34 rfl (lv_at hl 2 rfl) ?_
        refine lv_i2l hx hb dX4_scale_35 rfl ?_
        refine lv_lmul hx hb dX4_scale_36 ?_
        refine lv_ldc2 (v := (20 : Int64)) hx hb hC.1.2.2.2.1 (hC.1.2.2.2.2 _ q2_203) dX4_scale_37 ?_
        refine W.lcmp hx hb dX4_scale_40 ?_
        refine lv_if_le (tgt := 51) hx hb dX4_scale_41 (by decide) (fun c41 => ?_) (fun c41 => ?_)
        · have c41 := (lg_cmp_le _ _).mp c41
          refine lv_aload_n hx hb dX4_scale_51 rfl (lv_at hl 0 rfl) ?_
          refine lv_iload_n hx hb dX4_scale_52 rfl (lv_at hl 1 rfl) ?_
          refine g_cp (g_rV (As := [.int (nI 1)]) hC hP (c_X4_player l hP (g := g) (w := 1) (by first | assumption | omega) (by first | assumption | omega)) hg.1 rfl ⟨q1_166, q1_163, q1_165, qs_3, q1_1⟩ dd_X4_player ⟨Nat.le_of_ble_eq_true rfl, Nat.le_of_ble_eq_true rfl, rfl, rfl⟩ hl.1 rfl (Nat.le_of_ble_eq_true rfl) dX4_scale_53 ⟨Nat.le_of_ble_eq_true rfl, Nat.le_of_ble_eq_true rfl⟩) ?_
          refine W.eq (g2 := F0 m 56 ls [.ref d]) rfl ?_
          refine lv_iload_n hx hb dX4_scale_56 rfl (lv_at hl 2 rfl) ?_
          refine g_cc (g_rV (As := [.int v]) hC hP (c_X3_multiplyPays l hP (b := d) (ch := md) (v := v) (by first | exact hg.2.2.2.2.2.2.2.2.1 | exact hg.2.2.2.2.2.2.2.2.2.1)) hg.2.2.2.2.2.2.2.2.2.1.1 rfl ⟨q2_223, q2_220, q2_221, q2_222, q1_2⟩ dd_X3_multiplyPays ⟨Nat.le_of_ble_eq_true rfl, Nat.le_of_ble_eq_true rfl, rfl, rfl⟩ hl.1 rfl (Nat.le_of_ble_eq_true rfl) dX4_scale_57 ⟨Nat.le_of_ble_eq_true rfl, Nat.le_of_ble_eq_true rfl⟩) hS (fun q h => h.elim (hTA q) (fun z => hA q (Nat.le_trans hS.1 z))) (fun r23 H19 locs20 hq24 hS hz21 hfr22 => ?_)
          obtain ⟨rfl, hP⟩ := hq24
          obtain ⟨I25, hI25, hP⟩ : ∃ I25 : gI, I25 = gu I (d + 9) (mulA (I (d + 9)) 16 v) ∧ gP G T I25 J Q O H19 := ⟨_, rfl, hP⟩
          refine W.eq (g2 := F0 m 60 ls []) rfl ?_
          refine lv_aload_n hx hb dX4_scale_60 rfl (lv_at hl 0 rfl) ?_
          refine lv_iconst (v := nI 0) hx hb dX4_scale_61 (by decide) ?_
          refine g_put hC hP hS hTA hg.1 rfl inX4 tyX4 tyX4_ok nmX4 4 (by decide) q1_119 rfl (ty := tyX4 4) (by decide) rfl rfl dX4_scale_62 (fun H26 locs27 hP hS hz29 => ?_)
          obtain ⟨O28, hO28, hP⟩ : ∃ X : gO, X = au O g 4 (.int (nI 0)) ∧ gP G T I25 J Q X H26 := ⟨_, rfl, hP⟩
          refine lv_iconst (v := nI 1) hx hb dX4_scale_65 (by decide) ?_
          refine g_retci hC hS ?_ dX4_scale_66
          exact Or.inr (Or.inr ⟨c15, Or.inr ⟨rfl, Or.inr ⟨Int64.not_lt.mpr c41, rfl, gt_pay1 hg hI25 hO28 hP⟩⟩⟩)
        · have c41 := mt (lg_cmp_le _ _).mpr c41
          refine lv_aload_n hx hb dX4_scale_44 rfl (lv_at hl 0 rfl) ?_
          refine lv_bipush (v := (-6)) hx hb dX4_scale_45 (by decide) ?_
          refine g_cc (g_rV (As := [.int (-6 : Int32)]) hC hP (c_X4_refuse l hP (g := g) (q := (-6 : Int32)) (j := 6) (by first | assumption | omega) (by decide) (by omega)) hg.1 rfl ⟨q1_138, q1_135, q1_137, qs_0, q1_1⟩ dd_X4_refuse ⟨Nat.le_of_ble_eq_true rfl, Nat.le_of_ble_eq_true rfl, rfl, rfl⟩ hl.1 rfl (Nat.le_of_ble_eq_true rfl) dX4_scale_47 ⟨Nat.le_of_ble_eq_true rfl, Nat.le_of_ble_eq_true rfl⟩) hS (fun q h => h.elim (hTA q) (fun z => hA q (Nat.le_trans hS.1 z))) (fun r34 H30 locs31 hq35 hS hz32 hfr33 => ?_)
          obtain ⟨rfl, hP⟩ := hq35
          obtain ⟨I36, hI36, hP⟩ : ∃ I36 : gI, I36 = au I (g + 28) 6 (I (g + 28) 6 + 1) ∧ gP G T I36 J Q O H30 := ⟨_, rfl, hP⟩
          refine W.eq (g2 := F0 m 50 ls [.int (-6 : Int32)]) rfl ?_
          refine g_retci hC hS ?_ dX4_scale_50
          exact Or.inr (Or.inr ⟨c15, Or.inr ⟨rfl, Or.inl ⟨Int64.not_le.mp c41, rfl, gt_ref hg hck hI36 hP⟩⟩⟩)
    · refine lv_aload_n hx hb dX4_scale_18 rfl (lv_at hl 0 rfl) ?_
      refine lv_bipush (v := (-4)) hx hb dX4_scale_19 (by decide) ?_
      refine g_cc (g_rV (As := [.int (-4 : Int32)]) hC hP (c_X4_refuse l hP (g := g) (q := (-4 : Int32)) (j := 4) (by first | assumption | omega) (by decide) (by omega)) hg.1 rfl ⟨q1_138, q1_135, q1_137, qs_0, q1_1⟩ dd_X4_refuse ⟨Nat.le_of_ble_eq_true rfl, Nat.le_of_ble_eq_true rfl, rfl, rfl⟩ hl.1 rfl (Nat.le_of_ble_eq_true rfl) dX4_scale_21 ⟨Nat.le_of_ble_eq_true rfl, Nat.le_of_ble_eq_true rfl⟩) hS (fun q h => h.elim (hTA q) (fun z => hA q (Nat.le_trans hS.1 z))) (fun r41 H37 locs38 hq42 hS hz39 hfr40 => ?_)
      obtain ⟨rfl, hP⟩ := hq42
      obtain ⟨I43, hI43, hP⟩ : ∃ I43 : gI, I43 = au I (g + 28) 4 (I (g + 28) 4 + 1) ∧ gP G T I43 J Q O H37 := ⟨_, rfl, hP⟩
      refine W.eq (g2 := F0 m 24 ls [.int (-4 : Int32)]) rfl ?_
      refine g_retci hC hS ?_ dX4_scale_24
      exact Or.inr (Or.inl ⟨c4, c15, rfl, gt_ref hg hck hI43 hP⟩)
  · have c4 := gb_f c4
    refine lv_aload_n hx hb dX4_scale_7 rfl (lv_at hl 0 rfl) ?_
    refine lv_iconst (v := (-1)) hx hb dX4_scale_8 (by decide) ?_
    refine g_cc (g_rV (As := [.int (-1 : Int32)]) hC hP (c_X4_refuse l hP (g := g) (q := (-1 : Int32)) (j := 1) (by first | assumption | omega) (by decide) (by omega)) hg.1 rfl ⟨q1_138, q1_135, q1_137, qs_0, q1_1⟩ dd_X4_refuse ⟨Nat.le_of_ble_eq_true rfl, Nat.le_of_ble_eq_true rfl, rfl, rfl⟩ hl.1 rfl (Nat.le_of_ble_eq_true rfl) dX4_scale_9 ⟨Nat.le_of_ble_eq_true rfl, Nat.le_of_ble_eq_true rfl⟩) hS (fun q h => h.elim (hTA q) (fun z => hA q (Nat.le_trans hS.1 z))) (fun r48 H44 locs45 hq49 hS hz46 hfr47 => ?_)
    obtain ⟨rfl, hP⟩ := hq49
    obtain ⟨I50, hI50, hP⟩ : ∃ I50 : gI, I50 = au I (g + 28) 1 (I (g + 28) 1 + 1) ∧ gP G T I50 J Q O H44 := ⟨_, rfl, hP⟩
    refine W.eq (g2 := F0 m 12 ls [.int (-1 : Int32)]) rfl ?_
    refine g_retci hC hS ?_ dX4_scale_12
    exact Or.inl ⟨c4, rfl, gt_ref hg hck hI50 hP⟩
