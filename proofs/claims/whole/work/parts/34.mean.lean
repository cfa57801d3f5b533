/-! ===== mean, find ===== -/
theorem mixIs_eq {J J2 : gJ} {O O2 : gO} {a : Nat} {v : MixV} (h : mixIs J O a v) (hj : J2 (a + 1) = J (a + 1)) (ho : O2 a = O a) : mixIs J2 O2 a v := by
  unfold mixIs mxV at *
  rw [hj, ho]
  exact h
theorem fstN_congr {p q : Nat → Bool} {n : Nat} (h : ∀ j, j < n → p j = q j) : fstN p n = fstN q n := by
  unfold fstN
  have k : ∀ l : List Nat, (∀ j, j ∈ l → p j = q j) → l.find? p = l.find? q := by
    intro l
    induction l with
    | nil => intro _; rfl
    | cons a l ih =>
      intro h
      simp only [List.find?_cons]
      rw [h a (by simp), ih (fun j hj => h j (by simp [hj]))]
  exact k _ (fun j hj => h j (List.mem_range.mp hj))
set_option maxHeartbeats 4000000 in
set_option maxRecDepth 100000 in
theorem c_X4_mean (l : Launch) {G : gG} {T : gTy} {I : gI} {J : gJ} {Q : gR} {O : gO} {H : Heap} (hP : gP G T I J Q O H) {g r d mr md : Nat} {ck : Bool} {cr cd : CL} {Sr Sd : Nat → Prop} {q f : Int32} (hg : isGT T J Q O g r d mr md ck cr cd Sr Sd) (hck : ckOK ck cr cd mr md (I (r + 9)) (I (d + 9))) : Met l yX4_mean (gw yX4_mean cX4_mean 5 (some (.long))) ({ frames := 5, cells := 0, slots := 0, locals := 117 } : Room) (gPc G H [.ref g, .int q, .int f]) (gQc (gF T H) (fun x H1 => rMean (gsI I g r d mr md) (fun x1 s1 => x = some (.long x1) ∧ gtG G T H.size g s1 H1) q f)) 0 0 (gF T H) := by
  refine g_met [(0, .ref g), (1, .int q), (2, .int f)] (by decide) rfl (by exact Nat.le_of_ble_eq_true rfl) ?_
  intro p e s m below meth c hC hs ls hl
  have hx := hC.1.1
  have hb := hC.1.2.1
  have hS : va_S (gF T H) s.heap H [] := hs ▸ va_S.rf
  have hTA : ∀ q, (T q).1 ≠ 0 → gF T H q := fun q h => Or.inl h
  have hA : ∀ q, s.heap.size ≤ q → gF T H q := fun q h => Or.inr (hs ▸ h)
  generalize hAe : gF T H = A at hS hTA hA ⊢
  have hg_lo8 := hg.2.2.2.2.2.2.2.2.1.2.2.2.2.2.2.2.2.1
  have hg_hi8 := hg.2.2.2.2.2.2.2.2.1.2.2.2.2.2.2.2.2.2
  have hg_lo9 := hg.2.2.2.2.2.2.2.2.2.1.2.2.2.2.2.2.2.2.1
  have hg_hi9 := hg.2.2.2.2.2.2.2.2.2.1.2.2.2.2.2.2.2.2.2
  have hg_ad := hg.2.2.2.2.2.2.2.2.2.2.2.2.2.2.2.2.1
  obtain ⟨t0, et0⟩ : ∃ x : MixV, x = gsT0 (gsI I g r d mr md) := ⟨_, rfl⟩
  obtain ⟨t1, et1⟩ : ∃ x : MixV, x = gsT1 (gsI I g r d mr md) := ⟨_, rfl⟩
  have ok0 : vOK t0 := et0 ▸ twV_ok hg_hi9
  have ok1 : vOK t1 := et1 ▸ twV_ok hg_hi8
  have ok0a := ok0.1
  have ok0b := ok0.2
  have ok1a := ok1.1
  have ok1b := ok1.2
  refine lv_iload_n hx hb dX4_mean_0 rfl (lv_at hl 1 rfl) ?_
  refine g_cp (g_rS (As := [.int q]) hC (c_X4_isWho l (q := q)) ⟨q1_153, q1_151, q1_152, q1_1⟩ dd_X4_isWho ⟨Nat.le_of_ble_eq_true rfl, Nat.le_of_ble_eq_true rfl, rfl, rfl⟩ hl.1 rfl (Nat.le_of_ble_eq_true rfl) dX4_mean_1 ⟨Nat.le_of_ble_eq_true rfl, Nat.le_of_ble_eq_true rfl⟩) ?_
  refine W.eq (g2 := F0 m 4 ls [.int (gb (isW q))]) rfl ?_
  refine lv_if_ne (tgt := 13) hx hb dX4_mean_4 (by decide) (fun c4 => ?_) (fun c4 => ?_)
  · have c4 := gb_t c4
    refine lv_iload_n hx hb dX4_mean_13 rfl (lv_at hl 2 rfl) ?_
    refine lv_if_lt (tgt := 22) hx hb dX4_mean_14 (by decide) (fun c14 => ?_) (fun c14 => ?_)
    · refine lv_aload_n hx hb dX4_mean_22 rfl (lv_at hl 0 rfl) ?_
      refine lv_bipush (v := (-2)) hx hb dX4_mean_23 (by decide) ?_
      refine g_cc (g_rV (As := [.int (-2 : Int32)]) hC hP (c_X4_refuseAmongLongs l hP (g := g) (q := (-2 : Int32)) (j := 2) (by first | assumption | omega) (by decide) (by omega)) hg.1 rfl ⟨q1_194, q1_191, q1_193, qs_4, q1_1⟩ dd_X4_refuseAmongLongs ⟨Nat.le_of_ble_eq_true rfl, Nat.le_of_ble_eq_true rfl, rfl, rfl⟩ hl.1 rfl (Nat.le_of_ble_eq_true rfl) dX4_mean_25 ⟨Nat.le_of_ble_eq_true rfl, Nat.le_of_ble_eq_true rfl⟩) hS (fun q h => h.elim (hTA q) (fun z => hA q (Nat.le_trans hS.1 z))) (fun r5 H1 locs2 hq6 hS hz3 hfr4 => ?_)
      obtain ⟨rfl, hP⟩ := hq6
      obtain ⟨I7, hI7, hP⟩ : ∃ I7 : gI, I7 = au I (g + 28) 2 (I (g + 28) 2 + 1) ∧ gP G T I7 J Q O H1 := ⟨_, rfl, hP⟩
      refine W.eq (g2 := F0 m 28 ls [.long (4000000000000000000 - (-2 : Int32).toInt64)]) rfl ?_
      refine g_retcl hC hS ?_ dX4_mean_28
      exact Or.inr (Or.inl ⟨c4, (by first | exact Or.inl c14 | exact Or.inr (Int32.not_le.mp c19)), rfl, gt_ref hg hck hI7 hP⟩)
    · refine lv_iload_n hx hb dX4_mean_17 rfl (lv_at hl 2 rfl) ?_
      refine lv_iconst (v := nI 1) hx hb dX4_mean_18 (by decide) ?_
      refine lv_icmp_le (tgt := 29) hx hb dX4_mean_19 (by decide) (fun c19 => ?_) (fun c19 => ?_)
      · have c4k := c4
        rcases isW_c c4 with rfl | rfl
        · refine lv_aload_n hx hb dX4_mean_29 rfl (lv_at hl 0 rfl) ?_
          refine lv_iload_n hx hb dX4_mean_30 rfl (lv_at hl 1 rfl) ?_
          refine g_cc (g_rV (As := [.int (nI 0)]) hC hP (c_X4_trayOf_0 l hP (g := g) (by first | assumption | omega)) hg.1 rfl ⟨q1_199, q1_196, q1_198, qs_5, q1_1⟩ dd_X4_trayOf ⟨Nat.le_of_ble_eq_true rfl, Nat.le_of_ble_eq_true rfl, rfl, rfl⟩ hl.1 rfl (Nat.le_of_ble_eq_true rfl) dX4_mean_31 ⟨Nat.le_of_ble_eq_true rfl, Nat.le_of_ble_eq_true rfl⟩) hS (fun q h => h.elim (hTA q) (fun z => hA q (Nat.le_trans hS.1 z))) (fun r12 H8 locs9 hq13 hS hz10 hfr11 => ?_)
          obtain ⟨J14, O15, hP, hj0, ho0, hoz0, hh⟩ := hq13
          have hgt0 := isGT_tray hg (Or.inl rfl) hj0 ho0 hoz0
          rw [show twV (I (d + 9)) (I (r + 10)) mr md = t0 from et0.symm] at hh
          rcases hh with ⟨ht0, rfl⟩ | ⟨ht0, rfl, hmi0⟩
          · refine W.eq (g2 := F0 m 34 ls [.null]) rfl ?_
            refine lv_astore_nN (lv' := [(3, .null), (0, .ref g), (1, .int (nI 0)), (2, .int f)]) hx hb dX4_mean_34 rfl hl (by decide) rfl (fun ls hl => ?_)
            refine lv_aload_n hx hb dX4_mean_35 rfl (lv_at hl 1 rfl) ?_
            refine lv_iconst (v := nI 1) hx hb dX4_mean_36 (by decide) ?_
            refine lv_iload_n hx hb dX4_mean_37 rfl (lv_at hl 2 rfl) ?_
            refine lv_isub hx hb dX4_mean_38 ?_
            refine g_topi (y := nI 1) (by decide) ?_
            refine g_cc (g_rV (As := [.int (nI 1)]) hC hP (c_X4_trayOf_1 l hP (g := g) (by first | assumption | omega)) hgt0.1 rfl ⟨q1_199, q1_196, q1_198, qs_5, q1_1⟩ dd_X4_trayOf ⟨Nat.le_of_ble_eq_true rfl, Nat.le_of_ble_eq_true rfl, rfl, rfl⟩ hl.1 rfl (Nat.le_of_ble_eq_true rfl) dX4_mean_39 ⟨Nat.le_of_ble_eq_true rfl, Nat.le_of_ble_eq_true rfl⟩) hS (fun q h => h.elim (hTA q) (fun z => hA q (Nat.le_trans hS.1 z))) (fun r20 H16 locs17 hq21 hS hz18 hfr19 => ?_)
            obtain ⟨J22, O23, hP, hj1, ho1, hoz1, hh⟩ := hq21
            have hgt1 := isGT_tray hgt0 (Or.inr rfl) hj1 ho1 hoz1
            rw [show twV (I (r + 9)) (I (d + 10)) md mr = t1 from et1.symm] at hh
            rcases hh with ⟨ht1, rfl⟩ | ⟨ht1, rfl, hmi1⟩
            · refine W.eq (g2 := F0 m 42 ls [.null]) rfl ?_
              refine lv_astoreN (lv' := [(4, .null), (3, .null), (0, .ref g), (1, .int (nI 0)), (2, .int f)]) hx hb dX4_mean_42 hl (by decide) rfl (fun ls hl => ?_)
              refine lv_aload_nN hx hb dX4_mean_44 rfl (lv_at hl 1 rfl) ?_
              refine lv_ifnullN (tgt := 53) hx hb dX4_mean_45 (by decide) ?_
              refine lv_aload_n hx hb dX4_mean_53 rfl (lv_at hl 2 rfl) ?_
              refine lv_bipush (v := (-5)) hx hb dX4_mean_54 (by decide) ?_
              refine g_cc (g_rV (As := [.int (-5 : Int32)]) hC hP (c_X4_refuseAmongLongs l hP (g := g) (q := (-5 : Int32)) (j := 5) (by first | assumption | omega) (by decide) (by omega)) hgt1.1 rfl ⟨q1_194, q1_191, q1_193, qs_4, q1_1⟩ dd_X4_refuseAmongLongs ⟨Nat.le_of_ble_eq_true rfl, Nat.le_of_ble_eq_true rfl, rfl, rfl⟩ hl.1 rfl (Nat.le_of_ble_eq_true rfl) dX4_mean_56 ⟨Nat.le_of_ble_eq_true rfl, Nat.le_of_ble_eq_true rfl⟩) hS (fun q h => h.elim (hTA q) (fun z => hA q (Nat.le_trans hS.1 z))) (fun r28 H24 locs25 hq29 hS hz26 hfr27 => ?_)
              obtain ⟨rfl, hP⟩ := hq29
              obtain ⟨I30, hI30, hP⟩ : ∃ I30 : gI, I30 = au I (g + 28) 5 (I (g + 28) 5 + 1) ∧ gP G T I30 J22 Q O23 H24 := ⟨_, rfl, hP⟩
              refine W.eq (g2 := F0 m 59 ls [.long (4000000000000000000 - (-5 : Int32).toInt64)]) rfl ?_
              refine g_retcl hC hS ?_ dX4_mean_59
              exact Or.inr (Or.inr (Or.inl ⟨c14, Int32.not_lt.mpr c19, c4, (by rw [← et0, ← et1]; exact Or.inl ht0), rfl, gt_ref hgt1 hck hI30 hP⟩))
            · refine W.eq (g2 := F0 m 42 ls [.ref (d + 11)]) rfl ?_
              refine lv_astore (lv' := [(4, .ref (d + 11)), (3, .null), (0, .ref g), (1, .int (nI 0)), (2, .int f)]) hx hb dX4_mean_42 hl (by decide) rfl (fun ls hl => ?_)
              refine lv_aload_nN hx hb dX4_mean_44 rfl (lv_at hl 1 rfl) ?_
              refine lv_ifnullN (tgt := 53) hx hb dX4_mean_45 (by decide) ?_
              refine lv_aload_n hx hb dX4_mean_53 rfl (lv_at hl 2 rfl) ?_
              refine lv_bipush (v := (-5)) hx hb dX4_mean_54 (by decide) ?_
              refine g_cc (g_rV (As := [.int (-5 : Int32)]) hC hP (c_X4_refuseAmongLongs l hP (g := g) (q := (-5 : Int32)) (j := 5) (by first | assumption | omega) (by decide) (by omega)) hgt1.1 rfl ⟨q1_194, q1_191, q1_193, qs_4, q1_1⟩ dd_X4_refuseAmongLongs ⟨Nat.le_of_ble_eq_true rfl, Nat.le_of_ble_eq_true rfl, rfl, rfl⟩ hl.1 rfl (Nat.le_of_ble_eq_true rfl) dX4_mean_56 ⟨Nat.le_of_ble_eq_true rfl, Nat.le_of_ble_eq_true rfl⟩) hS (fun q h => h.elim (hTA q) (fun z => hA q (Nat.le_trans hS.1 z))) (fun r35 H31 locs32 hq36 hS hz33 hfr34 => ?_)
              obtain ⟨rfl, hP⟩ := hq36
              obtain ⟨I37, hI37, hP⟩ : ∃ I37 : gI, I37 = au I (g + 28) 5 (I (g + 28) 5 + 1) ∧ gP G T I37 J22 Q O23 H31 := ⟨_, rfl, hP⟩
              refine W.eq (g2 := F0 m 59 ls [.long (4000000000000000000 - (-5 : Int32).toInt64)]) rfl ?_
              refine g_retcl hC hS ?_ dX4_mean_59
              exact Or.inr (Or.inr (Or.inl ⟨c14, Int32.not_lt.mpr c19, c4, (by rw [← et0, ← et1]; exact Or.inl ht0), rfl, gt_ref hgt1 hck hI37 hP⟩))
          · refine W.eq (g2 := F0 m 34 ls [.ref (r + 11)]) rfl ?_
            refine lv_astore_n (lv' := [(3, .ref (r + 11)), (0, .ref g), (1, .int (nI 0)), (2, .int f)]) hx hb dX4_mean_34 rfl hl (by decide) rfl (fun ls hl => ?_)
            refine lv_aload_n hx hb dX4_mean_35 rfl (lv_at hl 1 rfl) ?_
            refine lv_iconst (v := nI 1) hx hb dX4_mean_36 (by decide) ?_
            refine lv_iload_n hx hb dX4_mean_37 rfl (lv_at hl 2 rfl) ?_
            refine lv_isub hx hb dX4_mean_38 ?_
            refine g_topi (y := nI 1) (by decide) ?_
            refine g_cc (g_rV (As := [.int (nI 1)]) hC hP (c_X4_trayOf_1 l hP (g := g) (by first | assumption | omega)) hgt0.1 rfl ⟨q1_199, q1_196, q1_198, qs_5, q1_1⟩ dd_X4_trayOf ⟨Nat.le_of_ble_eq_true rfl, Nat.le_of_ble_eq_true rfl, rfl, rfl⟩ hl.1 rfl (Nat.le_of_ble_eq_true rfl) dX4_mean_39 ⟨Nat.le_of_ble_eq_true rfl, Nat.le_of_ble_eq_true rfl⟩) hS (fun q h => h.elim (hTA q) (fun z => hA q (Nat.le_trans hS.1 z))) (fun r42 H38 locs39 hq43 hS hz40 hfr41 => ?_)
            obtain ⟨J44, O45, hP, hj1, ho1, hoz1, hh⟩ := hq43
            have hgt1 := isGT_tray hgt0 (Or.inr rfl) hj1 ho1 hoz1
            rw [show twV (I (r + 9)) (I (d + 10)) md mr = t1 from et1.symm] at hh
            replace hmi0 := mixIs_keep hmi0 (by omega) hj1 ho1
            rcases hh with ⟨ht1, rfl⟩ | ⟨ht1, rfl, hmi1⟩
            · refine W.eq (g2 := F0 m 42 ls [.null]) rfl ?_
              refine lv_astoreN (lv' := [(4, .null), (3, .ref (r + 11)), (0, .ref g), (1, .int (nI 0)), (2, .int f)]) hx hb dX4_mean_42 hl (by decide) rfl (fun ls hl => ?_)
              refine lv_aload_n hx hb dX4_mean_44 rfl (lv_at hl 1 rfl) ?_
              refine lv_ifnull hx hb dX4_mean_45 ?_
              refine lv_aloadN hx hb dX4_mean_48 (lv_at hl 0 rfl) ?_
              refine lv_ifnonnullN hx hb dX4_mean_50 ?_
              refine lv_aload_n hx hb dX4_mean_53 rfl (lv_at hl 2 rfl) ?_
              refine lv_bipush (v := (-5)) hx hb dX4_mean_54 (by decide) ?_
              refine g_cc (g_rV (As := [.int (-5 : Int32)]) hC hP (c_X4_refuseAmongLongs l hP (g := g) (q := (-5 : Int32)) (j := 5) (by first | assumption | omega) (by decide) (by omega)) hgt1.1 rfl ⟨q1_194, q1_191, q1_193, qs_4, q1_1⟩ dd_X4_refuseAmongLongs ⟨Nat.le_of_ble_eq_true rfl, Nat.le_of_ble_eq_true rfl, rfl, rfl⟩ hl.1 rfl (Nat.le_of_ble_eq_true rfl) dX4_mean_56 ⟨Nat.le_of_ble_eq_true rfl, Nat.le_of_ble_eq_true rfl⟩) hS (fun q h => h.elim (hTA q) (fun z => hA q (Nat.le_trans hS.1 z))) (fun r50 H46 locs47 hq51 hS hz48 hfr49 => ?_)
              obtain ⟨rfl, hP⟩ := hq51
              obtain ⟨I52, hI52, hP⟩ : ∃ I52 : gI, I52 = au I (g + 28) 5 (I (g + 28) 5 + 1) ∧ gP G T I52 J44 Q O45 H46 := ⟨_, rfl, hP⟩
              refine W.eq (g2 := F0 m 59 ls [.long (4000000000000000000 - (-5 : Int32).toInt64)]) rfl ?_
              refine g_retcl hC hS ?_ dX4_mean_59
              exact Or.inr (Or.inr (Or.inl ⟨c14, Int32.not_lt.mpr c19, c4, (by rw [← et0, ← et1]; exact Or.inr ht1), rfl, gt_ref hgt1 hck hI52 hP⟩))
            · refine W.eq (g2 := F0 m 42 ls [.ref (d + 11)]) rfl ?_
              refine lv_astore (lv' := [(4, .ref (d + 11)), (3, .ref (r + 11)), (0, .ref g), (1, .int (nI 0)), (2, .int f)]) hx hb dX4_mean_42 hl (by decide) rfl (fun ls hl => ?_)
              refine lv_aload_n hx hb dX4_mean_44 rfl (lv_at hl 1 rfl) ?_
              refine lv_ifnull hx hb dX4_mean_45 ?_
              refine lv_aload hx hb dX4_mean_48 (lv_at hl 0 rfl) ?_
              refine lv_ifnonnull (tgt := 60) hx hb dX4_mean_50 (by decide) ?_
              refine lv_aload_n hx hb dX4_mean_60 rfl (lv_at hl 2 rfl) ?_
              refine lv_iload_n hx hb dX4_mean_61 rfl (lv_at hl 3 rfl) ?_
              refine g_cp (g_rV (As := [.int (nI 0)]) hC hP (c_X4_player l hP (g := g) (w := 0) (by first | assumption | omega) (by first | assumption | omega)) hgt1.1 rfl ⟨q1_166, q1_163, q1_165, qs_3, q1_1⟩ dd_X4_player ⟨Nat.le_of_ble_eq_true rfl, Nat.le_of_ble_eq_true rfl, rfl, rfl⟩ hl.1 rfl (Nat.le_of_ble_eq_true rfl) dX4_mean_62 ⟨Nat.le_of_ble_eq_true rfl, Nat.le_of_ble_eq_true rfl⟩) ?_
              refine W.eq (g2 := F0 m 65 ls [.ref r]) rfl ?_
              refine lv_aload_n hx hb dX4_mean_65 rfl (lv_at hl 1 rfl) ?_
              refine lv_aload hx hb dX4_mean_66 (lv_at hl 0 rfl) ?_
              refine lv_iload_n hx hb dX4_mean_68 rfl (lv_at hl 4 rfl) ?_
              refine g_cp (g_rV (As := [.ref (r + 11), .ref (d + 11), .int f]) hC hP (c_X3_meanPart l hP (b := r) (ch := mr) (x := r + 11) (y := d + 11) (u := t0.2.2.1) (n := t0.2.2.2) (u2 := t1.2.2.1) (n2 := t1.2.2.2) (t := t0.2.1) (t2 := t1.2.1) (q := f) hgt1.2.2.2.2.2.2.2.2.1 hgt1.2.2.2.2.2.2.2.2.2.2.1 hmi0.2 hgt1.2.2.2.2.2.2.2.2.2.2.2.1 hmi1.2) hgt1.2.2.2.2.2.2.2.2.1.1 rfl ⟨q1_220, q1_217, q1_218, q1_219, q1_2⟩ dd_X3_meanPart ⟨Nat.le_of_ble_eq_true rfl, Nat.le_of_ble_eq_true rfl, rfl, rfl⟩ hl.1 rfl (Nat.le_of_ble_eq_true rfl) dX4_mean_69 ⟨Nat.le_of_ble_eq_true rfl, Nat.le_of_ble_eq_true rfl⟩) ?_
              refine W.eq (g2 := F0 m 72 ls [.long (lowS (msum (I (r + 9)) (J44 ((r + 11) + 1)) (J44 ((d + 11) + 1)) mr) (t0.2.1 * t1.2.1) f)]) rfl ?_
              refine g_retcl hC hS ?_ dX4_mean_72
              refine Or.inr (Or.inr (Or.inr ⟨c14, Int32.not_lt.mpr c19, et0 ▸ ht0, et1 ▸ ht1, Or.inl ⟨rfl, ?_, gt_same hgt1 hck hP⟩⟩))
              rw [← et0, ← et1]
              exact congrArg (fun z => some (Value.long (lowS z (t0.2.1 * t1.2.1) f))) (msum_congr hmi1.1 mr (fun q hq => hmi0.1 q (Nat.lt_of_lt_of_le hq hg_hi8)))
        · refine lv_aload_n hx hb dX4_mean_29 rfl (lv_at hl 0 rfl) ?_
          refine lv_iload_n hx hb dX4_mean_30 rfl (lv_at hl 1 rfl) ?_
          refine g_cc (g_rV (As := [.int (nI 1)]) hC hP (c_X4_trayOf_1 l hP (g := g) (by first | assumption | omega)) hg.1 rfl ⟨q1_199, q1_196, q1_198, qs_5, q1_1⟩ dd_X4_trayOf ⟨Nat.le_of_ble_eq_true rfl, Nat.le_of_ble_eq_true rfl, rfl, rfl⟩ hl.1 rfl (Nat.le_of_ble_eq_true rfl) dX4_mean_31 ⟨Nat.le_of_ble_eq_true rfl, Nat.le_of_ble_eq_true rfl⟩) hS (fun q h => h.elim (hTA q) (fun z => hA q (Nat.le_trans hS.1 z))) (fun r57 H53 locs54 hq58 hS hz55 hfr56 => ?_)
          obtain ⟨J59, O60, hP, hj0, ho0, hoz0, hh⟩ := hq58
          have hgt0 := isGT_tray hg (Or.inr rfl) hj0 ho0 hoz0
          rw [show twV (I (r + 9)) (I (d + 10)) md mr = t1 from et1.symm] at hh
          rcases hh with ⟨ht1, rfl⟩ | ⟨ht1, rfl, hmi1⟩
          · refine W.eq (g2 := F0 m 34 ls [.null]) rfl ?_
            refine lv_astore_nN (lv' := [(3, .null), (0, .ref g), (1, .int (nI 1)), (2, .int f)]) hx hb dX4_mean_34 rfl hl (by decide) rfl (fun ls hl => ?_)
            refine lv_aload_n hx hb dX4_mean_35 rfl (lv_at hl 1 rfl) ?_
            refine lv_iconst (v := nI 1) hx hb dX4_mean_36 (by decide) ?_
            refine lv_iload_n hx hb dX4_mean_37 rfl (lv_at hl 2 rfl) ?_
            refine lv_isub hx hb dX4_mean_38 ?_
            refine g_topi (y := nI 0) (by decide) ?_
            refine g_cc (g_rV (As := [.int (nI 0)]) hC hP (c_X4_trayOf_0 l hP (g := g) (by first | assumption | omega)) hgt0.1 rfl ⟨q1_199, q1_196, q1_198, qs_5, q1_1⟩ dd_X4_trayOf ⟨Nat.le_of_ble_eq_true rfl, Nat.le_of_ble_eq_true rfl, rfl, rfl⟩ hl.1 rfl (Nat.le_of_ble_eq_true rfl) dX4_mean_39 ⟨Nat.le_of_ble_eq_true rfl, Nat.le_of_ble_eq_true rfl⟩) hS (fun q h => h.elim (hTA q) (fun z => hA q (Nat.le_trans hS.1 z))) (fun r65 H61 locs62 hq66 hS hz63 hfr64 => ?_)
            obtain ⟨J67, O68, hP, hj1, ho1, hoz1, hh⟩ := hq66
            have hgt1 := isGT_tray hgt0 (Or.inl rfl) hj1 ho1 hoz1
            rw [show twV (I (d + 9)) (I (r + 10)) mr md = t0 from et0.symm] at hh
            rcases hh with ⟨ht0, rfl⟩ | ⟨ht0, rfl, hmi0⟩
            · refine W.eq (g2 := F0 m 42 ls [.null]) rfl ?_
              refine lv_astoreN (lv' := [(4, .null), (3, .null), (0, .ref g), (1, .int (nI 1)), (2, .int f)]) hx hb dX4_mean_42 hl (by decide) rfl (fun ls hl => ?_)
              refine lv_aload_nN hx hb dX4_mean_44 rfl (lv_at hl 1 rfl) ?_
              refine lv_ifnullN (tgt := 53) hx hb dX4_mean_45 (by decide) ?_
              refine lv_aload_n hx hb dX4_mean_53 rfl (lv_at hl 2 rfl) ?_
              refine lv_bipush (v := (-5)) hx hb dX4_mean_54 (by decide) ?_
              refine g_cc (g_rV (As := [.int (-5 : Int32)]) hC hP (c_X4_refuseAmongLongs l hP (g := g) (q := (-5 : Int32)) (j := 5) (by first | assumption | omega) (by decide) (by omega)) hgt1.1 rfl ⟨q1_194, q1_191, q1_193, qs_4, q1_1⟩ dd_X4_refuseAmongLongs ⟨Nat.le_of_ble_eq_true rfl, Nat.le_of_ble_eq_true rfl, rfl, rfl⟩ hl.1 rfl (Nat.le_of_ble_eq_true rfl) dX4_mean_56 ⟨Nat.le_of_ble_eq_true rfl, Nat.le_of_ble_eq_true rfl⟩) hS (fun q h => h.elim (hTA q) (fun z => hA q (Nat.le_trans hS.1 z))) (fun r73 H69 locs70 hq74 hS hz71 hfr72 => ?_)
              obtain ⟨rfl, hP⟩ := hq74
              obtain ⟨I75, hI75, hP⟩ : ∃ I75 : gI, I75 = au I (g + 28) 5 (I (g + 28) 5 + 1) ∧ gP G T I75 J67 Q O68 H69 := ⟨_, rfl, hP⟩
              refine W.eq (g2 := F0 m 59 ls [.long (4000000000000000000 - (-5 : Int32).toInt64)]) rfl ?_
              refine g_retcl hC hS ?_ dX4_mean_59
              exact Or.inr (Or.inr (Or.inl ⟨c14, Int32.not_lt.mpr c19, c4, (by rw [← et0, ← et1]; exact Or.inl ht0), rfl, gt_ref hgt1 hck hI75 hP⟩))
            · refine W.eq (g2 := F0 m 42 ls [.ref (r + 11)]) rfl ?_
              refine lv_astore (lv' := [(4, .ref (r + 11)), (3, .null), (0, .ref g), (1, .int (nI 1)), (2, .int f)]) hx hb dX4_mean_42 hl (by decide) rfl (fun ls hl => ?_)
              refine lv_aload_nN hx hb dX4_mean_44 rfl (lv_at hl 1 rfl) ?_
              refine lv_ifnullN (tgt := 53) hx hb dX4_mean_45 (by decide) ?_
              refine lv_aload_n hx hb dX4_mean_53 rfl (lv_at hl 2 rfl) ?_
              refine lv_bipush (v := (-5)) hx hb dX4_mean_54 (by decide) ?_
              refine g_cc (g_rV (As := [.int (-5 : Int32)]) hC hP (c_X4_refuseAmongLongs l hP (g := g) (q := (-5 : Int32)) (j := 5) (by first | assumption | omega) (by decide) (by omega)) hgt1.1 rfl ⟨q1_194, q1_191, q1_193, qs_4, q1_1⟩ dd_X4_refuseAmongLongs ⟨Nat.le_of_ble_eq_true rfl, Nat.le_of_ble_eq_true rfl, rfl, rfl⟩ hl.1 rfl (Nat.le_of_ble_eq_true rfl) dX4_mean_56 ⟨Nat.le_of_ble_eq_true rfl, Nat.le_of_ble_eq_true rfl⟩) hS (fun q h => h.elim (hTA q) (fun z => hA q (Nat.le_trans hS.1 z))) (fun r80 H76 locs77 hq81 hS hz78 hfr79 => ?_)
              obtain ⟨rfl, hP⟩ := hq81
              obtain ⟨I82, hI82, hP⟩ : ∃ I82 : gI, I82 = au I (g + 28) 5 (I (g + 28) 5 + 1) ∧ gP G T I82 J67 Q O68 H76 := ⟨_, rfl, hP⟩
              refine W.eq (g2 := F0 m 59 ls [.long (4000000000000000000 - (-5 : Int32).toInt64)]) rfl ?_
              refine g_retcl hC hS ?_ dX4_mean_59
              exact Or.inr (Or.inr (Or.inl ⟨c14, Int32.not_lt.mpr c19, c4, (by rw [← et0, ← et1]; exact Or.inr ht1), rfl, gt_ref hgt1 hck hI82 hP⟩))
          · refine W.eq (g2 := F0 m 34 ls [.ref (d + 11)]) rfl ?_
            refine lv_astore_n (lv' := [(3, .ref (d + 11)), (0, .ref g), (1, .int (nI 1)), (2, .int f)]) hx hb dX4_mean_34 rfl hl (by decide) rfl (fun ls hl => ?_)
            refine lv_aload_n hx hb dX4_mean_35 rfl (lv_at hl 1 rfl) ?_
            refine lv_iconst (v := nI 1) hx hb dX4_mean_36 (by decide) ?_
            refine lv_iload_n hx hb dX4_mean_37 rfl (lv_at hl 2 rfl) ?_
            refine lv_isub hx hb dX4_mean_38 ?_
            refine g_topi (y := nI 0) (by decide) ?_
            refine g_cc (g_rV (As := [.int (nI 0)]) hC hP (c_X4_trayOf_0 l hP (g := g) (by first | assumption | omega)) hgt0.1 rfl ⟨q1_199, q1_196, q1_198, qs_5, q1_1⟩ dd_X4_trayOf ⟨Nat.le_of_ble_eq_true rfl, Nat.le_of_ble_eq_true rfl, rfl, rfl⟩ hl.1 rfl (Nat.le_of_ble_eq_true rfl) dX4_mean_39 ⟨Nat.le_of_ble_eq_true rfl, Nat.le_of_ble_eq_true rfl⟩) hS (fun q h => h.elim (hTA q) (fun z => hA q (Nat.le_trans hS.1 z))) (fun r87 H83 locs84 hq88 hS hz85 hfr86 => ?_)
            obtain ⟨J89, O90, hP, hj1, ho1, hoz1, hh⟩ := hq88
            have hgt1 := isGT_tray hgt0 (Or.inl rfl) hj1 ho1 hoz1
            rw [show twV (I (d + 9)) (I (r + 10)) mr md = t0 from et0.symm] at hh
            replace hmi1 := mixIs_keep hmi1 (by omega) hj1 ho1
            rcases hh with ⟨ht0, rfl⟩ | ⟨ht0, rfl, hmi0⟩
            · refine W.eq (g2 := F0 m 42 ls [.null]) rfl ?_
              refine lv_astoreN (lv' := [(4, .null), (3, .ref (d + 11)), (0, .ref g), (1, .int (nI 1)), (2, .int f)]) hx hb dX4_mean_42 hl (by decide) rfl (fun ls hl => ?_)
              refine lv_aload_n hx hb dX4_mean_44 rfl (lv_at hl 1 rfl) ?_
              refine lv_ifnull hx hb dX4_mean_45 ?_
              refine lv_aloadN hx hb dX4_mean_48 (lv_at hl 0 rfl) ?_
              refine lv_ifnonnullN hx hb dX4_mean_50 ?_
              refine lv_aload_n hx hb dX4_mean_53 rfl (lv_at hl 2 rfl) ?_
              refine lv_bipush (v := (-5)) hx hb dX4_mean_54 (by decide) ?_
              refine g_cc (g_rV (As := [.int (-5 : Int32)]) hC hP (c_X4_refuseAmongLongs l hP (g := g) (q := (-5 : Int32)) (j := 5) (by first | assumption | omega) (by decide) (by omega)) hgt1.1 rfl ⟨q1_194, q1_191, q1_193, qs_4, q1_1⟩ dd_X4_refuseAmongLongs ⟨Nat.le_of_ble_eq_true rfl, Nat.le_of_ble_eq_true rfl, rfl, rfl⟩ hl.1 rfl (Nat.le_of_ble_eq_true rfl) dX4_mean_56 ⟨Nat.le_of_ble_eq_true rfl, Nat.le_of_ble_eq_true rfl⟩) hS (fun q h => h.elim (hTA q) (fun z => hA q (Nat.le_trans hS.1 z))) (fun r95 H91 locs92 hq96 hS hz93 hfr94 => ?_)
              obtain ⟨rfl, hP⟩ := hq96
              obtain ⟨I97, hI97, hP⟩ : ∃ I97 : gI, I97 = au I (g + 28) 5 (I (g + 28) 5 + 1) ∧ gP G T I97 J89 Q O90 H91 := ⟨_, rfl, hP⟩
              refine W.eq (g2 := F0 m 59 ls [.long (4000000000000000000 - (-5 : Int32).toInt64)]) rfl ?_
              refine g_retcl hC hS ?_ dX4_mean_59
              exact Or.inr (Or.inr (Or.inl ⟨c14, Int32.not_lt.mpr c19, c4, (by rw [← et0, ← et1]; exact Or.inl ht0), rfl, gt_ref hgt1 hck hI97 hP⟩))
            · refine W.eq (g2 := F0 m 42 ls [.ref (r + 11)]) rfl ?_
              refine lv_astore (lv' := [(4, .ref (r + 11)), (3, .ref (d + 11)), (0, .ref g), (1, .int (nI 1)), (2, .int f)]) hx hb dX4_mean_42 hl (by decide) rfl (fun ls hl => ?_)
              refine lv_aload_n hx hb dX4_mean_44 rfl (lv_at hl 1 rfl) ?_
              refine lv_ifnull hx hb dX4_mean_45 ?_
              refine lv_aload hx hb dX4_mean_48 (lv_at hl 0 rfl) ?_
              refine lv_ifnonnull (tgt := 60) hx hb dX4_mean_50 (by decide) ?_
              refine lv_aload_n hx hb dX4_mean_60 rfl (lv_at hl 2 rfl) ?_
              refine lv_iload_n hx hb dX4_mean_61 rfl (lv_at hl 3 rfl) ?_
              refine g_cp (g_rV (As := [.int (nI 1)]) hC hP (c_X4_player l hP (g := g) (w := 1) (by first | assumption | omega) (by first | assumption | omega)) hgt1.1 rfl ⟨q1_166, q1_163, q1_165, qs_3, q1_1⟩ dd_X4_player ⟨Nat.le_of_ble_eq_true rfl, Nat.le_of_ble_eq_true rfl, rfl, rfl⟩ hl.1 rfl (Nat.le_of_ble_eq_true rfl) dX4_mean_62 ⟨Nat.le_of_ble_eq_true rfl, Nat.le_of_ble_eq_true rfl⟩) ?_
              refine W.eq (g2 := F0 m 65 ls [.ref d]) rfl ?_
              refine lv_aload_n hx hb dX4_mean_65 rfl (lv_at hl 1 rfl) ?_
              refine lv_aload hx hb dX4_mean_66 (lv_at hl 0 rfl) ?_
              refine lv_iload_n hx hb dX4_mean_68 rfl (lv_at hl 4 rfl) ?_
              refine g_cp (g_rV (As := [.ref (d + 11), .ref (r + 11), .int f]) hC hP (c_X3_meanPart l hP (b := d) (ch := md) (x := d + 11) (y := r + 11) (u := t1.2.2.1) (n := t1.2.2.2) (u2 := t0.2.2.1) (n2 := t0.2.2.2) (t := t1.2.1) (t2 := t0.2.1) (q := f) hgt1.2.2.2.2.2.2.2.2.2.1 hgt1.2.2.2.2.2.2.2.2.2.2.2.1 hmi1.2 hgt1.2.2.2.2.2.2.2.2.2.2.1 hmi0.2) hgt1.2.2.2.2.2.2.2.2.2.1.1 rfl ⟨q1_220, q1_217, q1_218, q1_219, q1_2⟩ dd_X3_meanPart ⟨Nat.le_of_ble_eq_true rfl, Nat.le_of_ble_eq_true rfl, rfl, rfl⟩ hl.1 rfl (Nat.le_of_ble_eq_true rfl) dX4_mean_69 ⟨Nat.le_of_ble_eq_true rfl, Nat.le_of_ble_eq_true rfl⟩) ?_
              refine W.eq (g2 := F0 m 72 ls [.long (lowS (msum (I (d + 9)) (J89 ((d + 11) + 1)) (J89 ((r + 11) + 1)) md) (t1.2.1 * t0.2.1) f)]) rfl ?_
              refine g_retcl hC hS ?_ dX4_mean_72
              refine Or.inr (Or.inr (Or.inr ⟨c14, Int32.not_lt.mpr c19, et0 ▸ ht0, et1 ▸ ht1, Or.inr ⟨rfl, ?_, gt_same hgt1 hck hP⟩⟩))
              rw [← et0, ← et1]
              exact congrArg (fun z => some (Value.long (lowS z (t1.2.1 * t0.2.1) f))) (msum_congr hmi0.1 md (fun q hq => hmi1.1 q (Nat.lt_of_lt_of_le hq hg_hi9)))
      · refine lv_aload_n hx hb dX4_mean_22 rfl (lv_at hl 0 rfl) ?_
        refine lv_bipush (v := (-2)) hx hb dX4_mean_23 (by decide) ?_
        refine g_cc (g_rV (As := [.int (-2 : Int32)]) hC hP (c_X4_refuseAmongLongs l hP (g := g) (q := (-2 : Int32)) (j := 2) (by first | assumption | omega) (by decide) (by omega)) hg.1 rfl ⟨q1_194, q1_191, q1_193, qs_4, q1_1⟩ dd_X4_refuseAmongLongs ⟨Nat.le_of_ble_eq_true rfl, Nat.le_of_ble_eq_true rfl, rfl, rfl⟩ hl.1 rfl (Nat.le_of_ble_eq_true rfl) dX4_mean_25 ⟨Nat.le_of_ble_eq_true rfl, Nat.le_of_ble_eq_true rfl⟩) hS (fun q h => h.elim (hTA q) (fun z => hA q (Nat.le_trans hS.1 z))) (fun r102 H98 locs99 hq103 hS hz100 hfr101 => ?_)
        obtain ⟨rfl, hP⟩ := hq103
        obtain ⟨I104, hI104, hP⟩ : ∃ I104 : gI, I104 = au I (g + 28) 2 (I (g + 28) 2 + 1) ∧ gP G T I104 J Q O H98 := ⟨_, rfl, hP⟩
        refine W.eq (g2 := F0 m 28 ls [.long (4000000000000000000 - (-2 : Int32).toInt64)]) rfl ?_
        refine g_retcl hC hS ?_ dX4_mean_28
        exact Or.inr (Or.inl ⟨c4, (by first | exact Or.inl c14 | exact Or.inr (Int32.not_le.mp c19)), rfl, gt_ref hg hck hI104 hP⟩)
  · have c4 := gb_f c4
    refine lv_aload_n hx hb dX4_mean_7 rfl (lv_at hl 0 rfl) ?_
    refine lv_iconst (v := (-1)) hx hb dX4_mean_8 (by decide) ?_
    refine g_cc (g_rV (As := [.int (-1 : Int32)]) hC hP (c_X4_refuseAmongLongs l hP (g := g) (q := (-1 : Int32)) (j := 1) (by first | assumption | omega) (by decide) (by omega)) hg.1 rfl ⟨q1_194, q1_191, q1_193, qs_4, q1_1⟩ dd_X4_refuseAmongLongs ⟨Nat.le_of_ble_eq_true rfl, Nat.le_of_ble_eq_true rfl, rfl, rfl⟩ hl.1 rfl (Nat.le_of_ble_eq_true rfl) dX4_mean_9 ⟨Nat.le_of_ble_eq_true rfl, Nat.le_of_ble_eq_true rfl⟩) hS (fun q h => h.elim (hTA q) (fun z => hA q (Nat.le_trans hS.1 z))) (fun r109 H105 locs106 hq110 hS hz107 hfr108 => ?_)
    obtain ⟨rfl, hP⟩ := hq110
    obtain ⟨I111, hI111, hP⟩ : ∃ I111 : gI, I111 = au I (g + 28) 1 (I (g + 28) 1 + 1) ∧ gP G T I111 J Q O H105 := ⟨_, rfl, hP⟩
    refine W.eq (g2 := F0 m 12 ls [.long (4000000000000000000 - (-1 : Int32).toInt64)]) rfl ?_
    refine g_retcl hC hS ?_ dX4_mean_12
    exact Or.inl ⟨c4, rfl, gt_ref hg hck hI111 hP⟩
set_option maxHeartbeats 4000000 in
set_option maxRecDepth 100000 in
theorem c_X4_find (l : Launch) {G : gG} {T : gTy} {I : gI} {J : gJ} {Q : gR} {O : gO} {H : Heap} (hP : gP G T I J Q O H) {g r d mr md : Nat} {ck : Bool} {cr cd : CL} {Sr Sd : Nat → Prop}  (hg : isGT T J Q O g r d mr md ck cr cd Sr Sd) (hck : ckOK ck cr cd mr md (I (r + 9)) (I (d + 9))) : Met l yX4_find (gw yX4_find cX4_find 5 (some (.int))) ({ frames := 7, cells := 900, slots := 3600, locals := 154 } : Room) (gPc G H [.ref g]) (gQc (gF T H) (fun x H1 => rFind (gsI I g r d mr md) (fun x1 s1 => x = some (.int x1) ∧ gtG G T H.size g s1 H1) )) 900 3600 (gF T H) := by
  refine g_met [(0, .ref g)] (by decide) rfl (by exact Nat.le_of_ble_eq_true rfl) ?_
  intro p e s m below meth c hC hs ls hl
  have hx := hC.1.1
  have hb := hC.1.2.1
  have hS : va_S (gF T H) s.heap H [] := hs ▸ va_S.rf
  have hTA : ∀ q, (T q).1 ≠ 0 → gF T H q := fun q h => Or.inl h
  have hA : ∀ q, s.heap.size ≤ q → gF T H q := fun q h => Or.inr (hs ▸ h)
  generalize hAe : gF T H = A at hS hTA hA ⊢
  have hg_lo8 := hg.2.2.2.2.2.2.2.2.1.2.2.2.2.2.2.2.2.1
  have hg_hi8 := hg.2.2.2.2.2.2.2.2.1.2.2.2.2.2.2.2.2.2
  have hg_lo9 := hg.2.2.2.2.2.2.2.2.2.1.2.2.2.2.2.2.2.2.1
  have hg_hi9 := hg.2.2.2.2.2.2.2.2.2.1.2.2.2.2.2.2.2.2.2
  have hg_ad := hg.2.2.2.2.2.2.2.2.2.2.2.2.2.2.2.2.1
  obtain ⟨t0, et0⟩ : ∃ x : MixV, x = gsT0 (gsI I g r d mr md) := ⟨_, rfl⟩
  obtain ⟨t1, et1⟩ : ∃ x : MixV, x = gsT1 (gsI I g r d mr md) := ⟨_, rfl⟩
  have ok0 : vOK t0 := et0 ▸ twV_ok hg_hi9
  have ok1 : vOK t1 := et1 ▸ twV_ok hg_hi8
  have ok0a := ok0.1
  have ok0b := ok0.2
  have ok1a := ok1.1
  have ok1b := ok1.2
  refine lv_aload_n hx hb dX4_find_0 rfl (lv_at hl 0 rfl) ?_
  refine lv_iconst (v := nI 0) hx hb dX4_find_1 (by decide) ?_
  refine g_cc (g_rV (As := [.int (nI 0)]) hC hP (c_X4_trayOf_0 l hP (g := g) (by first | assumption | omega)) hg.1 rfl ⟨q1_199, q1_196, q1_198, qs_5, q1_1⟩ dd_X4_trayOf ⟨Nat.le_of_ble_eq_true rfl, Nat.le_of_ble_eq_true rfl, rfl, rfl⟩ hl.1 rfl (Nat.le_of_ble_eq_true rfl) dX4_find_2 ⟨Nat.le_of_ble_eq_true rfl, Nat.le_of_ble_eq_true rfl⟩) hS (fun q h => h.elim (hTA q) (fun z => hA q (Nat.le_trans hS.1 z))) (fun r5 H1 locs2 hq6 hS hz3 hfr4 => ?_)
  obtain ⟨J7, O8, hP, hj0, ho0, hoz0, hh⟩ := hq6
  have hgt0 := isGT_tray hg (Or.inl rfl) hj0 ho0 hoz0
  rw [show twV (I (d + 9)) (I (r + 10)) mr md = t0 from et0.symm] at hh
  rcases hh with ⟨ht0, rfl⟩ | ⟨ht0, rfl, hmi0⟩
  · refine W.eq (g2 := F0 m 5 ls [.null]) rfl ?_
    refine lv_astore_nN (lv' := [(1, .null), (0, .ref g)]) hx hb dX4_find_5 rfl hl (by decide) rfl (fun ls hl => ?_)
    refine lv_aload_n hx hb dX4_find_6 rfl (lv_at hl 1 rfl) ?_
    refine lv_iconst (v := nI 1) hx hb dX4_find_7 (by decide) ?_
    refine g_cc (g_rV (As := [.int (nI 1)]) hC hP (c_X4_trayOf_1 l hP (g := g) (by first | assumption | omega)) hgt0.1 rfl ⟨q1_199, q1_196, q1_198, qs_5, q1_1⟩ dd_X4_trayOf ⟨Nat.le_of_ble_eq_true rfl, Nat.le_of_ble_eq_true rfl, rfl, rfl⟩ hl.1 rfl (Nat.le_of_ble_eq_true rfl) dX4_find_8 ⟨Nat.le_of_ble_eq_true rfl, Nat.le_of_ble_eq_true rfl⟩) hS (fun q h => h.elim (hTA q) (fun z => hA q (Nat.le_trans hS.1 z))) (fun r13 H9 locs10 hq14 hS hz11 hfr12 => ?_)
    obtain ⟨J15, O16, hP, hj1, ho1, hoz1, hh⟩ := hq14
    have hgt1 := isGT_tray hgt0 (Or.inr rfl) hj1 ho1 hoz1
    rw [show twV (I (r + 9)) (I (d + 10)) md mr = t1 from et1.symm] at hh
    rcases hh with ⟨ht1, rfl⟩ | ⟨ht1, rfl, hmi1⟩
    · refine W.eq (g2 := F0 m 11 ls [.null]) rfl ?_
      refine lv_astore_nN (lv' := [(2, .null), (1, .null), (0, .ref g)]) hx hb dX4_find_11 rfl hl (by decide) rfl (fun ls hl => ?_)
      refine lv_aload_nN hx hb dX4_find_12 rfl (lv_at hl 1 rfl) ?_
      refine lv_ifnullN (tgt := 20) hx hb dX4_find_13 (by decide) ?_
      refine lv_aload_n hx hb dX4_find_20 rfl (lv_at hl 2 rfl) ?_
      refine lv_bipush (v := (-5)) hx hb dX4_find_21 (by decide) ?_
      refine g_cc (g_rV (As := [.int (-5 : Int32)]) hC hP (c_X4_refuse l hP (g := g) (q := (-5 : Int32)) (j := 5) (by first | assumption | omega) (by decide) (by omega)) hgt1.1 rfl ⟨q1_138, q1_135, q1_137, qs_0, q1_1⟩ dd_X4_refuse ⟨Nat.le_of_ble_eq_true rfl, Nat.le_of_ble_eq_true rfl, rfl, rfl⟩ hl.1 rfl (Nat.le_of_ble_eq_true rfl) dX4_find_23 ⟨Nat.le_of_ble_eq_true rfl, Nat.le_of_ble_eq_true rfl⟩) hS (fun q h => h.elim (hTA q) (fun z => hA q (Nat.le_trans hS.1 z))) (fun r21 H17 locs18 hq22 hS hz19 hfr20 => ?_)
      obtain ⟨rfl, hP⟩ := hq22
      obtain ⟨I23, hI23, hP⟩ : ∃ I23 : gI, I23 = au I (g + 28) 5 (I (g + 28) 5 + 1) ∧ gP G T I23 J15 Q O16 H17 := ⟨_, rfl, hP⟩
      refine W.eq (g2 := F0 m 26 ls [.int (-5 : Int32)]) rfl ?_
      refine W.widen (k := 900) (n := 3600) (by omega) (by omega) ?_
      refine g_retci hC hS ?_ dX4_find_26
      exact Or.inl ⟨(by rw [← et0, ← et1]; exact Or.inl ht0), rfl, gt_ref hgt1 hck hI23 hP⟩
    · refine W.eq (g2 := F0 m 11 ls [.ref (d + 11)]) rfl ?_
      refine lv_astore_n (lv' := [(2, .ref (d + 11)), (1, .null), (0, .ref g)]) hx hb dX4_find_11 rfl hl (by decide) rfl (fun ls hl => ?_)
      refine lv_aload_nN hx hb dX4_find_12 rfl (lv_at hl 1 rfl) ?_
      refine lv_ifnullN (tgt := 20) hx hb dX4_find_13 (by decide) ?_
      refine lv_aload_n hx hb dX4_find_20 rfl (lv_at hl 2 rfl) ?_
      refine lv_bipush (v := (-5)) hx hb dX4_find_21 (by decide) ?_
      refine g_cc (g_rV (As := [.int (-5 : Int32)]) hC hP (c_X4_refuse l hP (g := g) (q := (-5 : Int32)) (j := 5) (by first | assumption | omega) (by decide) (by omega)) hgt1.1 rfl ⟨q1_138, q1_135, q1_137, qs_0, q1_1⟩ dd_X4_refuse ⟨Nat.le_of_ble_eq_true rfl, Nat.le_of_ble_eq_true rfl, rfl, rfl⟩ hl.1 rfl (Nat.le_of_ble_eq_true rfl) dX4_find_23 ⟨Nat.le_of_ble_eq_true rfl, Nat.le_of_ble_eq_true rfl⟩) hS (fun q h => h.elim (hTA q) (fun z => hA q (Nat.le_trans hS.1 z))) (fun r28 H24 locs25 hq29 hS hz26 hfr27 => ?_)
      obtain ⟨rfl, hP⟩ := hq29
      obtain ⟨I30, hI30, hP⟩ : ∃ I30 : gI, I30 = au I (g + 28) 5 (I (g + 28) 5 + 1) ∧ gP G T I30 J15 Q O16 H24 := ⟨_, rfl, hP⟩
      refine W.eq (g2 := F0 m 26 ls [.int (-5 : Int32)]) rfl ?_
      refine W.widen (k := 900) (n := 3600) (by omega) (by omega) ?_
      refine g_retci hC hS ?_ dX4_find_26
      exact Or.inl ⟨(by rw [← et0, ← et1]; exact Or.inl ht0), rfl, gt_ref hgt1 hck hI30 hP⟩
  · refine W.eq (g2 := F0 m 5 ls [.ref (r + 11)]) rfl ?_
    refine lv_astore_n (lv' := [(1, .ref (r + 11)), (0, .ref g)]) hx hb dX4_find_5 rfl hl (by decide) rfl (fun ls hl => ?_)
    refine lv_aload_n hx hb dX4_find_6 rfl (lv_at hl 1 rfl) ?_
    refine lv_iconst (v := nI 1) hx hb dX4_find_7 (by decide) ?_
    refine g_cc (g_rV (As := [.int (nI 1)]) hC hP (c_X4_trayOf_1 l hP (g := g) (by first | assumption | omega)) hgt0.1 rfl ⟨q1_199, q1_196, q1_198, qs_5, q1_1⟩ dd_X4_trayOf ⟨Nat.le_of_ble_eq_true rfl, Nat.le_of_ble_eq_true rfl, rfl, rfl⟩ hl.1 rfl (Nat.le_of_ble_eq_true rfl) dX4_find_8 ⟨Nat.le_of_ble_eq_true rfl, Nat.le_of_ble_eq_true rfl⟩) hS (fun q h => h.elim (hTA q) (fun z => hA q (Nat.le_trans hS.1 z))) (fun r35 H31 locs32 hq36 hS hz33 hfr34 => ?_)
    obtain ⟨J37, O38, hP, hj1, ho1, hoz1, hh⟩ := hq36
    have hgt1 := isGT_tray hgt0 (Or.inr rfl) hj1 ho1 hoz1
    rw [show twV (I (r + 9)) (I (d + 10)) md mr = t1 from et1.symm] at hh
    replace hmi0 := mixIs_keep hmi0 (by omega) hj1 ho1
    rcases hh with ⟨ht1, rfl⟩ | ⟨ht1, rfl, hmi1⟩
    · refine W.eq (g2 := F0 m 11 ls [.null]) rfl ?_
      refine lv_astore_nN (lv' := [(2, .null), (1, .ref (r + 11)), (0, .ref g)]) hx hb dX4_find_11 rfl hl (by decide) rfl (fun ls hl => ?_)
      refine lv_aload_n hx hb dX4_find_12 rfl (lv_at hl 1 rfl) ?_
      refine lv_ifnull hx hb dX4_find_13 ?_
      refine lv_aload_nN hx hb dX4_find_16 rfl (lv_at hl 0 rfl) ?_
      refine lv_ifnonnullN hx hb dX4_find_17 ?_
      refine lv_aload_n hx hb dX4_find_20 rfl (lv_at hl 2 rfl) ?_
      refine lv_bipush (v := (-5)) hx hb dX4_find_21 (by decide) ?_
      refine g_cc (g_rV (As := [.int (-5 : Int32)]) hC hP (c_X4_refuse l hP (g := g) (q := (-5 : Int32)) (j := 5) (by first | assumption | omega) (by decide) (by omega)) hgt1.1 rfl ⟨q1_138, q1_135, q1_137, qs_0, q1_1⟩ dd_X4_refuse ⟨Nat.le_of_ble_eq_true rfl, Nat.le_of_ble_eq_true rfl, rfl, rfl⟩ hl.1 rfl (Nat.le_of_ble_eq_true rfl) dX4_find_23 ⟨Nat.le_of_ble_eq_true rfl, Nat.le_of_ble_eq_true rfl⟩) hS (fun q h => h.elim (hTA q) (fun z => hA q (Nat.le_trans hS.1 z))) (fun r43 H39 locs40 hq44 hS hz41 hfr42 => ?_)
      obtain ⟨rfl, hP⟩ := hq44
      obtain ⟨I45, hI45, hP⟩ : ∃ I45 : gI, I45 = au I (g + 28) 5 (I (g + 28) 5 + 1) ∧ gP G T I45 J37 Q O38 H39 := ⟨_, rfl, hP⟩
      refine W.eq (g2 := F0 m 26 ls [.int (-5 : Int32)]) rfl ?_
      refine W.widen (k := 900) (n := 3600) (by omega) (by omega) ?_
      refine g_retci hC hS ?_ dX4_find_26
      exact Or.inl ⟨(by rw [← et0, ← et1]; exact Or.inr ht1), rfl, gt_ref hgt1 hck hI45 hP⟩
    · refine W.eq (g2 := F0 m 11 ls [.ref (d + 11)]) rfl ?_
      refine lv_astore_n (lv' := [(2, .ref (d + 11)), (1, .ref (r + 11)), (0, .ref g)]) hx hb dX4_find_11 rfl hl (by decide) rfl (fun ls hl => ?_)
      refine lv_aload_n hx hb dX4_find_12 rfl (lv_at hl 1 rfl) ?_
      refine lv_ifnull hx hb dX4_find_13 ?_
      refine lv_aload_n hx hb dX4_find_16 rfl (lv_at hl 0 rfl) ?_
      refine lv_ifnonnull (tgt := 27) hx hb dX4_find_17 (by decide) ?_
      refine lv_aload_n hx hb dX4_find_27 rfl (lv_at hl 2 rfl) ?_
      have hsz := hS.1
      refine g_cc (g_rV (As := []) hC hP (c_X4_knowCorners l hP (g := g) hgt1 hck) hgt1.1 rfl ⟨q2_84, q2_81, q2_83, qs_9, q1_1⟩ dd_X4_knowCorners ⟨Nat.le_of_ble_eq_true rfl, Nat.le_of_ble_eq_true rfl, rfl, rfl⟩ hl.1 rfl (Nat.le_of_ble_eq_true rfl) dX4_find_28 ⟨Nat.le_of_ble_eq_true rfl, Nat.le_of_ble_eq_true rfl⟩) hS (fun q h => h.elim (hTA q) (fun z => hA q (Nat.le_trans hS.1 z))) (fun r50 H46 locs47 hq51 hS hz48 hfr49 => ?_)
      obtain ⟨rfl, T52, J53, Q54, O55, Sr2, Sd2, hP, hE, hg2, hfr⟩ := hq51
      have hTA : ∀ q, (T52 q).1 ≠ 0 → A q := fun q hq => (hE q hq).elim (hTA q) (fun z => hA q (by first | (rw [hs]; exact z) | omega))
      replace hE : ∀ q, (T52 q).1 ≠ 0 → (T q).1 ≠ 0 ∨ H.size ≤ q := fun q hq => (hE q hq).imp id (fun z => by rw [hs] at hsz; omega)
      obtain ⟨fr, sr, fd, sd, ar, ad, hgc⟩ := gt_C hg2 hg_hi8 hg_hi9
      obtain ⟨cr2, hcr2⟩ : ∃ x : CL, x = gsCr (gsI I g r d mr md) := ⟨_, rfl⟩
      obtain ⟨cd2, hcd2⟩ : ∃ x : CL, x = gsCd (gsI I g r d mr md) := ⟨_, rfl⟩
      have hg3 := hg2
      rw [← hcr2, ← hcd2] at hg2 hgc
      have hgc_c0 := hgc.1.2.2.1
      have hgc_f0 := hgc.1.2.2.2.1
      have hgc_c1 := hgc.2.1.2.2.1
      have hgc_f1 := hgc.2.1.2.2.2.1
      have hgc_r := hgc.2.2.2.2.2.2.1
      have hgc_d := hgc.2.2.2.2.2.2.2
      refine W.eq (g2 := F0 m 31 ls []) rfl ?_
      have hst := gt_st hg
      replace hmi0 := mixIs_eq hmi0 (hfr (r + 12) hst.2.2.2.2.2.1 (by omega) (by rw [show T (r + 12) = (3, 4) from hgt1.2.2.2.2.2.2.2.2.2.2.1.2.2]; decide)).1 (hfr (r + 11) hst.2.2.2.1 (by omega) (by rw [hgt1.2.2.2.2.2.2.2.2.2.2.1.1]; decide)).2
      replace hmi1 := mixIs_eq hmi1 (hfr (d + 12) hst.2.2.2.2.2.2.1 (by omega) (by rw [show T (d + 12) = (3, 4) from hgt1.2.2.2.2.2.2.2.2.2.2.2.1.2.2]; decide)).1 (hfr (d + 11) hst.2.2.2.2.1 (by omega) (by rw [hgt1.2.2.2.2.2.2.2.2.2.2.2.1.1]; decide)).2
      refine lv_aload_n hx hb dX4_find_31 rfl (lv_at hl 2 rfl) ?_
      refine g_get hC hP hg2.1 rfl inX4 0 (by decide) q1_115 hg2.2.1 dX4_find_32 ?_
      refine g_get hC hP hg2.2.2.2.2.2.2.2.2.1.1 rfl inX3 1 (by decide) q1_80 hg2.2.2.2.2.2.2.2.2.1.2.2.1 dX4_find_35 ?_
      refine lv_aload_n hx hb dX4_find_38 rfl (lv_at hl 1 rfl) ?_
      refine g_cp (g_rV (As := [.ref (r + 11)]) hC hP (c_X0_numberOf l hP (k := r + 1) (cnt := cr2.1) (fill := fr) (sp := sr) (x := r + 11) (u := t0.2.2.1) (n := t0.2.2.2) (ad := ar) (tt := (fun j => (cr2.2 j).2.1)) (uu := (fun j => (cr2.2 j).2.2.1)) (nn := (fun j => (cr2.2 j).2.2.2)) (t := t0.2.1) hg2.2.2.2.2.2.2.2.2.2.2.2.2.1 hgc.1 hg2.2.2.2.2.2.2.2.2.2.2.1 hmi0.2 (fun j hj => (hgc.2.2.1 j hj).2)) hg2.2.2.2.2.2.2.2.2.2.2.2.2.1.1 rfl ⟨q2_187, q2_184, q2_185, q2_186, q1_3⟩ dd_X0_numberOf ⟨Nat.le_of_ble_eq_true rfl, Nat.le_of_ble_eq_true rfl, rfl, rfl⟩ hl.1 rfl (Nat.le_of_ble_eq_true rfl) dX4_find_39 ⟨Nat.le_of_ble_eq_true rfl, Nat.le_of_ble_eq_true rfl⟩) ?_
      refine W.eq (g2 := F0 m 42 ls [.int (oI (fstN (fun j => decide (ordM (J53 (ar j + 1)) ((fun j => (cr2.2 j).2.1) j) (J53 ((r + 11) + 1)) t0.2.1 = 0)) cr2.1))]) rfl ?_
      have en0 : fstN (fun j => decide (ordM (J53 (ar j + 1)) (cr2.2 j).2.1 (J53 (r + 11 + 1)) t0.2.1 = 0)) cr2.1 = nbr cr2 t0 := fstN_congr (fun j hj => by rw [ordM_congr (hgc.2.2.1 j hj).1 hmi0.1]; rfl)
      cases e0 : nbr cr2 t0
      · refine g_topi (y := (-9)) ((congrArg oI (en0.trans e0)).trans rfl) ?_
        refine lv_istore_n (lv' := [(3, .int (-9)), (2, .ref (d + 11)), (1, .ref (r + 11)), (0, .ref g)]) hx hb dX4_find_42 rfl hl (by decide) rfl (fun ls hl => ?_)
        refine lv_aload_n hx hb dX4_find_43 rfl (lv_at hl 3 rfl) ?_
        refine g_get hC hP hg2.1 rfl inX4 1 (by decide) q1_116 hg2.2.2.1 dX4_find_44 ?_
        refine g_get hC hP hg2.2.2.2.2.2.2.2.2.2.1.1 rfl inX3 1 (by decide) q1_80 hg2.2.2.2.2.2.2.2.2.2.1.2.2.1 dX4_find_47 ?_
        refine lv_aload_n hx hb dX4_find_50 rfl (lv_at hl 1 rfl) ?_
        refine g_cp (g_rV (As := [.ref (d + 11)]) hC hP (c_X0_numberOf l hP (k := d + 1) (cnt := cd2.1) (fill := fd) (sp := sd) (x := d + 11) (u := t1.2.2.1) (n := t1.2.2.2) (ad := ad) (tt := (fun j => (cd2.2 j).2.1)) (uu := (fun j => (cd2.2 j).2.2.1)) (nn := (fun j => (cd2.2 j).2.2.2)) (t := t1.2.1) hg2.2.2.2.2.2.2.2.2.2.2.2.2.2.1 hgc.2.1 hg2.2.2.2.2.2.2.2.2.2.2.2.1 hmi1.2 (fun j hj => (hgc.2.2.2.1 j hj).2)) hg2.2.2.2.2.2.2.2.2.2.2.2.2.2.1.1 rfl ⟨q2_187, q2_184, q2_185, q2_186, q1_3⟩ dd_X0_numberOf ⟨Nat.le_of_ble_eq_true rfl, Nat.le_of_ble_eq_true rfl, rfl, rfl⟩ hl.1 rfl (Nat.le_of_ble_eq_true rfl) dX4_find_51 ⟨Nat.le_of_ble_eq_true rfl, Nat.le_of_ble_eq_true rfl⟩) ?_
        refine W.eq (g2 := F0 m 54 ls [.int (oI (fstN (fun j => decide (ordM (J53 (ad j + 1)) ((fun j => (cd2.2 j).2.1) j) (J53 ((d + 11) + 1)) t1.2.1 = 0)) cd2.1))]) rfl ?_
        have en1 : fstN (fun j => decide (ordM (J53 (ad j + 1)) (cd2.2 j).2.1 (J53 (d + 11 + 1)) t1.2.1 = 0)) cd2.1 = nbr cd2 t1 := fstN_congr (fun j hj => by rw [ordM_congr (hgc.2.2.2.1 j hj).1 hmi1.1]; rfl)
        cases e1 : nbr cd2 t1
        · refine g_topi (y := (-9)) ((congrArg oI (en1.trans e1)).trans rfl) ?_
          refine lv_istore (lv' := [(4, .int (-9)), (3, .int (-9)), (2, .ref (d + 11)), (1, .ref (r + 11)), (0, .ref g)]) hx hb dX4_find_54 hl (by decide) rfl (fun ls hl => ?_)
          refine lv_iload_n hx hb dX4_find_56 rfl (lv_at hl 1 rfl) ?_
          refine lv_bipush (v := (-9)) hx hb dX4_find_57 (by decide) ?_
          refine lv_icmp_eq (tgt := 77) hx hb dX4_find_59 (by decide) (fun c59 => ?_) (fun c59 => ?_)
          · refine lv_bipush (v := (-9)) hx hb dX4_find_77 (by decide) ?_
            refine W.widen (k := 900) (n := 3600) (by omega) (by omega) ?_
            refine g_retci hC hS ?_ dX4_find_79
            refine Or.inr ⟨et0 ▸ ht0, et1 ▸ ht1, ?_, gt_know hE hg3 hP⟩
            unfold findV
            rw [← hcr2, ← hcd2, ← et0, ← et1]
            rw [e0]
          · exact absurd rfl c59
        · rename_i e9
          have he9 := (fstN_lt e1).1
          refine g_topi (y := nI e9) ((congrArg oI (en1.trans e1)).trans rfl) ?_
          refine lv_istore (lv' := [(4, .int (nI e9)), (3, .int (-9)), (2, .ref (d + 11)), (1, .ref (r + 11)), (0, .ref g)]) hx hb dX4_find_54 hl (by decide) rfl (fun ls hl => ?_)
          refine lv_iload_n hx hb dX4_find_56 rfl (lv_at hl 1 rfl) ?_
          refine lv_bipush (v := (-9)) hx hb dX4_find_57 (by decide) ?_
          refine lv_icmp_eq (tgt := 77) hx hb dX4_find_59 (by decide) (fun c59 => ?_) (fun c59 => ?_)
          · refine lv_bipush (v := (-9)) hx hb dX4_find_77 (by decide) ?_
            refine W.widen (k := 900) (n := 3600) (by omega) (by omega) ?_
            refine g_retci hC hS ?_ dX4_find_79
            refine Or.inr ⟨et0 ▸ ht0, et1 ▸ ht1, ?_, gt_know hE hg3 hP⟩
            unfold findV
            rw [← hcr2, ← hcd2, ← et0, ← et1]
            rw [e0]
          · exact absurd rfl c59
      · rename_i a
        have ha := (fstN_lt e0).1
        refine g_topi (y := nI a) ((congrArg oI (en0.trans e0)).trans rfl) ?_
        refine lv_istore_n (lv' := [(3, .int (nI a)), (2, .ref (d + 11)), (1, .ref (r + 11)), (0, .ref g)]) hx hb dX4_find_42 rfl hl (by decide) rfl (fun ls hl => ?_)
        refine lv_aload_n hx hb dX4_find_43 rfl (lv_at hl 3 rfl) ?_
        refine g_get hC hP hg2.1 rfl inX4 1 (by decide) q1_116 hg2.2.2.1 dX4_find_44 ?_
        refine g_get hC hP hg2.2.2.2.2.2.2.2.2.2.1.1 rfl inX3 1 (by decide) q1_80 hg2.2.2.2.2.2.2.2.2.2.1.2.2.1 dX4_find_47 ?_
        refine lv_aload_n hx hb dX4_find_50 rfl (lv_at hl 1 rfl) ?_
        refine g_cp (g_rV (As := [.ref (d + 11)]) hC hP (c_X0_numberOf l hP (k := d + 1) (cnt := cd2.1) (fill := fd) (sp := sd) (x := d + 11) (u := t1.2.2.1) (n := t1.2.2.2) (ad := ad) (tt := (fun j => (cd2.2 j).2.1)) (uu := (fun j => (cd2.2 j).2.2.1)) (nn := (fun j => (cd2.2 j).2.2.2)) (t := t1.2.1) hg2.2.2.2.2.2.2.2.2.2.2.2.2.2.1 hgc.2.1 hg2.2.2.2.2.2.2.2.2.2.2.2.1 hmi1.2 (fun j hj => (hgc.2.2.2.1 j hj).2)) hg2.2.2.2.2.2.2.2.2.2.2.2.2.2.1.1 rfl ⟨q2_187, q2_184, q2_185, q2_186, q1_3⟩ dd_X0_numberOf ⟨Nat.le_of_ble_eq_true rfl, Nat.le_of_ble_eq_true rfl, rfl, rfl⟩ hl.1 rfl (Nat.le_of_ble_eq_true rfl) dX4_find_51 ⟨Nat.le_of_ble_eq_true rfl, Nat.le_of_ble_eq_true rfl⟩) ?_
        refine W.eq (g2 := F0 m 54 ls [.int (oI (fstN (fun j => decide (ordM (J53 (ad j + 1)) ((fun j => (cd2.2 j).2.1) j) (J53 ((d + 11) + 1)) t1.2.1 = 0)) cd2.1))]) rfl ?_
        have en1 : fstN (fun j => decide (ordM (J53 (ad j + 1)) (cd2.2 j).2.1 (J53 (d + 11 + 1)) t1.2.1 = 0)) cd2.1 = nbr cd2 t1 := fstN_congr (fun j hj => by rw [ordM_congr (hgc.2.2.2.1 j hj).1 hmi1.1]; rfl)
        cases e1 : nbr cd2 t1
        · refine g_topi (y := (-9)) ((congrArg oI (en1.trans e1)).trans rfl) ?_
          refine lv_istore (lv' := [(4, .int (-9)), (3, .int (nI a)), (2, .ref (d + 11)), (1, .ref (r + 11)), (0, .ref g)]) hx hb dX4_find_54 hl (by decide) rfl (fun ls hl => ?_)
          refine lv_iload_n hx hb dX4_find_56 rfl (lv_at hl 1 rfl) ?_
          refine lv_bipush (v := (-9)) hx hb dX4_find_57 (by decide) ?_
          refine lv_icmp_eq (tgt := 77) hx hb dX4_find_59 (by decide) (fun c59 => ?_) (fun c59 => ?_)
          · exact absurd c59 (nI_n9 (by omega))
          · refine lv_iload hx hb dX4_find_62 (lv_at hl 0 rfl) ?_
            refine lv_bipush (v := (-9)) hx hb dX4_find_64 (by decide) ?_
            refine lv_icmp_eq (tgt := 77) hx hb dX4_find_66 (by decide) (fun c66 => ?_) (fun c66 => ?_)
            · refine lv_bipush (v := (-9)) hx hb dX4_find_77 (by decide) ?_
              refine W.widen (k := 900) (n := 3600) (by omega) (by omega) ?_
              refine g_retci hC hS ?_ dX4_find_79
              refine Or.inr ⟨et0 ▸ ht0, et1 ▸ ht1, ?_, gt_know hE hg3 hP⟩
              unfold findV
              rw [← hcr2, ← hcd2, ← et0, ← et1]
              rw [e0, e1]
            · exact absurd rfl c66
        · rename_i e9
          have he9 := (fstN_lt e1).1
          refine g_topi (y := nI e9) ((congrArg oI (en1.trans e1)).trans rfl) ?_
          refine lv_istore (lv' := [(4, .int (nI e9)), (3, .int (nI a)), (2, .ref (d + 11)), (1, .ref (r + 11)), (0, .ref g)]) hx hb dX4_find_54 hl (by decide) rfl (fun ls hl => ?_)
          refine lv_iload_n hx hb dX4_find_56 rfl (lv_at hl 1 rfl) ?_
          refine lv_bipush (v := (-9)) hx hb dX4_find_57 (by decide) ?_
          refine lv_icmp_eq (tgt := 77) hx hb dX4_find_59 (by decide) (fun c59 => ?_) (fun c59 => ?_)
          · exact absurd c59 (nI_n9 (by omega))
          · refine lv_iload hx hb dX4_find_62 (lv_at hl 0 rfl) ?_
            refine lv_bipush (v := (-9)) hx hb dX4_find_64 (by decide) ?_
            refine lv_icmp_eq (tgt := 77) hx hb dX4_find_66 (by decide) (fun c66 => ?_) (fun c66 => ?_)
            · exact absurd c66 (nI_n9 (by omega))
            · refine lv_aload_n hx hb dX4_find_69 rfl (lv_at hl 3 rfl) ?_
              refine lv_aload_n hx hb dX4_find_70 rfl (lv_at hl 2 rfl) ?_
              refine g_cp (g_rV (As := [.ref (d + 11)]) hC hP (c_X2_fits l hP (x := r + 11) (y := d + 11) (u := t0.2.2.1) (n := t0.2.2.2) (u2 := t1.2.2.1) (n2 := t1.2.2.2) (t := t0.2.1) (t2 := t1.2.1) hg2.2.2.2.2.2.2.2.2.2.2.1 hmi0.2 hg2.2.2.2.2.2.2.2.2.2.2.2.1 hmi1.2 ok0a ok0b ok1a ok1b) hg2.2.2.2.2.2.2.2.2.2.2.1.1 rfl ⟨q2_1, q1_238, q1_239, q2_0, q1_4⟩ dd_X2_fits ⟨Nat.le_of_ble_eq_true rfl, Nat.le_of_ble_eq_true rfl, rfl, rfl⟩ hl.1 rfl (Nat.le_of_ble_eq_true rfl) dX4_find_71 ⟨Nat.le_of_ble_eq_true rfl, Nat.le_of_ble_eq_true rfl⟩) ?_
              refine W.eq (g2 := F0 m 74 ls [.int (gb (fitB t0.2.2.1 t0.2.2.2 t1.2.2.1 t1.2.2.2))]) rfl ?_
              refine lv_if_ne (tgt := 80) hx hb dX4_find_74 (by decide) (fun c74 => ?_) (fun c74 => ?_)
              · have c74 := gb_t c74
                refine lv_aload_n hx hb dX4_find_80 rfl (lv_at hl 4 rfl) ?_
                refine lv_iload_n hx hb dX4_find_81 rfl (lv_at hl 1 rfl) ?_
                refine lv_iload hx hb dX4_find_82 (lv_at hl 0 rfl) ?_
                refine g_cp (g_rV (As := [.int (nI a), .int (nI e9)]) hC hP (c_X4_balancesBefore l hP (g := g) (cr := cr2) (cd := cd2) (fr := fr) (sr := sr) (fd := fd) (sd := sd) (ar := ar) (ad := ad) (a := a) (e2 := e9) hg2 hgc (by first | assumption | omega) (by first | assumption | omega)) hg2.1 rfl ⟨q2_162, q2_159, q2_161, qs_20, q1_1⟩ dd_X4_balancesBefore ⟨Nat.le_of_ble_eq_true rfl, Nat.le_of_ble_eq_true rfl, rfl, rfl⟩ hl.1 rfl (Nat.le_of_ble_eq_true rfl) dX4_find_84 ⟨Nat.le_of_ble_eq_true rfl, Nat.le_of_ble_eq_true rfl⟩) ?_
                refine W.eq (g2 := F0 m 87 ls [.int (nI (bB cr2 cd2 a e9 (min cr2.1 (a + 1))))]) rfl ?_
                refine W.widen (k := 900) (n := 3600) (by omega) (by omega) ?_
                refine g_retci hC hS ?_ dX4_find_87
                refine Or.inr ⟨et0 ▸ ht0, et1 ▸ ht1, ?_, gt_know hE hg3 hP⟩
                unfold findV
                rw [← hcr2, ← hcd2, ← et0, ← et1]
                rw [e0, e1]
                show _ = some (Value.int (if fitV t0 t1 = true then _ else _))
                rw [if_pos (by unfold fitV; exact c74), bB_pos hgc_d ha he9]
              · have c74 := gb_f c74
                refine lv_bipush (v := (-9)) hx hb dX4_find_77 (by decide) ?_
                refine W.widen (k := 900) (n := 3600) (by omega) (by omega) ?_
                refine g_retci hC hS ?_ dX4_find_79
                refine Or.inr ⟨et0 ▸ ht0, et1 ▸ ht1, ?_, gt_know hE hg3 hP⟩
                unfold findV
                rw [← hcr2, ← hcd2, ← et0, ← et1]
                rw [e0, e1]
                show _ = some (Value.int (if fitV t0 t1 = true then _ else _))
                rw [if_neg (by unfold fitV; rw [c74]; decide)]
