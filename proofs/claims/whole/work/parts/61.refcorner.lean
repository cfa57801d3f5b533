/-! ===== the reference: corners, corner, balances ===== -/
theorem crR_oth {I I2 : gI} {J J2 : gJ} {h : Nat} {c : CL} (hc : crR I J h 0 c) (h69 : c.1 ≤ 69) (f : fcF I J I2 J2 h 1) : crR I2 J2 h 0 c := by
  refine ⟨(f.2.2.1 0 (by decide)).trans hc.1, fun j hj => ?_⟩
  obtain ⟨a, b, d⟩ := hc.2 j hj
  obtain ⟨r1, r2, r3, r4⟩ := f.2.2.2 (80 * 0 + j) (Or.inl (by omega))
  exact ⟨rdV_cg a (fun k hk => r4 k hk) r3, r1.trans b, r2.trans d⟩
theorem gsC_b {st : GS} (hm : 1 ≤ gsm st ∧ gsm st ≤ 4) (hn : 1 ≤ gsn st ∧ gsn st ≤ 4) : ((gsCr st).1 ≤ 69 ∧ (gsCd st).1 ≤ 69) ∧ cOK (gsCr st) ∧ cOK (gsCd st) := ⟨⟨sU_le69 (pow1_lt hn.2) (pow1_lt hm.2), sU_le69 (pow1_lt hm.2) (pow1_lt hn.2)⟩, sU_ok hn.2 _, sU_ok hm.2 _⟩
theorem gsC_LG {st : GS} (hm : 1 ≤ gsm st ∧ gsm st ≤ 4) (hn : 1 ≤ gsn st ∧ gsn st ≤ 4) (h0 : bdP (gsP0 st)) (h1 : bdP (gsP1 st)) : LG (gsP1 st) (gsn st) (gsm st) (gsCr st) ∧ LG (gsP0 st) (gsm st) (gsn st) (gsCd st) := by
  have p1 := pow16 hm.2
  have p2 := pow16 hn.2
  exact ⟨LG_U h1 hm.2 _ (by omega), LG_U h0 hn.2 _ (by omega)⟩
theorem inL_C {x : Int32} {n : Nat} (h : n ≤ 69) : inL x.toInt64 0 (nI n - nI 1).toInt64 = inR x n := by
  have a2 := nI_toInt (n := n) (by omega)
  have a3 : (nI n - nI 1).toInt = (n : Int) - 1 := by
    rw [Int32.toInt_sub, a2, i32_20.2.2.2]
    exact Int.bmod_eq_of_le (by omega) (by omega)
  unfold inL inR
  congr 1
  · simp only [Int64.le_iff_toInt_le, Int32.le_iff_toInt_le, Int32.toInt_toInt64, i64_20.2.2, i32_20.2.2.1]
  · simp only [Int64.le_iff_toInt_le, Int32.lt_iff_toInt_lt, Int32.toInt_toInt64, a3, a2]
    apply decide_eq_decide.mpr
    omega
theorem gcdN_sc {X Y x y : Int64} {D : Int} (hD : 0 < D) (hx : X.toInt = D * x.toInt) (hy : Y.toInt = D * y.toInt) : (gcdN X Y : Int) = D * (gcdN x y : Int) := by
  unfold gcdN
  rw [hx, hy, Int.natAbs_mul, Int.natAbs_mul, Nat.gcd_mul_left, Int.natCast_mul]
  congr 1
  omega
theorem div_sc {X Y x y : Int64} {D : Int} (hD : 0 < D) (hx : X.toInt = D * x.toInt) (hy : Y.toInt = D * y.toInt) (h0 : 0 < y.toInt) : X / gcdL X Y = x / gcdL x y ∧ Y / gcdL X Y = y / gcdL x y := by
  have h1 : 0 < Y.toInt := by rw [hy]; exact Int.mul_pos hD h0
  have e := gcdN_sc hD hx hy
  constructor <;> apply Int64.toInt_inj.mp
  · rw [Int64.toInt_div, Int64.toInt_div, gcdL_I h1, gcdL_I h0, e, hx, Int.mul_tdiv_mul_of_pos _ _ hD]
  · rw [Int64.toInt_div, Int64.toInt_div, gcdL_I h1, gcdL_I h0, e, hy, Int.mul_tdiv_mul_of_pos _ _ hD]
theorem low_sc {X Y x y : Int64} {D : Int} {f : Int32} (hD : 0 < D) (hx : X.toInt = D * x.toInt) (hy : Y.toInt = D * y.toInt) (h0 : 0 < y.toInt) (ht : -4611686018427387904 ≤ X.toInt) (hp : X.toInt.natAbs * Y.toInt.natAbs < 2 ^ 99) : lowS X Y f = if f = 0 then x / gcdL x y else y / gcdL x y := by
  have h1 : 0 < Y.toInt := by rw [hy]; exact Int.mul_pos hD h0
  rw [low_gcd h1 ht hp, (div_sc hD hx hy h0).1, (div_sc hD hx hy h0).2]
theorem low_rd {v : MixV} {S : Nat → Int64} {t : Int64} {b : Nat} {f : Int32} (hv : vG v) (hr : rdV v S t) (hb : b < 4) : lowS (v.1 b) v.2.1 f = if f = 0 then S b / gcdL (S b) t else t / gcdL (S b) t := by
  have tv := vG_t hv
  have pv := hv.1 b hb
  have rb := rd_b hv hr
  obtain ⟨D, hD, h1, h2⟩ := hr
  refine low_sc hD (h1 b hb) h2 rb.2.1 (by omega) ?_
  have q1 : (v.1 b).toInt.natAbs ≤ 384000 := by omega
  have q2 : v.2.1.toInt.natAbs ≤ 1536000 := by omega
  exact Nat.lt_of_le_of_lt (Nat.mul_le_mul q1 q2) (by decide)
theorem fit_and {u1 n1 u2 n2 : Nat} (h1 : u1 < 16) (h2 : n1 < 16) (h3 : u2 < 16) (h4 : n2 < 16) : fitB u1 n1 u2 n2 = (decide (u1 &&& n2 = u1) && decide (u2 &&& n1 = u2)) := by
  unfold fitB
  congr 1 <;> apply decide_eq_decide.mpr
  · rw [Nat.and_comm u1 n2, and_sub h4 h1]
  · rw [Nat.and_comm u2 n1, and_sub h2 h3]
set_option maxHeartbeats 4000000 in
set_option maxRecDepth 100000 in
theorem c_X5_corners (l : Launch) {G : gG} {T : gTy} {I : gI} {J : gJ} {Q : gR} {O : gO} {H : Heap} (hP : gP G T I J Q O H) {h : Nat} {st : GS} {q : Int32} (hm : isMo T O h) (hs0 : moS I h st) (hbd0 : bdP (gsP0 st)) (hbd1 : bdP (gsP1 st)) : Met l yX5_corners (gw yX5_corners cX5_corners 2 (some (.int))) ({ frames := 4, cells := 0, slots := 0, locals := 103 } : Room) (gPc G H [.ref h, .int q]) (gQc (gF T H) (fun x H1 => rCorners st (fun x1 s1 => x = some (.int x1) ∧ moR G T h s1 H1) q)) 0 0 (gF T H) := by
  refine g_met [(0, .ref h), (1, .int q)] (by decide) rfl (by exact Nat.le_of_ble_eq_true rfl) ?_
  intro p e s m below meth c hC hs ls hl
  have hx := hC.1.1
  have hb := hC.1.2.1
  have hS : va_S (gF T H) s.heap H [] := hs ▸ va_S.rf
  have hTA : ∀ q, (T q).1 ≠ 0 → gF T H q := fun q h => Or.inl h
  have hA : ∀ q, s.heap.size ≤ q → gF T H q := fun q h => Or.inr (hs ▸ h)
  generalize hAe : gF T H = A at hS hTA hA ⊢
  have hms := hs0.1
  have hns := hs0.2.1
  have hcb := gsC_b hms hns
  refine lv_iload_n hx hb dX5_corners_0 rfl (lv_at hl 1 rfl) ?_
  refine g_cp (g_rS (As := [.int q]) hC (c_X5_isWho l (q := q)) ⟨q3_78, q3_76, q3_77, q1_6⟩ dd_X5_isWho ⟨Nat.le_of_ble_eq_true rfl, Nat.le_of_ble_eq_true rfl, rfl, rfl⟩ hl.1 rfl (Nat.le_of_ble_eq_true rfl) dX5_corners_1 ⟨Nat.le_of_ble_eq_true rfl, Nat.le_of_ble_eq_true rfl⟩) ?_
  refine W.eq (g2 := F0 m 4 ls [.int (gb (isW q))]) rfl ?_
  refine lv_if_ne (tgt := 13) hx hb dX5_corners_4 (by decide) (fun c4 => ?_) (fun c4 => ?_)
  · have c4 := gb_t c4
    rcases isW_c c4 with rfl | rfl
    · refine lv_aload_n hx hb dX5_corners_13 rfl (lv_at hl 0 rfl) ?_
      refine lv_iload_n hx hb dX5_corners_14 rfl (lv_at hl 1 rfl) ?_
      refine g_cc (g_rV (As := [.int (nI 0)]) hC hP (c_X5_findCorners_0 l hP (h := h) (by first | assumption | omega) (by first | assumption | omega) (by first | assumption | omega) (by first | assumption | omega)) hm.1 rfl ⟨q3_187, q3_184, q3_186, qs_38, q1_6⟩ dd_X5_findCorners ⟨Nat.le_of_ble_eq_true rfl, Nat.le_of_ble_eq_true rfl, rfl, rfl⟩ hl.1 rfl (Nat.le_of_ble_eq_true rfl) dX5_corners_15 ⟨Nat.le_of_ble_eq_true rfl, Nat.le_of_ble_eq_true rfl⟩) hS (fun q h => h.elim (hTA q) (fun z => hA q (Nat.le_trans hS.1 z))) (fun r5 H1 locs2 hq6 hS hz3 hfr4 => ?_)
      obtain ⟨rfl, I7, J8, hP, hcr0, hf0⟩ := hq6
      have hsn0 : moS I7 h st := moS_fc hs0 hf0
      refine W.eq (g2 := F0 m 18 ls []) rfl ?_
      refine lv_aload_n hx hb dX5_corners_18 rfl (lv_at hl 0 rfl) ?_
      refine g_get hC hP hm.1 rfl inX5 9 (by decide) q3_15 hm.2.2.2.2.2.2.2.1.1 dX5_corners_19 ?_
      refine lv_iload_n hx hb dX5_corners_22 rfl (lv_at hl 1 rfl) ?_
      refine g_iald hC hP hm.2.2.2.2.2.2.2.1.2 (vp_in_nI (by omega) (by decide)) dX5_corners_23 ?_
      refine g_topi (y := nI ((gsCr st).1)) hcr0.1 ?_
      refine g_retci hC hS ?_ dX5_corners_24
      exact Or.inr (Or.inl ⟨rfl, rfl, mo_same hm hsn0 hP⟩)
    · refine lv_aload_n hx hb dX5_corners_13 rfl (lv_at hl 0 rfl) ?_
      refine lv_iload_n hx hb dX5_corners_14 rfl (lv_at hl 1 rfl) ?_
      refine g_cc (g_rV (As := [.int (nI 1)]) hC hP (c_X5_findCorners_1 l hP (h := h) (by first | assumption | omega) (by first | assumption | omega) (by first | assumption | omega) (by first | assumption | omega)) hm.1 rfl ⟨q3_187, q3_184, q3_186, qs_38, q1_6⟩ dd_X5_findCorners ⟨Nat.le_of_ble_eq_true rfl, Nat.le_of_ble_eq_true rfl, rfl, rfl⟩ hl.1 rfl (Nat.le_of_ble_eq_true rfl) dX5_corners_15 ⟨Nat.le_of_ble_eq_true rfl, Nat.le_of_ble_eq_true rfl⟩) hS (fun q h => h.elim (hTA q) (fun z => hA q (Nat.le_trans hS.1 z))) (fun r13 H9 locs10 hq14 hS hz11 hfr12 => ?_)
      obtain ⟨rfl, I15, J16, hP, hcr1, hf1⟩ := hq14
      have hsn1 : moS I15 h st := moS_fc hs0 hf1
      refine W.eq (g2 := F0 m 18 ls []) rfl ?_
      refine lv_aload_n hx hb dX5_corners_18 rfl (lv_at hl 0 rfl) ?_
      refine g_get hC hP hm.1 rfl inX5 9 (by decide) q3_15 hm.2.2.2.2.2.2.2.1.1 dX5_corners_19 ?_
      refine lv_iload_n hx hb dX5_corners_22 rfl (lv_at hl 1 rfl) ?_
      refine g_iald hC hP hm.2.2.2.2.2.2.2.1.2 (vp_in_nI (by omega) (by decide)) dX5_corners_23 ?_
      refine g_topi (y := nI ((gsCd st).1)) hcr1.1 ?_
      refine g_retci hC hS ?_ dX5_corners_24
      exact Or.inr (Or.inr ⟨rfl, rfl, mo_same hm hsn1 hP⟩)
  · have c4 := gb_f c4
    refine lv_aload_n hx hb dX5_corners_7 rfl (lv_at hl 0 rfl) ?_
    refine lv_iconst (v := (-1)) hx hb dX5_corners_8 (by decide) ?_
    refine g_cc (g_rV (As := [.int (-1 : Int32)]) hC hP (c_X5_refuse l hP (h := h) (q := (-1 : Int32)) (j := 1) (by first | assumption | omega) (by decide) (by omega)) hm.1 rfl ⟨q3_71, q3_68, q3_70, qs_25, q1_6⟩ dd_X5_refuse ⟨Nat.le_of_ble_eq_true rfl, Nat.le_of_ble_eq_true rfl, rfl, rfl⟩ hl.1 rfl (Nat.le_of_ble_eq_true rfl) dX5_corners_9 ⟨Nat.le_of_ble_eq_true rfl, Nat.le_of_ble_eq_true rfl⟩) hS (fun q h => h.elim (hTA q) (fun z => hA q (Nat.le_trans hS.1 z))) (fun r21 H17 locs18 hq22 hS hz19 hfr20 => ?_)
    obtain ⟨rfl, hP⟩ := hq22
    obtain ⟨I23, hI23, hP⟩ : ∃ I23 : gI, I23 = au I (h + 4) 1 (I (h + 4) 1 + 1) ∧ gP G T I23 J Q O H17 := ⟨_, rfl, hP⟩
    refine W.eq (g2 := F0 m 12 ls [.int (-1 : Int32)]) rfl ?_
    refine g_retci hC hS ?_ dX5_corners_12
    exact Or.inl ⟨c4, rfl, mo_ref hm hs0 (j := 1) (by decide) hI23 hP⟩
theorem co_out {f : Int32} (h0 : ¬ f = 0) (h1 : ¬ f = nI 1) (h2 : ¬ f = nI 2) : f < nI 0 ∨ nI 2 < f := by
  have e0 : (nI 0).toInt = 0 := by decide
  have e2 : (nI 2).toInt = 2 := by decide
  rw [← Int32.toInt_inj] at h0 h1 h2
  rw [i32_20.2.2.1] at h0
  rw [i32_20.2.2.2] at h1
  rw [e2] at h2
  rw [Int32.lt_iff_toInt_lt, Int32.lt_iff_toInt_lt, e0, e2]
  omega
set_option maxHeartbeats 4000000 in
set_option maxRecDepth 100000 in
theorem c_X5_corner (l : Launch) {G : gG} {T : gTy} {I : gI} {J : gJ} {Q : gR} {O : gO} {H : Heap} (hP : gP G T I J Q O H) {h : Nat} {st : GS} {q cc j f : Int32} (hm : isMo T O h) (hs0 : moS I h st) (hbd0 : bdP (gsP0 st)) (hbd1 : bdP (gsP1 st)) : Met l yX5_corner (gw yX5_corner cX5_corner 8 (some (.int))) ({ frames := 4, cells := 0, slots := 0, locals := 103 } : Room) (gPc G H [.ref h, .int q, .int cc, .int j, .int f]) (gQc (gF T H) (fun x H1 => rCorner st (fun x1 s1 => x = some (.int x1) ∧ moR G T h s1 H1) q cc j f)) 0 0 (gF T H) := by
  refine g_met [(0, .ref h), (1, .int q), (2, .int cc), (3, .int j), (4, .int f)] (by decide) rfl (by exact Nat.le_of_ble_eq_true rfl) ?_
  intro p e s m below meth c hC hs ls hl
  have hx := hC.1.1
  have hb := hC.1.2.1
  have hS : va_S (gF T H) s.heap H [] := hs ▸ va_S.rf
  have hTA : ∀ q, (T q).1 ≠ 0 → gF T H q := fun q h => Or.inl h
  have hA : ∀ q, s.heap.size ≤ q → gF T H q := fun q h => Or.inr (hs ▸ h)
  generalize hAe : gF T H = A at hS hTA hA ⊢
  have hms := hs0.1
  have hns := hs0.2.1
  have hcb := gsC_b hms hns
  have hlg := gsC_LG hms hns hbd0 hbd1
  refine lv_aload_n hx hb dX5_corner_0 rfl (lv_at hl 0 rfl) ?_
  refine lv_iload_n hx hb dX5_corner_1 rfl (lv_at hl 1 rfl) ?_
  refine lv_iload_n hx hb dX5_corner_2 rfl (lv_at hl 3 rfl) ?_
  refine g_cp (g_rV (As := [.int q, .int j]) hC hP (c_X5_isChoice l hP (h := h) (q := q) (k := j) (by first | assumption | omega) (by first | assumption | omega)) hm.1 rfl ⟨q3_82, q3_79, q3_81, qs_26, q1_6⟩ dd_X5_isChoice ⟨Nat.le_of_ble_eq_true rfl, Nat.le_of_ble_eq_true rfl, rfl, rfl⟩ hl.1 rfl (Nat.le_of_ble_eq_true rfl) dX5_corner_3 ⟨Nat.le_of_ble_eq_true rfl, Nat.le_of_ble_eq_true rfl⟩) ?_
  refine W.eq (g2 := F0 m 6 ls [.int (gb (isW q && inR j (if q = nI 0 then gsm st else gsn st)))]) rfl ?_
  refine lv_if_ne (tgt := 15) hx hb dX5_corner_6 (by decide) (fun c6 => ?_) (fun c6 => ?_)
  · have c6 := gb_t c6
    have c4 := ch_t c6
    rcases isW_c c4 with rfl | rfl
    · have c16 : inR j (gsm st) = true := (Bool.and_eq_true_iff.mp c6).2
      obtain ⟨b, hbq, rfl⟩ := inR_nI (by omega) c16
      refine lv_aload_n hx hb dX5_corner_15 rfl (lv_at hl 0 rfl) ?_
      refine lv_iload_n hx hb dX5_corner_16 rfl (lv_at hl 1 rfl) ?_
      refine g_cc (g_rV (As := [.int (nI 0)]) hC hP (c_X5_findCorners_0 l hP (h := h) (by first | assumption | omega) (by first | assumption | omega) (by first | assumption | omega) (by first | assumption | omega)) hm.1 rfl ⟨q3_187, q3_184, q3_186, qs_38, q1_6⟩ dd_X5_findCorners ⟨Nat.le_of_ble_eq_true rfl, Nat.le_of_ble_eq_true rfl, rfl, rfl⟩ hl.1 rfl (Nat.le_of_ble_eq_true rfl) dX5_corner_17 ⟨Nat.le_of_ble_eq_true rfl, Nat.le_of_ble_eq_true rfl⟩) hS (fun q h => h.elim (hTA q) (fun z => hA q (Nat.le_trans hS.1 z))) (fun r5 H1 locs2 hq6 hS hz3 hfr4 => ?_)
      obtain ⟨rfl, I7, J8, hP, hcr0, hf0⟩ := hq6
      have hsn0 : moS I7 h st := moS_fc hs0 hf0
      refine W.eq (g2 := F0 m 20 ls []) rfl ?_
      refine lv_iload_n hx hb dX5_corner_20 rfl (lv_at hl 2 rfl) ?_
      refine lv_i2l hx hb dX5_corner_21 rfl ?_
      refine lv_lconst (v := 0) hx hb dX5_corner_22 (by decide) ?_
      refine lv_aload_n hx hb dX5_corner_23 rfl (lv_at hl 0 rfl) ?_
      refine g_get hC hP hm.1 rfl inX5 9 (by decide) q3_15 hm.2.2.2.2.2.2.2.1.1 dX5_corner_24 ?_
      refine lv_iload_n hx hb dX5_corner_27 rfl (lv_at hl 1 rfl) ?_
      refine g_iald hC hP hm.2.2.2.2.2.2.2.1.2 (vp_in_nI (by omega) (by decide)) dX5_corner_28 ?_
      refine g_topi (y := nI ((gsCr st).1)) hcr0.1 ?_
      refine lv_iconst (v := nI 1) hx hb dX5_corner_29 (by decide) ?_
      refine lv_isub hx hb dX5_corner_30 ?_
      refine g_topi (y := nI (gsCr st).1 - nI 1) rfl ?_
      refine lv_i2l hx hb dX5_corner_31 rfl ?_
      refine g_cp (g_rS (As := [.long cc.toInt64, .long (0 : Int64), .long ((nI (gsCr st).1 - nI 1).toInt64)]) hC (c_X5_in l (a := cc.toInt64) (b2 := (0 : Int64)) (d2 := (nI (gsCr st).1 - nI 1).toInt64)) ⟨q3_85, q3_83, q3_84, q1_6⟩ dd_X5_in ⟨Nat.le_of_ble_eq_true rfl, Nat.le_of_ble_eq_true rfl, rfl, rfl⟩ hl.1 rfl (Nat.le_of_ble_eq_true rfl) dX5_corner_32 ⟨Nat.le_of_ble_eq_true rfl, Nat.le_of_ble_eq_true rfl⟩) ?_
      refine W.eq (g2 := F0 m 35 ls [.int (gb (inL cc.toInt64 (0 : Int64) ((nI (gsCr st).1 - nI 1).toInt64)))]) rfl ?_
      refine g_topi (y := gb (inR cc (gsCr st).1)) (congrArg gb (inL_C hcb.1.1)) ?_
      refine lv_if_ne (tgt := 44) hx hb dX5_corner_35 (by decide) (fun c35 => ?_) (fun c35 => ?_)
      · have c35 := gb_t c35
        obtain ⟨a, ha9, rfl⟩ := inR_nI (by omega) c35
        have hvg := (hlg.1.2 a ha9).1
        have hr := (hcr0.2 a ha9).1
        have rb := rd_b hvg hr
        have rbb := rb.1 b (by omega)
        refine lv_bipush (v := nI 80) hx hb dX5_corner_44 (by decide) ?_
        refine lv_iload_n hx hb dX5_corner_46 rfl (lv_at hl 1 rfl) ?_
        refine lv_imul hx hb dX5_corner_47 ?_
        refine g_topi (y := nI (80 * 0)) (nI_mul _ _) ?_
        refine lv_iload_n hx hb dX5_corner_48 rfl (lv_at hl 2 rfl) ?_
        refine lv_iadd hx hb dX5_corner_49 ?_
        refine g_topi (y := nI (80 * 0 + a)) (nI_add _ _) ?_
        refine lv_istore (lv' := [(5, .int (nI (80 * 0 + a))), (0, .ref h), (1, .int (nI 0)), (2, .int (nI a)), (3, .int (nI b)), (4, .int f)]) hx hb dX5_corner_50 hl (by decide) rfl (fun ls hl => ?_)
        refine lv_aload_n hx hb dX5_corner_52 rfl (lv_at hl 1 rfl) ?_
        refine g_get hC hP hm.1 rfl inX5 10 (by decide) q3_16 hm.2.2.2.2.2.2.2.2.1.1 dX5_corner_53 ?_
        refine lv_iconst (v := nI 4) hx hb dX5_corner_56 (by decide) ?_
        refine lv_iload hx hb dX5_corner_57 (lv_at hl 0 rfl) ?_
        refine lv_imul hx hb dX5_corner_59 ?_
        refine g_topi (y := nI (4 * (80 * 0 + a))) (nI_mul _ _) ?_
        refine lv_iload_n hx hb dX5_corner_60 rfl (lv_at hl 4 rfl) ?_
        refine lv_iadd hx hb dX5_corner_61 ?_
        refine g_topi (y := nI (4 * (80 * 0 + a) + b)) (nI_add _ _) ?_
        refine g_lald hC hP hm.2.2.2.2.2.2.2.2.1.2 (vp_in_nI (by omega) (by decide)) dX5_corner_62 ?_
        refine g_topl (y := J8 (h + 8) (4 * (80 * 0 + a) + b)) (congrArg (J8 (h + 8)) (nI_clamp (by omega))) ?_
        refine lv_aload_n hx hb dX5_corner_63 rfl (lv_at hl 1 rfl) ?_
        refine g_get hC hP hm.1 rfl inX5 11 (by decide) q3_17 hm.2.2.2.2.2.2.2.2.2.1.1 dX5_corner_64 ?_
        refine lv_iload hx hb dX5_corner_67 (lv_at hl 0 rfl) ?_
        refine g_lald hC hP hm.2.2.2.2.2.2.2.2.2.1.2 (vp_in_nI (by omega) (by decide)) dX5_corner_69 ?_
        refine g_topl (y := J8 (h + 9) (80 * 0 + a)) (congrArg (J8 (h + 9)) (nI_clamp (by omega))) ?_
        refine g_cp (g_rS (As := [.long (J8 (h + 8) (4 * (80 * 0 + a) + b)), .long (J8 (h + 9) (80 * 0 + a))]) hC (c_X5_common l (a := J8 (h + 8) (4 * (80 * 0 + a) + b)) (b2 := J8 (h + 9) (80 * 0 + a)) (by omega) (by omega)) ⟨q3_123, q3_121, q3_122, q1_6⟩ dd_X5_common ⟨Nat.le_of_ble_eq_true rfl, Nat.le_of_ble_eq_true rfl, rfl, rfl⟩ hl.1 rfl (Nat.le_of_ble_eq_true rfl) dX5_corner_70 ⟨Nat.le_of_ble_eq_true rfl, Nat.le_of_ble_eq_true rfl⟩) ?_
        refine W.eq (g2 := F0 m 73 ls [.long (gcdL (J8 (h + 8) (4 * (80 * 0 + a) + b)) (J8 (h + 9) (80 * 0 + a)))]) rfl ?_
        refine lv_lstore (lv' := [(6, .long (gcdL (J8 (h + 8) (4 * (80 * 0 + a) + b)) (J8 (h + 9) (80 * 0 + a)))), (5, .int (nI (80 * 0 + a))), (0, .ref h), (1, .int (nI 0)), (2, .int (nI a)), (3, .int (nI b)), (4, .int f)]) hx hb dX5_corner_73 hl (by decide) rfl (fun ls hl => ?_)
        refine lv_iload hx hb dX5_corner_75 (lv_at hl 6 rfl) ?_
        refine lv_if_ne (tgt := 98) hx hb dX5_corner_77 (by decide) (fun c77 => ?_) (fun c77 => ?_)
        · refine lv_iload hx hb dX5_corner_98 (lv_at hl 6 rfl) ?_
          refine lv_iconst (v := nI 1) hx hb dX5_corner_100 (by decide) ?_
          refine lv_icmp_ne (tgt := 118) hx hb dX5_corner_101 (by decide) (fun c101 => ?_) (fun c101 => ?_)
          · refine lv_iload hx hb dX5_corner_118 (lv_at hl 6 rfl) ?_
            refine lv_iconst (v := nI 2) hx hb dX5_corner_120 (by decide) ?_
            refine lv_icmp_ne (tgt := 134) hx hb dX5_corner_121 (by decide) (fun c121 => ?_) (fun c121 => ?_)
            · refine lv_aload_n hx hb dX5_corner_134 rfl (lv_at hl 2 rfl) ?_
              refine lv_bipush (v := (-2)) hx hb dX5_corner_135 (by decide) ?_
              refine g_cc (g_rV (As := [.int (-2 : Int32)]) hC hP (c_X5_refuse l hP (h := h) (q := (-2 : Int32)) (j := 2) (by first | assumption | omega) (by decide) (by omega)) hm.1 rfl ⟨q3_71, q3_68, q3_70, qs_25, q1_6⟩ dd_X5_refuse ⟨Nat.le_of_ble_eq_true rfl, Nat.le_of_ble_eq_true rfl, rfl, rfl⟩ hl.1 rfl (Nat.le_of_ble_eq_true rfl) dX5_corner_137 ⟨Nat.le_of_ble_eq_true rfl, Nat.le_of_ble_eq_true rfl⟩) hS (fun q h => h.elim (hTA q) (fun z => hA q (Nat.le_trans hS.1 z))) (fun r13 H9 locs10 hq14 hS hz11 hfr12 => ?_)
              obtain ⟨rfl, hP⟩ := hq14
              obtain ⟨I15, hI15, hP⟩ : ∃ I15 : gI, I15 = au I7 (h + 4) 2 (I7 (h + 4) 2 + 1) ∧ gP G T I15 J8 Q O H9 := ⟨_, rfl, hP⟩
              refine W.eq (g2 := F0 m 140 ls [.int (-2 : Int32)]) rfl ?_
              refine g_retci hC hS ?_ dX5_corner_140
              refine Or.inr ⟨b, rfl, Or.inl ⟨rfl, hbq, ?_⟩⟩
              refine Or.inr (Or.inl ⟨c35, ?_, rfl, mo_ref hm hsn0 (j := 2) (by decide) hI15 hP⟩)
              exact co_out c77 c101 c121
            · refine lv_aload_n hx hb dX5_corner_124 rfl (lv_at hl 2 rfl) ?_
              refine g_get hC hP hm.1 rfl inX5 13 (by decide) q3_19 hm.2.2.2.2.2.2.2.2.2.2.2.1.1 dX5_corner_125 ?_
              refine lv_iload hx hb dX5_corner_128 (lv_at hl 1 rfl) ?_
              refine g_iald hC hP hm.2.2.2.2.2.2.2.2.2.2.2.1.2 (vp_in_nI (by omega) (by decide)) dX5_corner_130 ?_
              refine g_topi (y := nI (((gsCr st).2 a).2.2.2)) ((congrArg (I7 (h + 11)) (nI_clamp (by omega))).trans (hcr0.2 a ha9).2.2) ?_
              refine lv_goto (tgt := 140) hx hb dX5_corner_131 (by decide) ?_
              refine g_retci hC hS ?_ dX5_corner_140
              refine Or.inr ⟨b, rfl, Or.inl ⟨rfl, hbq, ?_⟩⟩
              refine Or.inr (Or.inr ⟨a, ha9, rfl, by rw [c121]; decide, by rw [c121]; decide, Or.inl ⟨c121, rfl, mo_same hm hsn0 hP⟩⟩)
          · refine lv_aload_n hx hb dX5_corner_104 rfl (lv_at hl 2 rfl) ?_
            refine g_get hC hP hm.1 rfl inX5 11 (by decide) q3_17 hm.2.2.2.2.2.2.2.2.2.1.1 dX5_corner_105 ?_
            refine lv_iload hx hb dX5_corner_108 (lv_at hl 1 rfl) ?_
            refine g_lald hC hP hm.2.2.2.2.2.2.2.2.2.1.2 (vp_in_nI (by omega) (by decide)) dX5_corner_110 ?_
            refine g_topl (y := J8 (h + 9) (80 * 0 + a)) (congrArg (J8 (h + 9)) (nI_clamp (by omega))) ?_
            refine lv_lload hx hb dX5_corner_111 (lv_at hl 0 rfl) ?_
            refine lv_ldiv hx hb dX5_corner_113 (gcdL_ne rb.2.1) ?_
            refine lv_l2i hx hb dX5_corner_114 rfl ?_
            refine lv_goto (tgt := 140) hx hb dX5_corner_115 (by decide) ?_
            refine g_retci hC hS ?_ dX5_corner_140
            refine Or.inr ⟨b, rfl, Or.inl ⟨rfl, hbq, ?_⟩⟩
            refine Or.inr (Or.inr ⟨a, ha9, rfl, by rw [c101]; decide, by rw [c101]; decide, Or.inr ⟨by rw [c101]; decide, ?_, mo_same hm hsn0 hP⟩⟩)
            rw [low_rd hvg hr (by omega), if_neg c77]
        · refine lv_aload_n hx hb dX5_corner_80 rfl (lv_at hl 2 rfl) ?_
          refine g_get hC hP hm.1 rfl inX5 10 (by decide) q3_16 hm.2.2.2.2.2.2.2.2.1.1 dX5_corner_81 ?_
          refine lv_iconst (v := nI 4) hx hb dX5_corner_84 (by decide) ?_
          refine lv_iload hx hb dX5_corner_85 (lv_at hl 1 rfl) ?_
          refine lv_imul hx hb dX5_corner_87 ?_
          refine g_topi (y := nI (4 * (80 * 0 + a))) (nI_mul _ _) ?_
          refine lv_iload_n hx hb dX5_corner_88 rfl (lv_at hl 5 rfl) ?_
          refine lv_iadd hx hb dX5_corner_89 ?_
          refine g_topi (y := nI (4 * (80 * 0 + a) + b)) (nI_add _ _) ?_
          refine g_lald hC hP hm.2.2.2.2.2.2.2.2.1.2 (vp_in_nI (by omega) (by decide)) dX5_corner_90 ?_
          refine g_topl (y := J8 (h + 8) (4 * (80 * 0 + a) + b)) (congrArg (J8 (h + 8)) (nI_clamp (by omega))) ?_
          refine lv_lload hx hb dX5_corner_91 (lv_at hl 0 rfl) ?_
          refine lv_ldiv hx hb dX5_corner_93 (gcdL_ne rb.2.1) ?_
          refine lv_l2i hx hb dX5_corner_94 rfl ?_
          refine lv_goto (tgt := 140) hx hb dX5_corner_95 (by decide) ?_
          refine g_retci hC hS ?_ dX5_corner_140
          refine Or.inr ⟨b, rfl, Or.inl ⟨rfl, hbq, ?_⟩⟩
          refine Or.inr (Or.inr ⟨a, ha9, rfl, by rw [c77]; decide, by rw [c77]; decide, Or.inr ⟨by rw [c77]; decide, ?_, mo_same hm hsn0 hP⟩⟩)
          rw [low_rd hvg hr (by omega), if_pos c77]
      · have c35 := gb_f c35
        refine lv_aload_n hx hb dX5_corner_38 rfl (lv_at hl 0 rfl) ?_
        refine lv_iconst (v := (-1)) hx hb dX5_corner_39 (by decide) ?_
        refine g_cc (g_rV (As := [.int (-1 : Int32)]) hC hP (c_X5_refuse l hP (h := h) (q := (-1 : Int32)) (j := 1) (by first | assumption | omega) (by decide) (by omega)) hm.1 rfl ⟨q3_71, q3_68, q3_70, qs_25, q1_6⟩ dd_X5_refuse ⟨Nat.le_of_ble_eq_true rfl, Nat.le_of_ble_eq_true rfl, rfl, rfl⟩ hl.1 rfl (Nat.le_of_ble_eq_true rfl) dX5_corner_40 ⟨Nat.le_of_ble_eq_true rfl, Nat.le_of_ble_eq_true rfl⟩) hS (fun q h => h.elim (hTA q) (fun z => hA q (Nat.le_trans hS.1 z))) (fun r20 H16 locs17 hq21 hS hz18 hfr19 => ?_)
        obtain ⟨rfl, hP⟩ := hq21
        obtain ⟨I22, hI22, hP⟩ : ∃ I22 : gI, I22 = au I7 (h + 4) 1 (I7 (h + 4) 1 + 1) ∧ gP G T I22 J8 Q O H16 := ⟨_, rfl, hP⟩
        refine W.eq (g2 := F0 m 43 ls [.int (-1 : Int32)]) rfl ?_
        refine g_retci hC hS ?_ dX5_corner_43
        refine Or.inr ⟨b, rfl, Or.inl ⟨rfl, hbq, ?_⟩⟩
        exact Or.inl ⟨c35, rfl, mo_ref hm hsn0 (j := 1) (by decide) hI22 hP⟩
    · have c16 : inR j (gsn st) = true := (Bool.and_eq_true_iff.mp c6).2
      obtain ⟨b, hbq, rfl⟩ := inR_nI (by omega) c16
      refine lv_aload_n hx hb dX5_corner_15 rfl (lv_at hl 0 rfl) ?_
      refine lv_iload_n hx hb dX5_corner_16 rfl (lv_at hl 1 rfl) ?_
      refine g_cc (g_rV (As := [.int (nI 1)]) hC hP (c_X5_findCorners_1 l hP (h := h) (by first | assumption | omega) (by first | assumption | omega) (by first | assumption | omega) (by first | assumption | omega)) hm.1 rfl ⟨q3_187, q3_184, q3_186, qs_38, q1_6⟩ dd_X5_findCorners ⟨Nat.le_of_ble_eq_true rfl, Nat.le_of_ble_eq_true rfl, rfl, rfl⟩ hl.1 rfl (Nat.le_of_ble_eq_true rfl) dX5_corner_17 ⟨Nat.le_of_ble_eq_true rfl, Nat.le_of_ble_eq_true rfl⟩) hS (fun q h => h.elim (hTA q) (fun z => hA q (Nat.le_trans hS.1 z))) (fun r27 H23 locs24 hq28 hS hz25 hfr26 => ?_)
      obtain ⟨rfl, I29, J30, hP, hcr1, hf1⟩ := hq28
      have hsn1 : moS I29 h st := moS_fc hs0 hf1
      refine W.eq (g2 := F0 m 20 ls []) rfl ?_
      refine lv_iload_n hx hb dX5_corner_20 rfl (lv_at hl 2 rfl) ?_
      refine lv_i2l hx hb dX5_corner_21 rfl ?_
      refine lv_lconst (v := 0) hx hb dX5_corner_22 (by decide) ?_
      refine lv_aload_n hx hb dX5_corner_23 rfl (lv_at hl 0 rfl) ?_
      refine g_get hC hP hm.1 rfl inX5 9 (by decide) q3_15 hm.2.2.2.2.2.2.2.1.1 dX5_corner_24 ?_
      refine lv_iload_n hx hb dX5_corner_27 rfl (lv_at hl 1 rfl) ?_
      refine g_iald hC hP hm.2.2.2.2.2.2.2.1.2 (vp_in_nI (by omega) (by decide)) dX5_corner_28 ?_
      refine g_topi (y := nI ((gsCd st).1)) hcr1.1 ?_
      refine lv_iconst (v := nI 1) hx hb dX5_corner_29 (by decide) ?_
      refine lv_isub hx hb dX5_corner_30 ?_
      refine g_topi (y := nI (gsCd st).1 - nI 1) rfl ?_
      refine lv_i2l hx hb dX5_corner_31 rfl ?_
      refine g_cp (g_rS (As := [.long cc.toInt64, .long (0 : Int64), .long ((nI (gsCd st).1 - nI 1).toInt64)]) hC (c_X5_in l (a := cc.toInt64) (b2 := (0 : Int64)) (d2 := (nI (gsCd st).1 - nI 1).toInt64)) ⟨q3_85, q3_83, q3_84, q1_6⟩ dd_X5_in ⟨Nat.le_of_ble_eq_true rfl, Nat.le_of_ble_eq_true rfl, rfl, rfl⟩ hl.1 rfl (Nat.le_of_ble_eq_true rfl) dX5_corner_32 ⟨Nat.le_of_ble_eq_true rfl, Nat.le_of_ble_eq_true rfl⟩) ?_
      refine W.eq (g2 := F0 m 35 ls [.int (gb (inL cc.toInt64 (0 : Int64) ((nI (gsCd st).1 - nI 1).toInt64)))]) rfl ?_
      refine g_topi (y := gb (inR cc (gsCd st).1)) (congrArg gb (inL_C hcb.1.2)) ?_
      refine lv_if_ne (tgt := 44) hx hb dX5_corner_35 (by decide) (fun c35 => ?_) (fun c35 => ?_)
      · have c35 := gb_t c35
        obtain ⟨a, ha9, rfl⟩ := inR_nI (by omega) c35
        have hvg := (hlg.2.2 a ha9).1
        have hr := (hcr1.2 a ha9).1
        have rb := rd_b hvg hr
        have rbb := rb.1 b (by omega)
        refine lv_bipush (v := nI 80) hx hb dX5_corner_44 (by decide) ?_
        refine lv_iload_n hx hb dX5_corner_46 rfl (lv_at hl 1 rfl) ?_
        refine lv_imul hx hb dX5_corner_47 ?_
        refine g_topi (y := nI (80 * 1)) (nI_mul _ _) ?_
        refine lv_iload_n hx hb dX5_corner_48 rfl (lv_at hl 2 rfl) ?_
        refine lv_iadd hx hb dX5_corner_49 ?_
        refine g_topi (y := nI (80 * 1 + a)) (nI_add _ _) ?_
        refine lv_istore (lv' := [(5, .int (nI (80 * 1 + a))), (0, .ref h), (1, .int (nI 1)), (2, .int (nI a)), (3, .int (nI b)), (4, .int f)]) hx hb dX5_corner_50 hl (by decide) rfl (fun ls hl => ?_)
        refine lv_aload_n hx hb dX5_corner_52 rfl (lv_at hl 1 rfl) ?_
        refine g_get hC hP hm.1 rfl inX5 10 (by decide) q3_16 hm.2.2.2.2.2.2.2.2.1.1 dX5_corner_53 ?_
        refine lv_iconst (v := nI 4) hx hb dX5_corner_56 (by decide) ?_
        refine lv_iload hx hb dX5_corner_57 (lv_at hl 0 rfl) ?_
        refine lv_imul hx hb dX5_corner_59 ?_
        refine g_topi (y := nI (4 * (80 * 1 + a))) (nI_mul _ _) ?_
        refine lv_iload_n hx hb dX5_corner_60 rfl (lv_at hl 4 rfl) ?_
        refine lv_iadd hx hb dX5_corner_61 ?_
        refine g_topi (y := nI (4 * (80 * 1 + a) + b)) (nI_add _ _) ?_
        refine g_lald hC hP hm.2.2.2.2.2.2.2.2.1.2 (vp_in_nI (by omega) (by decide)) dX5_corner_62 ?_
        refine g_topl (y := J30 (h + 8) (4 * (80 * 1 + a) + b)) (congrArg (J30 (h + 8)) (nI_clamp (by omega))) ?_
        refine lv_aload_n hx hb dX5_corner_63 rfl (lv_at hl 1 rfl) ?_
        refine g_get hC hP hm.1 rfl inX5 11 (by decide) q3_17 hm.2.2.2.2.2.2.2.2.2.1.1 dX5_corner_64 ?_
        refine lv_iload hx hb dX5_corner_67 (lv_at hl 0 rfl) ?_
        refine g_lald hC hP hm.2.2.2.2.2.2.2.2.2.1.2 (vp_in_nI (by omega) (by decide)) dX5_corner_69 ?_
        refine g_topl (y := J30 (h + 9) (80 * 1 + a)) (congrArg (J30 (h + 9)) (nI_clamp (by omega))) ?_
        refine g_cp (g_rS (As := [.long (J30 (h + 8) (4 * (80 * 1 + a) + b)), .long (J30 (h + 9) (80 * 1 + a))]) hC (c_X5_common l (a := J30 (h + 8) (4 * (80 * 1 + a) + b)) (b2 := J30 (h + 9) (80 * 1 + a)) (by omega) (by omega)) ⟨q3_123, q3_121, q3_122, q1_6⟩ dd_X5_common ⟨Nat.le_of_ble_eq_true rfl, Nat.le_of_ble_eq_true rfl, rfl, rfl⟩ hl.1 rfl (Nat.le_of_ble_eq_true rfl) dX5_corner_70 ⟨Nat.le_of_ble_eq_true rfl, Nat.le_of_ble_eq_true rfl⟩) ?_
        refine W.eq (g2 := F0 m 73 ls [.long (gcdL (J30 (h + 8) (4 * (80 * 1 + a) + b)) (J30 (h + 9) (80 * 1 + a)))]) rfl ?_
        refine lv_lstore (lv' := [(6, .long (gcdL (J30 (h + 8) (4 * (80 * 1 + a) + b)) (J30 (h + 9) (80 * 1 + a)))), (5, .int (nI (80 * 1 + a))), (0, .ref h), (1, .int (nI 1)), (2, .int (nI a)), (3, .int (nI b)), (4, .int f)]) hx hb dX5_corner_73 hl (by decide) rfl (fun ls hl => ?_)
        refine lv_iload hx hb dX5_corner_75 (lv_at hl 6 rfl) ?_
        refine lv_if_ne (tgt := 98) hx hb dX5_corner_77 (by decide) (fun c77 => ?_) (fun c77 => ?_)
        · refine lv_iload hx hb dX5_corner_98 (lv_at hl 6 rfl) ?_
          refine lv_iconst (v := nI 1) hx hb dX5_corner_100 (by decide) ?_
          refine lv_icmp_ne (tgt := 118) hx hb dX5_corner_101 (by decide) (fun c101 => ?_) (fun c101 => ?_)
          · refine lv_iload hx hb dX5_corner_118 (lv_at hl 6 rfl) ?_
            refine lv_iconst (v := nI 2) hx hb dX5_corner_120 (by decide) ?_
            refine lv_icmp_ne (tgt := 134) hx hb dX5_corner_121 (by decide) (fun c121 => ?_) (fun c121 => ?_)
            · refine lv_aload_n hx hb dX5_corner_134 rfl (lv_at hl 2 rfl) ?_
              refine lv_bipush (v := (-2)) hx hb dX5_corner_135 (by decide) ?_
              refine g_cc (g_rV (As := [.int (-2 : Int32)]) hC hP (c_X5_refuse l hP (h := h) (q := (-2 : Int32)) (j := 2) (by first | assumption | omega) (by decide) (by omega)) hm.1 rfl ⟨q3_71, q3_68, q3_70, qs_25, q1_6⟩ dd_X5_refuse ⟨Nat.le_of_ble_eq_true rfl, Nat.le_of_ble_eq_true rfl, rfl, rfl⟩ hl.1 rfl (Nat.le_of_ble_eq_true rfl) dX5_corner_137 ⟨Nat.le_of_ble_eq_true rfl, Nat.le_of_ble_eq_true rfl⟩) hS (fun q h => h.elim (hTA q) (fun z => hA q (Nat.le_trans hS.1 z))) (fun r35 H31 locs32 hq36 hS hz33 hfr34 => ?_)
              obtain ⟨rfl, hP⟩ := hq36
              obtain ⟨I37, hI37, hP⟩ : ∃ I37 : gI, I37 = au I29 (h + 4) 2 (I29 (h + 4) 2 + 1) ∧ gP G T I37 J30 Q O H31 := ⟨_, rfl, hP⟩
              refine W.eq (g2 := F0 m 140 ls [.int (-2 : Int32)]) rfl ?_
              refine g_retci hC hS ?_ dX5_corner_140
              refine Or.inr ⟨b, rfl, Or.inr ⟨rfl, hbq, ?_⟩⟩
              refine Or.inr (Or.inl ⟨c35, ?_, rfl, mo_ref hm hsn1 (j := 2) (by decide) hI37 hP⟩)
              exact co_out c77 c101 c121
            · refine lv_aload_n hx hb dX5_corner_124 rfl (lv_at hl 2 rfl) ?_
              refine g_get hC hP hm.1 rfl inX5 13 (by decide) q3_19 hm.2.2.2.2.2.2.2.2.2.2.2.1.1 dX5_corner_125 ?_
              refine lv_iload hx hb dX5_corner_128 (lv_at hl 1 rfl) ?_
              refine g_iald hC hP hm.2.2.2.2.2.2.2.2.2.2.2.1.2 (vp_in_nI (by omega) (by decide)) dX5_corner_130 ?_
              refine g_topi (y := nI (((gsCd st).2 a).2.2.2)) ((congrArg (I29 (h + 11)) (nI_clamp (by omega))).trans (hcr1.2 a ha9).2.2) ?_
              refine lv_goto (tgt := 140) hx hb dX5_corner_131 (by decide) ?_
              refine g_retci hC hS ?_ dX5_corner_140
              refine Or.inr ⟨b, rfl, Or.inr ⟨rfl, hbq, ?_⟩⟩
              refine Or.inr (Or.inr ⟨a, ha9, rfl, by rw [c121]; decide, by rw [c121]; decide, Or.inl ⟨c121, rfl, mo_same hm hsn1 hP⟩⟩)
          · refine lv_aload_n hx hb dX5_corner_104 rfl (lv_at hl 2 rfl) ?_
            refine g_get hC hP hm.1 rfl inX5 11 (by decide) q3_17 hm.2.2.2.2.2.2.2.2.2.1.1 dX5_corner_105 ?_
            refine lv_iload hx hb dX5_corner_108 (lv_at hl 1 rfl) ?_
            refine g_lald hC hP hm.2.2.2.2.2.2.2.2.2.1.2 (vp_in_nI (by omega) (by decide)) dX5_corner_110 ?_
            refine g_topl (y := J30 (h + 9) (80 * 1 + a)) (congrArg (J30 (h + 9)) (nI_clamp (by omega))) ?_
            refine lv_lload hx hb dX5_corner_111 (lv_at hl 0 rfl) ?_
            refine lv_ldiv hx hb dX5_corner_113 (gcdL_ne rb.2.1) ?_
            refine lv_l2i hx hb dX5_corner_114 rfl ?_
            refine lv_goto (tgt := 140) hx hb dX5_corner_115 (by decide) ?_
            refine g_retci hC hS ?_ dX5_corner_140
            refine Or.inr ⟨b, rfl, Or.inr ⟨rfl, hbq, ?_⟩⟩
            refine Or.inr (Or.inr ⟨a, ha9, rfl, by rw [c101]; decide, by rw [c101]; decide, Or.inr ⟨by rw [c101]; decide, ?_, mo_same hm hsn1 hP⟩⟩)
            rw [low_rd hvg hr (by omega), if_neg c77]
        · refine lv_aload_n hx hb dX5_corner_80 rfl (lv_at hl 2 rfl) ?_
          refine g_get hC hP hm.1 rfl inX5 10 (by decide) q3_16 hm.2.2.2.2.2.2.2.2.1.1 dX5_corner_81 ?_
          refine lv_iconst (v := nI 4) hx hb dX5_corner_84 (by decide) ?_
          refine lv_iload hx hb dX5_corner_85 (lv_at hl 1 rfl) ?_
          refine lv_imul hx hb dX5_corner_87 ?_
          refine g_topi (y := nI (4 * (80 * 1 + a))) (nI_mul _ _) ?_
          refine lv_iload_n hx hb dX5_corner_88 rfl (lv_at hl 5 rfl) ?_
          refine lv_iadd hx hb dX5_corner_89 ?_
          refine g_topi (y := nI (4 * (80 * 1 + a) + b)) (nI_add _ _) ?_
          refine g_lald hC hP hm.2.2.2.2.2.2.2.2.1.2 (vp_in_nI (by omega) (by decide)) dX5_corner_90 ?_
          refine g_topl (y := J30 (h + 8) (4 * (80 * 1 + a) + b)) (congrArg (J30 (h + 8)) (nI_clamp (by omega))) ?_
          refine lv_lload hx hb dX5_corner_91 (lv_at hl 0 rfl) ?_
          refine lv_ldiv hx hb dX5_corner_93 (gcdL_ne rb.2.1) ?_
          refine lv_l2i hx hb dX5_corner_94 rfl ?_
          refine lv_goto (tgt := 140) hx hb dX5_corner_95 (by decide) ?_
          refine g_retci hC hS ?_ dX5_corner_140
          refine Or.inr ⟨b, rfl, Or.inr ⟨rfl, hbq, ?_⟩⟩
          refine Or.inr (Or.inr ⟨a, ha9, rfl, by rw [c77]; decide, by rw [c77]; decide, Or.inr ⟨by rw [c77]; decide, ?_, mo_same hm hsn1 hP⟩⟩)
          rw [low_rd hvg hr (by omega), if_pos c77]
      · have c35 := gb_f c35
        refine lv_aload_n hx hb dX5_corner_38 rfl (lv_at hl 0 rfl) ?_
        refine lv_iconst (v := (-1)) hx hb dX5_corner_39 (by decide) ?_
        refine g_cc (g_rV (As := [.int (-1 : Int32)]) hC hP (c_X5_refuse l hP (h := h) (q := (-1 : Int32)) (j := 1) (by first | assumption | omega) (by decide) (by omega)) hm.1 rfl ⟨q3_71, q3_68, q3_70, qs_25, q1_6⟩ dd_X5_refuse ⟨Nat.le_of_ble_eq_true rfl, Nat.le_of_ble_eq_true rfl, rfl, rfl⟩ hl.1 rfl (Nat.le_of_ble_eq_true rfl) dX5_corner_40 ⟨Nat.le_of_ble_eq_true rfl, Nat.le_of_ble_eq_true rfl⟩) hS (fun q h => h.elim (hTA q) (fun z => hA q (Nat.le_trans hS.1 z))) (fun r42 H38 locs39 hq43 hS hz40 hfr41 => ?_)
        obtain ⟨rfl, hP⟩ := hq43
        obtain ⟨I44, hI44, hP⟩ : ∃ I44 : gI, I44 = au I29 (h + 4) 1 (I29 (h + 4) 1 + 1) ∧ gP G T I44 J30 Q O H38 := ⟨_, rfl, hP⟩
        refine W.eq (g2 := F0 m 43 ls [.int (-1 : Int32)]) rfl ?_
        refine g_retci hC hS ?_ dX5_corner_43
        refine Or.inr ⟨b, rfl, Or.inr ⟨rfl, hbq, ?_⟩⟩
        exact Or.inl ⟨c35, rfl, mo_ref hm hsn1 (j := 1) (by decide) hI44 hP⟩
  · have c6 := gb_f c6
    refine lv_aload_n hx hb dX5_corner_9 rfl (lv_at hl 0 rfl) ?_
    refine lv_iconst (v := (-1)) hx hb dX5_corner_10 (by decide) ?_
    refine g_cc (g_rV (As := [.int (-1 : Int32)]) hC hP (c_X5_refuse l hP (h := h) (q := (-1 : Int32)) (j := 1) (by first | assumption | omega) (by decide) (by omega)) hm.1 rfl ⟨q3_71, q3_68, q3_70, qs_25, q1_6⟩ dd_X5_refuse ⟨Nat.le_of_ble_eq_true rfl, Nat.le_of_ble_eq_true rfl, rfl, rfl⟩ hl.1 rfl (Nat.le_of_ble_eq_true rfl) dX5_corner_11 ⟨Nat.le_of_ble_eq_true rfl, Nat.le_of_ble_eq_true rfl⟩) hS (fun q h => h.elim (hTA q) (fun z => hA q (Nat.le_trans hS.1 z))) (fun r49 H45 locs46 hq50 hS hz47 hfr48 => ?_)
    obtain ⟨rfl, hP⟩ := hq50
    obtain ⟨I51, hI51, hP⟩ : ∃ I51 : gI, I51 = au I (h + 4) 1 (I (h + 4) 1 + 1) ∧ gP G T I51 J Q O H45 := ⟨_, rfl, hP⟩
    refine W.eq (g2 := F0 m 14 ls [.int (-1 : Int32)]) rfl ?_
    refine g_retci hC hS ?_ dX5_corner_14
    refine Or.inl ⟨?_, rfl, mo_ref hm hs0 (j := 1) (by decide) hI51 hP⟩
    by_cases e : isW q = true
    · rw [e, Bool.true_and] at c6
      rcases isW_c e with rfl | rfl
      · exact Or.inr (Or.inl ⟨rfl, c6⟩)
      · exact Or.inr (Or.inr ⟨rfl, c6⟩)
    · exact Or.inl (Bool.eq_false_iff.mpr e)
set_option maxHeartbeats 4000000 in
set_option maxRecDepth 100000 in
theorem c_X5_isBalance (l : Launch) {G : gG} {T : gTy} {I : gI} {J : gJ} {Q : gR} {O : gO} {H : Heap} (hP : gP G T I J Q O H) {h a9 b9 : Nat} {Cr Cd : CL} (hm : isMo T O h) (hcr0 : crR I J h 0 Cr) (hcr1 : crR I J h 1 Cd) (hk0 : cOK Cr) (hk1 : cOK Cd) (h690 : Cr.1 ≤ 69) (h691 : Cd.1 ≤ 69) (ha9 : a9 < Cr.1) (hb9 : b9 < Cd.1) : Met l yX5_isBalance (gw yX5_isBalance cX5_isBalance 3 (some (.boolean))) ({ frames := 0, cells := 0, slots := 0, locals := 0 } : Room) (gPc G H [.ref h, .int (nI a9), .int (nI b9)]) (gQp (some (.int (gb (fitP Cr Cd a9 b9))))) 0 0 (fun _ => False) := by
  refine g_met [(0, .ref h), (1, .int (nI a9)), (2, .int (nI b9))] (by decide) rfl (by exact Nat.le_of_ble_eq_true rfl) ?_
  intro p e s m below meth c hC hs ls hl
  have hx := hC.1.1
  have hb := hC.1.2.1
  have v0 := hk0 a9 ha9
  have v1 := hk1 b9 hb9
  have b1 := v0.1
  have b2 := v0.2
  have b3 := v1.1
  have b4 := v1.2
  have l1 := Nat.and_le_left (n := (Cr.2 a9).2.2.1) (m := (Cd.2 b9).2.2.2)
  have l2 := Nat.and_le_left (n := (Cd.2 b9).2.2.1) (m := (Cr.2 a9).2.2.2)
  refine lv_aload_n hx hb dX5_isBalance_0 rfl (lv_at hl 0 rfl) ?_
  refine g_get hC hP hm.1 rfl inX5 12 (by decide) q3_18 hm.2.2.2.2.2.2.2.2.2.2.1.1 dX5_isBalance_1 ?_
  refine lv_iload_n hx hb dX5_isBalance_4 rfl (lv_at hl 1 rfl) ?_
  refine g_iald hC hP hm.2.2.2.2.2.2.2.2.2.2.1.2 (vp_in_nI (by omega) (by decide)) dX5_isBalance_5 ?_
  refine g_topi (y := nI ((Cr.2 a9).2.2.1)) ((congrArg (I (h + 10)) (nI_clamp (by omega))).trans (by have q := (hcr0.2 a9 ha9).2.1; rw [show 80 * 0 + a9 = a9 from by omega] at q; exact q)) ?_
  refine lv_aload_n hx hb dX5_isBalance_6 rfl (lv_at hl 0 rfl) ?_
  refine g_get hC hP hm.1 rfl inX5 13 (by decide) q3_19 hm.2.2.2.2.2.2.2.2.2.2.2.1.1 dX5_isBalance_7 ?_
  refine lv_bipush (v := nI 80) hx hb dX5_isBalance_10 (by decide) ?_
  refine lv_iload_n hx hb dX5_isBalance_12 rfl (lv_at hl 2 rfl) ?_
  refine lv_iadd hx hb dX5_isBalance_13 ?_
  refine g_topi (y := nI (80 + b9)) (nI_add _ _) ?_
  refine g_iald hC hP hm.2.2.2.2.2.2.2.2.2.2.2.1.2 (vp_in_nI (by omega) (by decide)) dX5_isBalance_14 ?_
  refine g_topi (y := nI ((Cd.2 b9).2.2.2)) ((congrArg (I (h + 11)) (nI_clamp (by omega))).trans ((hcr1.2 b9 hb9).2.2)) ?_
  refine lv_iand hx hb dX5_isBalance_15 ?_
  refine g_topi (y := nI ((Cr.2 a9).2.2.1 &&& (Cd.2 b9).2.2.2)) (g_and b1 b4) ?_
  refine lv_aload_n hx hb dX5_isBalance_16 rfl (lv_at hl 0 rfl) ?_
  refine g_get hC hP hm.1 rfl inX5 12 (by decide) q3_18 hm.2.2.2.2.2.2.2.2.2.2.1.1 dX5_isBalance_17 ?_
  refine lv_iload_n hx hb dX5_isBalance_20 rfl (lv_at hl 1 rfl) ?_
  refine g_iald hC hP hm.2.2.2.2.2.2.2.2.2.2.1.2 (vp_in_nI (by omega) (by decide)) dX5_isBalance_21 ?_
  refine g_topi (y := nI ((Cr.2 a9).2.2.1)) ((congrArg (I (h + 10)) (nI_clamp (by omega))).trans (by have q := (hcr0.2 a9 ha9).2.1; rw [show 80 * 0 + a9 = a9 from by omega] at q; exact q)) ?_
  refine lv_icmp_ne (tgt := 57) hx hb dX5_isBalance_22 (by decide) (fun c22 => ?_) (fun c22 => ?_)
  · have c22 := mt (nI_eq (by omega) (by omega)).mpr c22
    refine lv_iconst (v := nI 0) hx hb dX5_isBalance_57 (by decide) ?_
    refine g_retz hC hs ?_ dX5_isBalance_58
    show _ = gb (fitB _ _ _ _)
    rw [fit_and b1 b2 b3 b4]
    first | (rw [decide_eq_false c22, Bool.false_and]; rfl) | (rw [decide_eq_false c50, Bool.and_false]; rfl)
  · have c22 := (nI_eq (by omega) (by omega)).mp c22
    refine lv_aload_n hx hb dX5_isBalance_25 rfl (lv_at hl 0 rfl) ?_
    refine g_get hC hP hm.1 rfl inX5 12 (by decide) q3_18 hm.2.2.2.2.2.2.2.2.2.2.1.1 dX5_isBalance_26 ?_
    refine lv_bipush (v := nI 80) hx hb dX5_isBalance_29 (by decide) ?_
    refine lv_iload_n hx hb dX5_isBalance_31 rfl (lv_at hl 2 rfl) ?_
    refine lv_iadd hx hb dX5_isBalance_32 ?_
    refine g_topi (y := nI (80 + b9)) (nI_add _ _) ?_
    refine g_iald hC hP hm.2.2.2.2.2.2.2.2.2.2.1.2 (vp_in_nI (by omega) (by decide)) dX5_isBalance_33 ?_
    refine g_topi (y := nI ((Cd.2 b9).2.2.1)) ((congrArg (I (h + 10)) (nI_clamp (by omega))).trans ((hcr1.2 b9 hb9).2.1)) ?_
    refine lv_aload_n hx hb dX5_isBalance_34 rfl (lv_at hl 0 rfl) ?_
    refine g_get hC hP hm.1 rfl inX5 13 (by decide) q3_19 hm.2.2.2.2.2.2.2.2.2.2.2.1.1 dX5_isBalance_35 ?_
    refine lv_iload_n hx hb dX5_isBalance_38 rfl (lv_at hl 1 rfl) ?_
    refine g_iald hC hP hm.2.2.2.2.2.2.2.2.2.2.2.1.2 (vp_in_nI (by omega) (by decide)) dX5_isBalance_39 ?_
    refine g_topi (y := nI ((Cr.2 a9).2.2.2)) ((congrArg (I (h + 11)) (nI_clamp (by omega))).trans (by have q := (hcr0.2 a9 ha9).2.2; rw [show 80 * 0 + a9 = a9 from by omega] at q; exact q)) ?_
    refine lv_iand hx hb dX5_isBalance_40 ?_
    refine g_topi (y := nI ((Cd.2 b9).2.2.1 &&& (Cr.2 a9).2.2.2)) (g_and b3 b2) ?_
    refine lv_aload_n hx hb dX5_isBalance_41 rfl (lv_at hl 0 rfl) ?_
    refine g_get hC hP hm.1 rfl inX5 12 (by decide) q3_18 hm.2.2.2.2.2.2.2.2.2.2.1.1 dX5_isBalance_42 ?_
    refine lv_bipush (v := nI 80) hx hb dX5_isBalance_45 (by decide) ?_
    refine lv_iload_n hx hb dX5_isBalance_47 rfl (lv_at hl 2 rfl) ?_
    refine lv_iadd hx hb dX5_isBalance_48 ?_
    refine g_topi (y := nI (80 + b9)) (nI_add _ _) ?_
    refine g_iald hC hP hm.2.2.2.2.2.2.2.2.2.2.1.2 (vp_in_nI (by omega) (by decide)) dX5_isBalance_49 ?_
    refine g_topi (y := nI ((Cd.2 b9).2.2.1)) ((congrArg (I (h + 10)) (nI_clamp (by omega))).trans ((hcr1.2 b9 hb9).2.1)) ?_
    refine lv_icmp_ne (tgt := 57) hx hb dX5_isBalance_50 (by decide) (fun c50 => ?_) (fun c50 => ?_)
    · have c50 := mt (nI_eq (by omega) (by omega)).mpr c50
      refine lv_iconst (v := nI 0) hx hb dX5_isBalance_57 (by decide) ?_
      refine g_retz hC hs ?_ dX5_isBalance_58
      show _ = gb (fitB _ _ _ _)
      rw [fit_and b1 b2 b3 b4]
      first | (rw [decide_eq_false c22, Bool.false_and]; rfl) | (rw [decide_eq_false c50, Bool.and_false]; rfl)
    · have c50 := (nI_eq (by omega) (by omega)).mp c50
      refine lv_iconst (v := nI 1) hx hb dX5_isBalance_53 (by decide) ?_
      refine lv_goto (tgt := 58) hx hb dX5_isBalance_54 (by decide) ?_
      refine g_retz hC hs ?_ dX5_isBalance_58
      show _ = gb (fitB _ _ _ _)
      rw [fit_and b1 b2 b3 b4]
      rw [decide_eq_true c22, decide_eq_true c50]; rfl
set_option maxHeartbeats 4000000 in
set_option maxRecDepth 100000 in
theorem c_X5_balances (l : Launch) {G : gG} {T : gTy} {I : gI} {J : gJ} {Q : gR} {O : gO} {H : Heap} (hP : gP G T I J Q O H) {h : Nat} {st : GS}  (hm : isMo T O h) (hs0 : moS I h st) (hbd0 : bdP (gsP0 st)) (hbd1 : bdP (gsP1 st)) : Met l yX5_balances (gw yX5_balances cX5_balances 4 (some (.int))) ({ frames := 4, cells := 0, slots := 0, locals := 103 } : Room) (gPc G H [.ref h]) (gQc (gF T H) (fun x H1 => rBalances st (fun x1 s1 => x = some (.int x1) ∧ moR G T h s1 H1) )) 0 0 (gF T H) := by
  refine g_met [(0, .ref h)] (by decide) rfl (by exact Nat.le_of_ble_eq_true rfl) ?_
  intro p e s m below meth c hC hs ls hl
  have hx := hC.1.1
  have hb := hC.1.2.1
  have hS : va_S (gF T H) s.heap H [] := hs ▸ va_S.rf
  have hTA : ∀ q, (T q).1 ≠ 0 → gF T H q := fun q h => Or.inl h
  have hA : ∀ q, s.heap.size ≤ q → gF T H q := fun q h => Or.inr (hs ▸ h)
  generalize hAe : gF T H = A at hS hTA hA ⊢
  have hms := hs0.1
  have hns := hs0.2.1
  have hcb := gsC_b hms hns
  refine lv_aload_n hx hb dX5_balances_0 rfl (lv_at hl 0 rfl) ?_
  refine lv_iconst (v := nI 0) hx hb dX5_balances_1 (by decide) ?_
  refine g_cc (g_rV (As := [.int (nI 0)]) hC hP (c_X5_findCorners_0 l hP (h := h) (by first | assumption | omega) (by first | assumption | omega) (by first | assumption | omega) (by first | assumption | omega)) hm.1 rfl ⟨q3_187, q3_184, q3_186, qs_38, q1_6⟩ dd_X5_findCorners ⟨Nat.le_of_ble_eq_true rfl, Nat.le_of_ble_eq_true rfl, rfl, rfl⟩ hl.1 rfl (Nat.le_of_ble_eq_true rfl) dX5_balances_2 ⟨Nat.le_of_ble_eq_true rfl, Nat.le_of_ble_eq_true rfl⟩) hS (fun q h => h.elim (hTA q) (fun z => hA q (Nat.le_trans hS.1 z))) (fun r5 H1 locs2 hq6 hS hz3 hfr4 => ?_)
  obtain ⟨rfl, I7, J8, hP, hcr0, hf0⟩ := hq6
  have hsn0 : moS I7 h st := moS_fc hs0 hf0
  refine W.eq (g2 := F0 m 5 ls []) rfl ?_
  refine lv_aload_n hx hb dX5_balances_5 rfl (lv_at hl 0 rfl) ?_
  refine lv_iconst (v := nI 1) hx hb dX5_balances_6 (by decide) ?_
  refine g_cc (g_rV (As := [.int (nI 1)]) hC hP (c_X5_findCorners_1 l hP (h := h) (by first | assumption | omega) (by first | assumption | omega) (by first | assumption | omega) (by first | assumption | omega)) hm.1 rfl ⟨q3_187, q3_184, q3_186, qs_38, q1_6⟩ dd_X5_findCorners ⟨Nat.le_of_ble_eq_true rfl, Nat.le_of_ble_eq_true rfl, rfl, rfl⟩ hl.1 rfl (Nat.le_of_ble_eq_true rfl) dX5_balances_7 ⟨Nat.le_of_ble_eq_true rfl, Nat.le_of_ble_eq_true rfl⟩) hS (fun q h => h.elim (hTA q) (fun z => hA q (Nat.le_trans hS.1 z))) (fun r13 H9 locs10 hq14 hS hz11 hfr12 => ?_)
  obtain ⟨rfl, I15, J16, hP, hcr1, hf1⟩ := hq14
  have hsn1 : moS I15 h st := moS_fc hsn0 hf1
  have hcr0 := crR_oth hcr0 hcb.1.1 hf1
  refine W.eq (g2 := F0 m 10 ls []) rfl ?_
  refine lv_iconst (v := nI 0) hx hb dX5_balances_10 (by decide) ?_
  refine lv_istore_n (lv' := [(1, .int (nI 0)), (0, .ref h)]) hx hb dX5_balances_11 rfl hl (by decide) rfl (fun ls hl => ?_)
  have h690 := hcb.1.1
  have h691 := hcb.1.2
  refine lv_iconst (v := nI 0) hx hb dX5_balances_12 (by decide) ?_
  refine lv_istore_n (lv' := [(2, .int (nI 0)), (1, .int (nI 0)), (0, .ref h)]) hx hb dX5_balances_13 rfl hl (by decide) rfl (fun ls hl => ?_)
  have L14 : ∀ (n14 : Nat) (z : Nat) (cn : Nat), 70 ≤ n14 + z → (z ≤ (gsCr st).1) → (cn = bR (gsCr st) (gsCd st) z) → ∀ (Hl : Heap) (lcl : List Loc), gP G T I15 J16 Q O Hl → va_S A s.heap Hl lcl → ∀ ls : Array Slot, lv_has ls 4 [(0, .ref h), (1, .int (nI cn)), (2, .int (nI z))] → W p l e ({ frames := 4, cells := 0, slots := 0, locals := 103 } : Room) s m [.ref h].toArray below meth c Hl lcl 0 0 (MQ below (gQc A (fun x H1 => rBalances st (fun x1 s1 => x = some (.int x1) ∧ moR G T h s1 H1) )) [.ref h].toArray s 0 0 A) (F0 m 14 ls []) := by
    intro n14
    induction n14 with
    | zero => intro z cn hn14 hz h1; exact absurd hn14 (by omega)
    | succ n14 ih14 =>
      intro z cn hn14 hz h1 Hl lcl hP hS ls hl
      refine lv_iload_n hx hb dX5_balances_14 rfl (lv_at hl 2 rfl) ?_
      refine lv_aload_n hx hb dX5_balances_15 rfl (lv_at hl 0 rfl) ?_
      refine g_get hC hP hm.1 rfl inX5 9 (by decide) q3_15 hm.2.2.2.2.2.2.2.1.1 dX5_balances_16 ?_
      refine lv_iconst (v := nI 0) hx hb dX5_balances_19 (by decide) ?_
      refine g_iald hC hP hm.2.2.2.2.2.2.2.1.2 (vp_in_nI (by omega) (by decide)) dX5_balances_20 ?_
      refine g_topi (y := nI ((gsCr st).1)) hcr0.1 ?_
      refine lv_icmp_ge (tgt := 65) hx hb dX5_balances_21 (by decide) (fun c21 => ?_) (fun c21 => ?_)
      · have c21 := (nI_leI (by omega) (by omega)).mp c21
        refine lv_iload_n hx hb dX5_balances_65 rfl (lv_at hl 1 rfl) ?_
        refine g_retci hC hS ?_ dX5_balances_66
        refine ⟨?_, mo_same hm hsn1 hP⟩
        rw [h1, show z = (gsCr st).1 from by omega]
      · have c21 := mt (nI_leI (by omega) (by omega)).mpr c21
        refine lv_iconst (v := nI 0) hx hb dX5_balances_24 (by decide) ?_
        refine lv_istore_n (lv' := [(3, .int (nI 0)), (0, .ref h), (1, .int (nI cn)), (2, .int (nI z))]) hx hb dX5_balances_25 rfl hl (by decide) rfl (fun ls hl => ?_)
        have L26 : ∀ (n26 : Nat) (y : Nat) (c2 : Nat), 70 ≤ n26 + y → (y ≤ (gsCd st).1) → (c2 = bR (gsCr st) (gsCd st) z + cntL (fitP (gsCr st) (gsCd st) z) y) → ∀ (Hl : Heap) (lcl : List Loc), gP G T I15 J16 Q O Hl → va_S A s.heap Hl lcl → ∀ ls : Array Slot, lv_has ls 4 [(0, .ref h), (1, .int (nI c2)), (2, .int (nI z)), (3, .int (nI y))] → W p l e ({ frames := 4, cells := 0, slots := 0, locals := 103 } : Room) s m [.ref h].toArray below meth c Hl lcl 0 0 (MQ below (gQc A (fun x H1 => rBalances st (fun x1 s1 => x = some (.int x1) ∧ moR G T h s1 H1) )) [.ref h].toArray s 0 0 A) (F0 m 26 ls []) := by
          intro n26
          induction n26 with
          | zero => intro y c2 hn26 hy h2; exact absurd hn26 (by omega)
          | succ n26 ih26 =>
            intro y c2 hn26 hy h2 Hl lcl hP hS ls hl
            refine lv_iload_n hx hb dX5_balances_26 rfl (lv_at hl 3 rfl) ?_
            refine lv_aload_n hx hb dX5_balances_27 rfl (lv_at hl 0 rfl) ?_
            refine g_get hC hP hm.1 rfl inX5 9 (by decide) q3_15 hm.2.2.2.2.2.2.2.1.1 dX5_balances_28 ?_
            refine lv_iconst (v := nI 1) hx hb dX5_balances_31 (by decide) ?_
            refine g_iald hC hP hm.2.2.2.2.2.2.2.1.2 (vp_in_nI (by omega) (by decide)) dX5_balances_32 ?_
            refine g_topi (y := nI ((gsCd st).1)) hcr1.1 ?_
            refine lv_icmp_ge (tgt := 59) hx hb dX5_balances_33 (by decide) (fun c33 => ?_) (fun c33 => ?_)
            · have c33 := (nI_leI (by omega) (by omega)).mp c33
              refine lv_iinc (v := nI (z + 1)) (lv' := [(2, .int (nI (z + 1))), (0, .ref h), (1, .int (nI c2)), (3, .int (nI y))]) hx hb dX5_balances_59 hl (k := 2) rfl (nI_inc _) (by decide) rfl (fun ls hl => ?_)
              refine lv_goto (tgt := 14) hx hb dX5_balances_62 (by decide) ?_
              exact ih14 (z + 1) c2 (by omega) (by omega) (by rw [h2, show y = (gsCd st).1 from by omega]; rfl) _ _ hP hS ls (lv_sub hl [1, 2, 0] rfl)
            · have c33 := mt (nI_leI (by omega) (by omega)).mpr c33
              refine lv_iload_n hx hb dX5_balances_36 rfl (lv_at hl 1 rfl) ?_
              refine lv_aload_n hx hb dX5_balances_37 rfl (lv_at hl 0 rfl) ?_
              refine lv_iload_n hx hb dX5_balances_38 rfl (lv_at hl 2 rfl) ?_
              refine lv_iload_n hx hb dX5_balances_39 rfl (lv_at hl 3 rfl) ?_
              refine g_cp (g_rV (As := [.int (nI z), .int (nI y)]) hC hP (c_X5_isBalance l hP (h := h) (a9 := z) (b9 := y) (Cr := gsCr st) (Cd := gsCd st) (by first | assumption | omega) hcr0 hcr1 hcb.2.1 hcb.2.2 hcb.1.1 hcb.1.2 (by first | assumption | omega) (by first | assumption | omega)) hm.1 rfl ⟨q3_221, q3_218, q3_220, qs_43, q1_6⟩ dd_X5_isBalance ⟨Nat.le_of_ble_eq_true rfl, Nat.le_of_ble_eq_true rfl, rfl, rfl⟩ hl.1 rfl (Nat.le_of_ble_eq_true rfl) dX5_balances_40 ⟨Nat.le_of_ble_eq_true rfl, Nat.le_of_ble_eq_true rfl⟩) ?_
              refine W.eq (g2 := F0 m 43 ls [.int (gb (fitP (gsCr st) (gsCd st) z y)), .int (nI c2)]) rfl ?_
              refine lv_if_eq (tgt := 50) hx hb dX5_balances_43 (by decide) (fun c43 => ?_) (fun c43 => ?_)
              · have c43 := gb_f c43
                refine lv_iconst (v := nI 0) hx hb dX5_balances_50 (by decide) ?_
                refine lv_iadd hx hb dX5_balances_51 ?_
                refine g_topi (y := nI (c2 + 0)) (nI_add _ _) ?_
                refine lv_istore_n (lv' := [(1, .int (nI (c2 + 0))), (0, .ref h), (2, .int (nI z)), (3, .int (nI y))]) hx hb dX5_balances_52 rfl hl (by decide) rfl (fun ls hl => ?_)
                refine lv_iinc (v := nI (y + 1)) (lv' := [(3, .int (nI (y + 1))), (1, .int (nI (c2 + 0))), (0, .ref h), (2, .int (nI z))]) hx hb dX5_balances_53 hl (k := 3) rfl (nI_inc _) (by decide) rfl (fun ls hl => ?_)
                refine lv_goto (tgt := 26) hx hb dX5_balances_56 (by decide) ?_
                exact ih26 (y + 1) (c2 + 0) (by omega) (by omega) (by show _ = _ + (cntL _ y + (if fitP (gsCr st) (gsCd st) z y then 1 else 0)); rw [c43, h2]; first | (rw [if_pos rfl, Nat.add_assoc]) | (rw [if_neg (by decide), Nat.add_assoc])) _ _ hP hS ls (lv_sub hl [2, 1, 3, 0] rfl)
              · have c43 := gb_t c43
                refine lv_iconst (v := nI 1) hx hb dX5_balances_46 (by decide) ?_
                refine lv_goto (tgt := 51) hx hb dX5_balances_47 (by decide) ?_
                refine lv_iadd hx hb dX5_balances_51 ?_
                refine g_topi (y := nI (c2 + 1)) (nI_add _ _) ?_
                refine lv_istore_n (lv' := [(1, .int (nI (c2 + 1))), (0, .ref h), (2, .int (nI z)), (3, .int (nI y))]) hx hb dX5_balances_52 rfl hl (by decide) rfl (fun ls hl => ?_)
                refine lv_iinc (v := nI (y + 1)) (lv' := [(3, .int (nI (y + 1))), (1, .int (nI (c2 + 1))), (0, .ref h), (2, .int (nI z))]) hx hb dX5_balances_53 hl (k := 3) rfl (nI_inc _) (by decide) rfl (fun ls hl => ?_)
                refine lv_goto (tgt := 26) hx hb dX5_balances_56 (by decide) ?_
                exact ih26 (y + 1) (c2 + 1) (by omega) (by omega) (by show _ = _ + (cntL _ y + (if fitP (gsCr st) (gsCd st) z y then 1 else 0)); rw [c43, h2]; first | (rw [if_pos rfl, Nat.add_assoc]) | (rw [if_neg (by decide), Nat.add_assoc])) _ _ hP hS ls (lv_sub hl [2, 1, 3, 0] rfl)
        exact L26 70 0 cn (by omega) (by omega) h1 _ _ hP hS ls (lv_sub hl [1, 2, 3, 0] rfl)
  exact L14 70 0 0 (by omega) (by omega) rfl _ _ hP hS ls (lv_sub hl [2, 1, 0] rfl)
