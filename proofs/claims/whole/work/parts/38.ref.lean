/-! ===== the reference in the memory ===== -/
def isMo (T : gTy) (O : gO) (h : Nat) : Prop := T h = (1, 5) ∧ (O h 0 = .ref (h + 1) ∧ T (h + 1) = (2, 2)) ∧ (O h 1 = .ref (h + 2) ∧ T (h + 2) = (2, 32)) ∧ (O h 2 = .ref (h + 3) ∧ T (h + 3) = (2, 8)) ∧ (O h 3 = .ref (h + 4) ∧ T (h + 4) = (2, 7)) ∧ (O h 4 = .ref (h + 5) ∧ T (h + 5) = (3, 4)) ∧ (O h 5 = .ref (h + 6) ∧ T (h + 6) = (3, 4)) ∧ (O h 9 = .ref (h + 7) ∧ T (h + 7) = (2, 2)) ∧ (O h 10 = .ref (h + 8) ∧ T (h + 8) = (3, 640)) ∧ (O h 11 = .ref (h + 9) ∧ T (h + 9) = (3, 160)) ∧ (O h 12 = .ref (h + 10) ∧ T (h + 10) = (2, 160)) ∧ (O h 13 = .ref (h + 11) ∧ T (h + 11) = (2, 160)) ∧ (O h 14 = .ref (h + 12) ∧ T (h + 12) = (3, 9)) ∧ (O h 15 = .ref (h + 13) ∧ T (h + 13) = (2, 4)) ∧ (O h 16 = .ref (h + 14) ∧ T (h + 14) = (2, 4)) ∧ (O h 17 = .ref (h + 15) ∧ T (h + 15) = (3, 4)) ∧ (O h 18 = .ref (h + 16) ∧ T (h + 16) = (2, 40))
/-- its numbers are those of a state -/
def moS (I : gI) (h : Nat) (s : GS) : Prop := (1 ≤ gsm s ∧ gsm s ≤ 4) ∧ (1 ≤ gsn s ∧ gsn s ≤ 4) ∧ I (h + 1) 0 = nI (gsm s) ∧ I (h + 1) 1 = nI (gsn s) ∧ (∀ i k, i < 4 → k < 4 → I (h + 2) (4 * i + k) = gsP0 s (i * 4 + k)) ∧ (∀ i k, i < 4 → k < 4 → I (h + 2) (16 + 4 * i + k) = gsP1 s (k * 4 + i)) ∧ (∀ j, j < 4 → I (h + 3) j = gsw0 s j) ∧ (∀ j, j < 4 → I (h + 3) (4 + j) = gsw1 s j) ∧ ∀ j, j < 7 → I (h + 4) j = gsrf s j
def moG (G : gG) (T : gTy) (nn h : Nat) (s : GS) (H1 : Heap) : Prop := ∃ (I2 : gI) (J2 : gJ) (O2 : gO) (Q : gR), gP G T I2 J2 Q O2 H1 ∧ isMo T O2 h ∧ moS I2 h s ∧ nn ≤ H1.size
def inL (x a b : Int64) : Bool := decide (a ≤ x) && decide (x ≤ b)
theorem inL_R {x : Int32} {n : Nat} (h1 : 1 ≤ n) (h2 : n ≤ 4) : inL x.toInt64 0 (nI (n - 1)).toInt64 = inR x n := by
  have a1 := nI_toInt (n := n - 1) (by omega)
  have a2 := nI_toInt (n := n) (by omega)
  have e0 : (0 : Int64).toInt = 0 := by decide
  have e1 : (0 : Int32).toInt = 0 := by decide
  unfold inL inR
  congr 1
  · simp only [Int64.le_iff_toInt_le, Int32.le_iff_toInt_le, Int32.toInt_toInt64, e0, e1]
  · simp only [Int64.le_iff_toInt_le, Int32.lt_iff_toInt_lt, Int32.toInt_toInt64, a1, a2]
    apply decide_eq_decide.mpr
    omega
theorem inL_f1 {a b d : Int64} (h : a < b) : inL a b d = false := by
  unfold inL
  rw [decide_eq_false (Int64.not_le.mpr h)]
  rfl
theorem inL_f2 {a b d : Int64} (h : d < a) : inL a b d = false := by
  unfold inL
  rw [decide_eq_false (Int64.not_le.mpr h), Bool.and_false]
theorem inL_t {a b d : Int64} (h : ¬ a < b) (h2 : ¬ d < a) : inL a b d = true := by
  unfold inL
  rw [decide_eq_true (Int64.not_lt.mp h), decide_eq_true (Int64.not_lt.mp h2)]
  rfl
set_option maxHeartbeats 4000000 in
set_option maxRecDepth 100000 in
theorem c_X5_isWho (l : Launch) {G : gG} {H : Heap} {q : Int32} : Met l yX5_isWho (gw yX5_isWho cX5_isWho 1 (some (.boolean))) ({ frames := 0, cells := 0, slots := 0, locals := 0 } : Room) (gPc G H [.int q]) (gQp (some (.int (gb (isW q))))) 0 0 (fun _ => False) := by
  refine g_met [(0, .int q)] (by decide) rfl (by exact Nat.le_of_ble_eq_true rfl) ?_
  intro p e s m below meth c hC hs ls hl
  have hx := hC.1.1
  have hb := hC.1.2.1
  refine lv_iload_n hx hb dX5_isWho_0 rfl (lv_at hl 0 rfl) ?_
  refine lv_if_eq (tgt := 9) hx hb dX5_isWho_1 (by decide) (fun c1 => ?_) (fun c1 => ?_)
  · refine lv_iconst (v := nI 1) hx hb dX5_isWho_9 (by decide) ?_
    refine lv_goto (tgt := 14) hx hb dX5_isWho_10 (by decide) ?_
    refine g_retz hC hs ?_ dX5_isWho_14
    simp_all [isW, gb, nI]
  · refine lv_iload_n hx hb dX5_isWho_4 rfl (lv_at hl 0 rfl) ?_
    refine lv_iconst (v := nI 1) hx hb dX5_isWho_5 (by decide) ?_
    refine lv_icmp_ne (tgt := 13) hx hb dX5_isWho_6 (by decide) (fun c6 => ?_) (fun c6 => ?_)
    · refine lv_iconst (v := nI 0) hx hb dX5_isWho_13 (by decide) ?_
      refine g_retz hC hs ?_ dX5_isWho_14
      simp_all [isW, gb, nI]
    · refine lv_iconst (v := nI 1) hx hb dX5_isWho_9 (by decide) ?_
      refine lv_goto (tgt := 14) hx hb dX5_isWho_10 (by decide) ?_
      refine g_retz hC hs ?_ dX5_isWho_14
      simp_all [isW, gb, nI]
set_option maxHeartbeats 4000000 in
set_option maxRecDepth 100000 in
theorem c_X5_in (l : Launch) {G : gG} {H : Heap} {a b2 d2 : Int64} : Met l yX5_in (gw yX5_in cX5_in 6 (some (.boolean))) ({ frames := 0, cells := 0, slots := 0, locals := 0 } : Room) (gPc G H [.long a, .long b2, .long d2]) (gQp (some (.int (gb (inL a b2 d2))))) 0 0 (fun _ => False) := by
  refine g_met [(0, .long a), (2, .long b2), (4, .long d2)] (by decide) rfl (by exact Nat.le_of_ble_eq_true rfl) ?_
  intro p e s m below meth c hC hs ls hl
  have hx := hC.1.1
  have hb := hC.1.2.1
  refine lv_lload_n hx hb dX5_in_0 rfl (lv_at hl 0 rfl) ?_
  refine lv_lload_n hx hb dX5_in_1 rfl (lv_at hl 1 rfl) ?_
  refine W.lcmp hx hb dX5_in_2 ?_
  refine lv_if_lt (tgt := 17) hx hb dX5_in_3 (by decide) (fun c3 => ?_) (fun c3 => ?_)
  · have c3 := (lg_cmp_lt _ _).mp c3
    refine lv_iconst (v := nI 0) hx hb dX5_in_17 (by decide) ?_
    refine g_retz hC hs ?_ dX5_in_18
    first | (rw [inL_f1 c3]; rfl) | (rw [inL_t c3 c10]; rfl) | (rw [inL_f2 c10]; rfl)
  · have c3 := mt (lg_cmp_lt _ _).mpr c3
    refine lv_lload_n hx hb dX5_in_6 rfl (lv_at hl 0 rfl) ?_
    refine lv_lload hx hb dX5_in_7 (lv_at hl 2 rfl) ?_
    refine W.lcmp hx hb dX5_in_9 ?_
    refine lv_if_gt (tgt := 17) hx hb dX5_in_10 (by decide) (fun c10 => ?_) (fun c10 => ?_)
    · have c10 := (lg_cmp_gt _ _).mp c10
      refine lv_iconst (v := nI 0) hx hb dX5_in_17 (by decide) ?_
      refine g_retz hC hs ?_ dX5_in_18
      first | (rw [inL_f1 c3]; rfl) | (rw [inL_t c3 c10]; rfl) | (rw [inL_f2 c10]; rfl)
    · have c10 := mt (lg_cmp_gt _ _).mpr c10
      refine lv_iconst (v := nI 1) hx hb dX5_in_13 (by decide) ?_
      refine lv_goto (tgt := 18) hx hb dX5_in_14 (by decide) ?_
      refine g_retz hC hs ?_ dX5_in_18
      first | (rw [inL_f1 c3]; rfl) | (rw [inL_t c3 c10]; rfl) | (rw [inL_f2 c10]; rfl)
set_option maxHeartbeats 4000000 in
set_option maxRecDepth 100000 in
theorem c_X5_isChoice (l : Launch) {G : gG} {T : gTy} {I : gI} {J : gJ} {Q : gR} {O : gO} {H : Heap} (hP : gP G T I J Q O H) {h : Nat} {st : GS} {q k : Int32} (hm : isMo T O h) (hs0 : moS I h st) : Met l yX5_isChoice (gw yX5_isChoice cX5_isChoice 3 (some (.boolean))) ({ frames := 1, cells := 0, slots := 0, locals := 25 } : Room) (gPc G H [.ref h, .int q, .int k]) (gQp (some (.int (gb (isW q && inR k (if q = nI 0 then gsm st else gsn st)))))) 0 0 (fun _ => False) := by
  refine g_met [(0, .ref h), (1, .int q), (2, .int k)] (by decide) rfl (by exact Nat.le_of_ble_eq_true rfl) ?_
  intro p e s m below meth c hC hs ls hl
  have hx := hC.1.1
  have hb := hC.1.2.1
  have hms := hs0.1
  have hns := hs0.2.1
  refine lv_iload_n hx hb dX5_isChoice_0 rfl (lv_at hl 1 rfl) ?_
  refine g_cp (g_rS (As := [.int q]) hC (c_X5_isWho l (q := q)) ⟨q3_78, q3_76, q3_77, q1_6⟩ dd_X5_isWho ⟨Nat.le_of_ble_eq_true rfl, Nat.le_of_ble_eq_true rfl, rfl, rfl⟩ hl.1 rfl (Nat.le_of_ble_eq_true rfl) dX5_isChoice_1 ⟨Nat.le_of_ble_eq_true rfl, Nat.le_of_ble_eq_true rfl⟩) ?_
  refine W.eq (g2 := F0 m 4 ls [.int (gb (isW q))]) rfl ?_
  refine lv_if_eq (tgt := 29) hx hb dX5_isChoice_4 (by decide) (fun c4 => ?_) (fun c4 => ?_)
  · have c4 := gb_f c4
    refine lv_iconst (v := nI 0) hx hb dX5_isChoice_29 (by decide) ?_
    refine g_retz hC hs ?_ dX5_isChoice_30
    rw [c4]; rfl
  · have c4 := gb_t c4
    rcases isW_c c4 with rfl | rfl
    · refine lv_iload_n hx hb dX5_isChoice_7 rfl (lv_at hl 2 rfl) ?_
      refine lv_i2l hx hb dX5_isChoice_8 rfl ?_
      refine lv_lconst (v := 0) hx hb dX5_isChoice_9 (by decide) ?_
      refine lv_aload_n hx hb dX5_isChoice_10 rfl (lv_at hl 0 rfl) ?_
      refine g_get hC hP hm.1 rfl inX5 0 (by decide) q3_6 hm.2.1.1 dX5_isChoice_11 ?_
      refine lv_iload_n hx hb dX5_isChoice_14 rfl (lv_at hl 1 rfl) ?_
      refine g_iald hC hP hm.2.1.2 (vp_in_nI (by omega) (by decide)) dX5_isChoice_15 ?_
      refine g_topi (y := nI (gsm st)) hs0.2.2.1 ?_
      refine lv_iconst (v := nI 1) hx hb dX5_isChoice_16 (by decide) ?_
      refine lv_isub hx hb dX5_isChoice_17 ?_
      refine g_topi (y := nI (gsm st - 1)) (nI_subn (by omega)) ?_
      refine lv_i2l hx hb dX5_isChoice_18 rfl ?_
      refine g_cp (g_rS (As := [.long k.toInt64, .long (0 : Int64), .long ((nI (gsm st - 1)).toInt64)]) hC (c_X5_in l (a := k.toInt64) (b2 := (0 : Int64)) (d2 := (nI (gsm st - 1)).toInt64)) ⟨q3_85, q3_83, q3_84, q1_6⟩ dd_X5_in ⟨Nat.le_of_ble_eq_true rfl, Nat.le_of_ble_eq_true rfl, rfl, rfl⟩ hl.1 rfl (Nat.le_of_ble_eq_true rfl) dX5_isChoice_19 ⟨Nat.le_of_ble_eq_true rfl, Nat.le_of_ble_eq_true rfl⟩) ?_
      refine W.eq (g2 := F0 m 22 ls [.int (gb (inL k.toInt64 (0 : Int64) ((nI (gsm st - 1)).toInt64)))]) rfl ?_
      refine lv_if_eq (tgt := 29) hx hb dX5_isChoice_22 (by decide) (fun c22 => ?_) (fun c22 => ?_)
      · have c22 := gb_f c22
        refine lv_iconst (v := nI 0) hx hb dX5_isChoice_29 (by decide) ?_
        refine g_retz hC hs ?_ dX5_isChoice_30
        rw [inL_R (by omega) (by omega)] at c22; (first | rw [if_pos rfl] | rw [if_neg (by decide)]); rw [c22]; rfl
      · have c22 := gb_t c22
        refine lv_iconst (v := nI 1) hx hb dX5_isChoice_25 (by decide) ?_
        refine lv_goto (tgt := 30) hx hb dX5_isChoice_26 (by decide) ?_
        refine g_retz hC hs ?_ dX5_isChoice_30
        rw [inL_R (by omega) (by omega)] at c22; (first | rw [if_pos rfl] | rw [if_neg (by decide)]); rw [c22]; rfl
    · refine lv_iload_n hx hb dX5_isChoice_7 rfl (lv_at hl 2 rfl) ?_
      refine lv_i2l hx hb dX5_isChoice_8 rfl ?_
      refine lv_lconst (v := 0) hx hb dX5_isChoice_9 (by decide) ?_
      refine lv_aload_n hx hb dX5_isChoice_10 rfl (lv_at hl 0 rfl) ?_
      refine g_get hC hP hm.1 rfl inX5 0 (by decide) q3_6 hm.2.1.1 dX5_isChoice_11 ?_
      refine lv_iload_n hx hb dX5_isChoice_14 rfl (lv_at hl 1 rfl) ?_
      refine g_iald hC hP hm.2.1.2 (vp_in_nI (by omega) (by decide)) dX5_isChoice_15 ?_
      refine g_topi (y := nI (gsn st)) hs0.2.2.2.1 ?_
      refine lv_iconst (v := nI 1) hx hb dX5_isChoice_16 (by decide) ?_
      refine lv_isub hx hb dX5_isChoice_17 ?_
      refine g_topi (y := nI (gsn st - 1)) (nI_subn (by omega)) ?_
      refine lv_i2l hx hb dX5_isChoice_18 rfl ?_
      refine g_cp (g_rS (As := [.long k.toInt64, .long (0 : Int64), .long ((nI (gsn st - 1)).toInt64)]) hC (c_X5_in l (a := k.toInt64) (b2 := (0 : Int64)) (d2 := (nI (gsn st - 1)).toInt64)) ⟨q3_85, q3_83, q3_84, q1_6⟩ dd_X5_in ⟨Nat.le_of_ble_eq_true rfl, Nat.le_of_ble_eq_true rfl, rfl, rfl⟩ hl.1 rfl (Nat.le_of_ble_eq_true rfl) dX5_isChoice_19 ⟨Nat.le_of_ble_eq_true rfl, Nat.le_of_ble_eq_true rfl⟩) ?_
      refine W.eq (g2 := F0 m 22 ls [.int (gb (inL k.toInt64 (0 : Int64) ((nI (gsn st - 1)).toInt64)))]) rfl ?_
      refine lv_if_eq (tgt := 29) hx hb dX5_isChoice_22 (by decide) (fun c22 => ?_) (fun c22 => ?_)
      · have c22 := gb_f c22
        refine lv_iconst (v := nI 0) hx hb dX5_isChoice_29 (by decide) ?_
        refine g_retz hC hs ?_ dX5_isChoice_30
        rw [inL_R (by omega) (by omega)] at c22; (first | rw [if_pos rfl] | rw [if_neg (by decide)]); rw [c22]; rfl
      · have c22 := gb_t c22
        refine lv_iconst (v := nI 1) hx hb dX5_isChoice_25 (by decide) ?_
        refine lv_goto (tgt := 30) hx hb dX5_isChoice_26 (by decide) ?_
        refine g_retz hC hs ?_ dX5_isChoice_30
        rw [inL_R (by omega) (by omega)] at c22; (first | rw [if_pos rfl] | rw [if_neg (by decide)]); rw [c22]; rfl
set_option maxHeartbeats 4000000 in
set_option maxRecDepth 100000 in
theorem c_X5_get (l : Launch) {G : gG} {T : gTy} {I : gI} {J : gJ} {Q : gR} {O : gO} {H : Heap} (hP : gP G T I J Q O H) {h : Nat} {st : GS} {w i k : Nat} (hm : isMo T O h) (hs0 : moS I h st) (hw : w < 2) (hi : i < 4) (hk : k < 4) : Met l yX5_get (gw yX5_get cX5_get 4 (some (.int))) ({ frames := 0, cells := 0, slots := 0, locals := 0 } : Room) (gPc G H [.ref h, .int (nI w), .int (nI i), .int (nI k)]) (gQp (some (.int ((if w = 0 then gsP0 st else gsP1 st) (i * 4 + k))))) 0 0 (fun _ => False) := by
  refine g_met [(0, .ref h), (1, .int (nI w)), (2, .int (nI i)), (3, .int (nI k))] (by decide) rfl (by exact Nat.le_of_ble_eq_true rfl) ?_
  intro p e s m below meth c hC hs ls hl
  have hx := hC.1.1
  have hb := hC.1.2.1
  refine lv_iload_n hx hb dX5_get_0 rfl (lv_at hl 1 rfl) ?_
  refine lv_if_ne (tgt := 17) hx hb dX5_get_1 (by decide) (fun c1 => ?_) (fun c1 => ?_)
  · have c1 := mt (fun q => ((nI_eq (b := 0) (by omega) (by decide)).mpr q).trans nI_0) c1
    refine lv_aload_n hx hb dX5_get_17 rfl (lv_at hl 0 rfl) ?_
    refine g_get hC hP hm.1 rfl inX5 1 (by decide) q3_7 hm.2.2.1.1 dX5_get_18 ?_
    refine lv_bipush (v := nI 16) hx hb dX5_get_21 (by decide) ?_
    refine lv_iconst (v := nI 4) hx hb dX5_get_23 (by decide) ?_
    refine lv_iload_n hx hb dX5_get_24 rfl (lv_at hl 3 rfl) ?_
    refine lv_imul hx hb dX5_get_25 ?_
    refine g_topi (y := nI (4 * k)) (nI_mul _ _) ?_
    refine lv_iadd hx hb dX5_get_26 ?_
    refine g_topi (y := nI (16 + (4 * k))) (nI_add _ _) ?_
    refine lv_iload_n hx hb dX5_get_27 rfl (lv_at hl 2 rfl) ?_
    refine lv_iadd hx hb dX5_get_28 ?_
    refine g_topi (y := nI (16 + (4 * k) + i)) (nI_add _ _) ?_
    refine g_iald hC hP hm.2.2.1.2 (vp_in_nI (by omega) (by decide)) dX5_get_29 ?_
    refine g_topi (y := gsP1 st (i * 4 + k)) ((congrArg (I (h + 2)) (nI_clamp (by omega))).trans (hs0.2.2.2.2.2.1 k i hk hi)) ?_
    refine g_reti hC hs ?_ dX5_get_30
    first | rw [if_pos c1] | rw [if_neg c1]
  · have c1 := (nI_eq (by omega) (by decide)).mp (c1.trans nI_0.symm)
    refine lv_aload_n hx hb dX5_get_4 rfl (lv_at hl 0 rfl) ?_
    refine g_get hC hP hm.1 rfl inX5 1 (by decide) q3_7 hm.2.2.1.1 dX5_get_5 ?_
    refine lv_iconst (v := nI 4) hx hb dX5_get_8 (by decide) ?_
    refine lv_iload_n hx hb dX5_get_9 rfl (lv_at hl 2 rfl) ?_
    refine lv_imul hx hb dX5_get_10 ?_
    refine g_topi (y := nI (4 * i)) (nI_mul _ _) ?_
    refine lv_iload_n hx hb dX5_get_11 rfl (lv_at hl 3 rfl) ?_
    refine lv_iadd hx hb dX5_get_12 ?_
    refine g_topi (y := nI (4 * i + k)) (nI_add _ _) ?_
    refine g_iald hC hP hm.2.2.1.2 (vp_in_nI (by omega) (by decide)) dX5_get_13 ?_
    refine g_topi (y := gsP0 st (i * 4 + k)) ((congrArg (I (h + 2)) (nI_clamp (by omega))).trans (hs0.2.2.2.2.1 i k hi hk)) ?_
    refine lv_goto (tgt := 30) hx hb dX5_get_14 (by decide) ?_
    refine g_reti hC hs ?_ dX5_get_30
    first | rw [if_pos c1] | rw [if_neg c1]
set_option maxHeartbeats 4000000 in
set_option maxRecDepth 100000 in
theorem c_X5_placeOf (l : Launch) {G : gG} {T : gTy} {I : gI} {J : gJ} {Q : gR} {O : gO} {H : Heap} (hP : gP G T I J Q O H) {h w i k : Nat} (hw : w < 2) (hi : i < 4) (hk : k < 4) : Met l yX5_placeOf (gw yX5_placeOf cX5_placeOf 4 (some (.int))) ({ frames := 0, cells := 0, slots := 0, locals := 0 } : Room) (gPc G H [.ref h, .int (nI w), .int (nI i), .int (nI k)]) (gQp (some (.int (nI (if w = 0 then 4 * i + k else 16 + 4 * k + i))))) 0 0 (fun _ => False) := by
  refine g_met [(0, .ref h), (1, .int (nI w)), (2, .int (nI i)), (3, .int (nI k))] (by decide) rfl (by exact Nat.le_of_ble_eq_true rfl) ?_
  intro p e s m below meth c hC hs ls hl
  have hx := hC.1.1
  have hb := hC.1.2.1
  refine lv_iload_n hx hb dX5_placeOf_0 rfl (lv_at hl 1 rfl) ?_
  refine lv_if_ne (tgt := 12) hx hb dX5_placeOf_1 (by decide) (fun c1 => ?_) (fun c1 => ?_)
  · have c1 := mt (fun q => ((nI_eq (b := 0) (by omega) (by decide)).mpr q).trans nI_0) c1
    refine lv_bipush (v := nI 16) hx hb dX5_placeOf_12 (by decide) ?_
    refine lv_iconst (v := nI 4) hx hb dX5_placeOf_14 (by decide) ?_
    refine lv_iload_n hx hb dX5_placeOf_15 rfl (lv_at hl 3 rfl) ?_
    refine lv_imul hx hb dX5_placeOf_16 ?_
    refine g_topi (y := nI (4 * k)) (nI_mul _ _) ?_
    refine lv_iadd hx hb dX5_placeOf_17 ?_
    refine g_topi (y := nI (16 + (4 * k))) (nI_add _ _) ?_
    refine lv_iload_n hx hb dX5_placeOf_18 rfl (lv_at hl 2 rfl) ?_
    refine lv_iadd hx hb dX5_placeOf_19 ?_
    refine g_topi (y := nI (16 + (4 * k) + i)) (nI_add _ _) ?_
    refine g_reti hC hs ?_ dX5_placeOf_20
    first | rw [if_pos c1] | rw [if_neg c1]
  · have c1 := (nI_eq (by omega) (by decide)).mp (c1.trans nI_0.symm)
    refine lv_iconst (v := nI 4) hx hb dX5_placeOf_4 (by decide) ?_
    refine lv_iload_n hx hb dX5_placeOf_5 rfl (lv_at hl 2 rfl) ?_
    refine lv_imul hx hb dX5_placeOf_6 ?_
    refine g_topi (y := nI (4 * i)) (nI_mul _ _) ?_
    refine lv_iload_n hx hb dX5_placeOf_7 rfl (lv_at hl 3 rfl) ?_
    refine lv_iadd hx hb dX5_placeOf_8 ?_
    refine g_topi (y := nI (4 * i + k)) (nI_add _ _) ?_
    refine lv_goto (tgt := 20) hx hb dX5_placeOf_9 (by decide) ?_
    refine g_reti hC hs ?_ dX5_placeOf_20
    first | rw [if_pos c1] | rw [if_neg c1]
set_option maxHeartbeats 4000000 in
set_option maxRecDepth 100000 in
theorem c_X5_refuse (l : Launch) {G : gG} {T : gTy} {I : gI} {J : gJ} {Q : gR} {O : gO} {H : Heap} (hP : gP G T I J Q O H) {h : Nat} {q : Int32} {j : Nat} (hm : isMo T O h) (hq : q = -(nI j)) (hj : 1 ≤ j ∧ j ≤ 6) : Met l yX5_refuse (gw yX5_refuse cX5_refuse 2 (some (.int))) ({ frames := 0, cells := 0, slots := 0, locals := 0 } : Room) (gPc G H [.ref h, .int q]) (gQc (gF T H) (fun r H1 => r = some (.int q) ∧ gP G T (au I (h + 4) j (I (h + 4) j + 1)) J Q O H1)) 0 0 (gF T H) := by
  refine g_met [(0, .ref h), (1, .int q)] (by decide) rfl (by exact Nat.le_of_ble_eq_true rfl) ?_
  intro p e s m below meth c hC hs ls hl
  have hx := hC.1.1
  have hb := hC.1.2.1
  have hS : va_S (gF T H) s.heap H [] := hs ▸ va_S.rf
  have hTA : ∀ q, (T q).1 ≠ 0 → gF T H q := fun q h => Or.inl h
  have hA : ∀ q, s.heap.size ≤ q → gF T H q := fun q h => Or.inr (hs ▸ h)
  generalize hAe : gF T H = A at hS hTA hA ⊢
  refine lv_aload_n hx hb dX5_refuse_0 rfl (lv_at hl 0 rfl) ?_
  refine g_get hC hP hm.1 rfl inX5 3 (by decide) q3_9 hm.2.2.2.2.1.1 dX5_refuse_1 ?_
  refine lv_iload_n hx hb dX5_refuse_4 rfl (lv_at hl 1 rfl) ?_
  refine lv_ineg hx hb dX5_refuse_5 ?_
  refine g_topi (y := nI j) (by rw [hq]; exact Int32.neg_neg) ?_
  refine lv_dup2_11 hx hb dX5_refuse_6 rfl rfl ?_
  refine g_iald hC hP hm.2.2.2.2.1.2 (vp_in_nI (by omega) (by decide)) dX5_refuse_7 ?_
  refine g_topi (y := I (h + 4) j) (congrArg (I (h + 4)) (nI_clamp (by omega))) ?_
  refine lv_iconst (v := nI 1) hx hb dX5_refuse_8 (by decide) ?_
  refine lv_iadd hx hb dX5_refuse_9 ?_
  refine g_topi (y := I (h + 4) j + 1) rfl ?_
  refine g_iast hC hP hS hTA hm.2.2.2.2.1.2 (vp_in_nI (by omega) (by decide)) dX5_refuse_10 (fun H1 locs2 hP hS hz4 => ?_)
  rw [show (nI j).toNatClampNeg = j from nI_clamp (by omega)] at hP
  obtain ⟨I3, hI3, hP⟩ : ∃ X : gI, X = au I (h + 4) j (I (h + 4) j + 1) ∧ gP G T X J Q O H1 := ⟨_, rfl, hP⟩
  refine lv_iload_n hx hb dX5_refuse_11 rfl (lv_at hl 1 rfl) ?_
  refine g_retci hC hS ?_ dX5_refuse_12
  refine ⟨rfl, ?_⟩
  simpa only [*] using hP
set_option maxHeartbeats 4000000 in
set_option maxRecDepth 100000 in
theorem c_X5_refuseBig (l : Launch) {G : gG} {T : gTy} {I : gI} {J : gJ} {Q : gR} {O : gO} {H : Heap} (hP : gP G T I J Q O H) {h : Nat} {q : Int32} {j : Nat} (hm : isMo T O h) (hq : q = -(nI j)) (hj : 1 ≤ j ∧ j ≤ 6) : Met l yX5_refuseBig (gw yX5_refuseBig cX5_refuseBig 2 (some (.int))) ({ frames := 0, cells := 0, slots := 0, locals := 0 } : Room) (gPc G H [.ref h, .int q]) (gQc (gF T H) (fun r H1 => r = some (.int (1000000000 - q)) ∧ gP G T (au I (h + 4) j (I (h + 4) j + 1)) J Q O H1)) 0 0 (gF T H) := by
  refine g_met [(0, .ref h), (1, .int q)] (by decide) rfl (by exact Nat.le_of_ble_eq_true rfl) ?_
  intro p e s m below meth c hC hs ls hl
  have hx := hC.1.1
  have hb := hC.1.2.1
  have hS : va_S (gF T H) s.heap H [] := hs ▸ va_S.rf
  have hTA : ∀ q, (T q).1 ≠ 0 → gF T H q := fun q h => Or.inl h
  have hA : ∀ q, s.heap.size ≤ q → gF T H q := fun q h => Or.inr (hs ▸ h)
  generalize hAe : gF T H = A at hS hTA hA ⊢
  refine lv_aload_n hx hb dX5_refuseBig_0 rfl (lv_at hl 0 rfl) ?_
  refine g_get hC hP hm.1 rfl inX5 3 (by decide) q3_9 hm.2.2.2.2.1.1 dX5_refuseBig_1 ?_
  refine lv_iload_n hx hb dX5_refuseBig_4 rfl (lv_at hl 1 rfl) ?_
  refine lv_ineg hx hb dX5_refuseBig_5 ?_
  refine g_topi (y := nI j) (by rw [hq]; exact Int32.neg_neg) ?_
  refine lv_dup2_11 hx hb dX5_refuseBig_6 rfl rfl ?_
  refine g_iald hC hP hm.2.2.2.2.1.2 (vp_in_nI (by omega) (by decide)) dX5_refuseBig_7 ?_
  refine g_topi (y := I (h + 4) j) (congrArg (I (h + 4)) (nI_clamp (by omega))) ?_
  refine lv_iconst (v := nI 1) hx hb dX5_refuseBig_8 (by decide) ?_
  refine lv_iadd hx hb dX5_refuseBig_9 ?_
  refine g_topi (y := I (h + 4) j + 1) rfl ?_
  refine g_iast hC hP hS hTA hm.2.2.2.2.1.2 (vp_in_nI (by omega) (by decide)) dX5_refuseBig_10 (fun H1 locs2 hP hS hz4 => ?_)
  rw [show (nI j).toNatClampNeg = j from nI_clamp (by omega)] at hP
  obtain ⟨I3, hI3, hP⟩ : ∃ X : gI, X = au I (h + 4) j (I (h + 4) j + 1) ∧ gP G T X J Q O H1 := ⟨_, rfl, hP⟩
  refine lv_ldc (v := (1000000000 : Int32)) hx hb hC.1.2.2.2.1 (hC.1.2.2.2.2 _ q3_90) dX5_refuseBig_11 ?_
  refine lv_iload_n hx hb dX5_refuseBig_13 rfl (lv_at hl 1 rfl) ?_
  refine lv_isub hx hb dX5_refuseBig_14 ?_
  refine g_retci hC hS ?_ dX5_refuseBig_15
  refine ⟨rfl, ?_⟩
  simpa only [*] using hP
set_option maxHeartbeats 4000000 in
set_option maxRecDepth 100000 in
theorem c_X5_refuseGreat (l : Launch) {G : gG} {T : gTy} {I : gI} {J : gJ} {Q : gR} {O : gO} {H : Heap} (hP : gP G T I J Q O H) {h : Nat} {q : Int32} {j : Nat} (hm : isMo T O h) (hq : q = -(nI j)) (hj : 1 ≤ j ∧ j ≤ 6) : Met l yX5_refuseGreat (gw yX5_refuseGreat cX5_refuseGreat 2 (some (.long))) ({ frames := 0, cells := 0, slots := 0, locals := 0 } : Room) (gPc G H [.ref h, .int q]) (gQc (gF T H) (fun r H1 => r = some (.long (4000000000000000000 - q.toInt64)) ∧ gP G T (au I (h + 4) j (I (h + 4) j + 1)) J Q O H1)) 0 0 (gF T H) := by
  refine g_met [(0, .ref h), (1, .int q)] (by decide) rfl (by exact Nat.le_of_ble_eq_true rfl) ?_
  intro p e s m below meth c hC hs ls hl
  have hx := hC.1.1
  have hb := hC.1.2.1
  have hS : va_S (gF T H) s.heap H [] := hs ▸ va_S.rf
  have hTA : ∀ q, (T q).1 ≠ 0 → gF T H q := fun q h => Or.inl h
  have hA : ∀ q, s.heap.size ≤ q → gF T H q := fun q h => Or.inr (hs ▸ h)
  generalize hAe : gF T H = A at hS hTA hA ⊢
  refine lv_aload_n hx hb dX5_refuseGreat_0 rfl (lv_at hl 0 rfl) ?_
  refine g_get hC hP hm.1 rfl inX5 3 (by decide) q3_9 hm.2.2.2.2.1.1 dX5_refuseGreat_1 ?_
  refine lv_iload_n hx hb dX5_refuseGreat_4 rfl (lv_at hl 1 rfl) ?_
  refine lv_ineg hx hb dX5_refuseGreat_5 ?_
  refine g_topi (y := nI j) (by rw [hq]; exact Int32.neg_neg) ?_
  refine lv_dup2_11 hx hb dX5_refuseGreat_6 rfl rfl ?_
  refine g_iald hC hP hm.2.2.2.2.1.2 (vp_in_nI (by omega) (by decide)) dX5_refuseGreat_7 ?_
  refine g_topi (y := I (h + 4) j) (congrArg (I (h + 4)) (nI_clamp (by omega))) ?_
  refine lv_iconst (v := nI 1) hx hb dX5_refuseGreat_8 (by decide) ?_
  refine lv_iadd hx hb dX5_refuseGreat_9 ?_
  refine g_topi (y := I (h + 4) j + 1) rfl ?_
  refine g_iast hC hP hS hTA hm.2.2.2.2.1.2 (vp_in_nI (by omega) (by decide)) dX5_refuseGreat_10 (fun H1 locs2 hP hS hz4 => ?_)
  rw [show (nI j).toNatClampNeg = j from nI_clamp (by omega)] at hP
  obtain ⟨I3, hI3, hP⟩ : ∃ X : gI, X = au I (h + 4) j (I (h + 4) j + 1) ∧ gP G T X J Q O H1 := ⟨_, rfl, hP⟩
  refine lv_ldc2 (v := (4000000000000000000 : Int64)) hx hb hC.1.2.2.2.1 (hC.1.2.2.2.2 _ q3_108) dX5_refuseGreat_11 ?_
  refine lv_iload_n hx hb dX5_refuseGreat_14 rfl (lv_at hl 1 rfl) ?_
  refine lv_i2l hx hb dX5_refuseGreat_15 rfl ?_
  refine lv_lsub hx hb dX5_refuseGreat_16 ?_
  refine g_retcl hC hS ?_ dX5_refuseGreat_17
  refine ⟨rfl, ?_⟩
  simpa only [*] using hP
