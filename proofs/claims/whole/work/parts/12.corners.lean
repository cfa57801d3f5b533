/-! ===== corners in the memory ===== -/
theorem ne_of_T {T : gTy} {a b : Nat} {x y : Nat × Nat} (ha : T a = x) (hb : T b = y) (h : x ≠ y) : a ≠ b := fun e => h (by rw [← ha, ← hb, e])
/-- the rows of gaps of a Corners object at k -/
def coG (T : gTy) (Q : gR) (O : gO) (k : Nat) : Prop := T k = (1, 0) ∧ O k 1 = .ref (k + 1) ∧ O k 3 = .ref (k + 4) ∧ T (k + 1) = (4, 69) ∧ T (k + 4) = (5, 3) ∧ T (k + 5) = (3, 4) ∧ T (k + 6) = (3, 4) ∧ T (k + 7) = (3, 4) ∧ Q (k + 4) 0 = some (k + 5) ∧ Q (k + 4) 1 = some (k + 6) ∧ Q (k + 4) 2 = some (k + 7)
theorem coG_q {T : gTy} {Q : gR} {O : gO} {k j : Nat} (h : coG T Q O k) (hj : j < 3) : va_rf (Q (k + 4) j) = .ref (k + 5 + j) := by
  rcases (show j = 0 ∨ j = 1 ∨ j = 2 by omega) with rfl | rfl | rfl
  · rw [h.2.2.2.2.2.2.2.2.1]; rfl
  · rw [h.2.2.2.2.2.2.2.2.2.1]; rfl
  · rw [h.2.2.2.2.2.2.2.2.2.2]; rfl
theorem coG_t {T : gTy} {Q : gR} {O : gO} {k j : Nat} (h : coG T Q O k) (hj : j < 3) : T (k + 5 + j) = (3, 4) := by
  rcases (show j = 0 ∨ j = 1 ∨ j = 2 by omega) with rfl | rfl | rfl
  · exact h.2.2.2.2.2.1
  · exact h.2.2.2.2.2.2.1
  · exact h.2.2.2.2.2.2.2.1
/-- two lines' determinant -/
def det2 (M : Nat → Nat → Int64) (x y a b : Nat) : Int64 := M x a * M y b - M x b * M y a
def detA (place : Nat) : Nat := if 0 < place then 0 else 1
def detB (place : Nat) : Nat := if 1 < place then 1 else 2
def detC (place : Nat) : Nat := if 2 < place then 2 else 3
/-- the determinant of the lines without one place -/
def detS (M : Nat → Nat → Int64) (place lines : Nat) : Int64 := match lines with
  | 0 => 1
  | 1 => M 0 (detA place)
  | 2 => det2 M 0 1 (detA place) (detB place)
  | _ => M 0 (detA place) * det2 M 1 2 (detB place) (detC place) - M 0 (detB place) * det2 M 1 2 (detA place) (detC place) + M 0 (detC place) * det2 M 1 2 (detA place) (detB place)
/-- the first of 0 .. n - 1 with p -/
def fstN (p : Nat → Bool) (n : Nat) : Option Nat := (List.range n).find? p
theorem fstN_some {p : Nat → Bool} {i n : Nat} (hn : i < n) (h : p i = true) (hb : ∀ k, k < i → p k = false) : fstN p n = some i := by
  unfold fstN
  rw [List.find?_range_eq_some]
  exact ⟨h, List.mem_range.mpr hn, fun j hj => by simp [hb j hj]⟩
theorem fstN_none {p : Nat → Bool} {n : Nat} (hb : ∀ k, k < n → p k = false) : fstN p n = none := by
  unfold fstN
  rw [List.find?_eq_none]
  intro x hx
  rw [hb x (List.mem_range.mp hx)]
  decide
theorem fstN_lt {p : Nat → Bool} {n i : Nat} (h : fstN p n = some i) : i < n ∧ p i = true := ⟨List.mem_range.mp (List.mem_of_find?_eq_some h), List.find?_some h⟩
set_option maxHeartbeats 4000000 in
set_option maxRecDepth 100000 in
theorem c_X0_twoLines (l : Launch) {G : gG} {T : gTy} {I : gI} {J : gJ} {Q : gR} {O : gO} {H : Heap} (hP : gP G T I J Q O H) {k x y a d : Nat} (hco : coG T Q O k) (hx3 : x < 3) (hy3 : y < 3) (ha4 : a < 4) (hd4 : d < 4) : Met l yX0_twoLines (gw yX0_twoLines cX0_twoLines 5 (some (.long))) ({ frames := 0, cells := 0, slots := 0, locals := 0 } : Room) (gPc G H [.ref k, .int (nI x), .int (nI y), .int (nI a), .int (nI d)]) (gQp (some (.long (det2 (fun q => J (k + 5 + q)) x y a d)))) 0 0 (fun _ => False) := by
  refine g_met [(0, .ref k), (1, .int (nI x)), (2, .int (nI y)), (3, .int (nI a)), (4, .int (nI d))] (by decide) rfl (by exact Nat.le_of_ble_eq_true rfl) ?_
  intro p e s m below meth c hC hs ls hl
  have hx := hC.1.1
  have hb := hC.1.2.1
  have hgx := coG_t hco hx3
  have hgy := coG_t hco hy3
  refine lv_aload_n hx hb dX0_twoLines_0 rfl (lv_at hl 0 rfl) ?_
  refine g_get hC hP hco.1 rfl inX0 3 (by decide) q1_65 hco.2.2.1 dX0_twoLines_1 ?_
  refine lv_iload_n hx hb dX0_twoLines_4 rfl (lv_at hl 1 rfl) ?_
  refine g_aaldG hC hP hco.2.2.2.2.1 (vp_in_nI (by omega) (by decide)) (v := .ref (k + 5 + x)) (by rw [nI_clamp (by omega)]; exact coG_q hco (by omega)) dX0_twoLines_5 ?_
  refine lv_iload_n hx hb dX0_twoLines_6 rfl (lv_at hl 3 rfl) ?_
  refine g_lald hC hP hgx (vp_in_nI (by omega) (by decide)) dX0_twoLines_7 ?_
  refine g_topl (y := J (k + 5 + x) a) (congrArg (J (k + 5 + x)) (nI_clamp (by omega))) ?_
  refine lv_aload_n hx hb dX0_twoLines_8 rfl (lv_at hl 0 rfl) ?_
  refine g_get hC hP hco.1 rfl inX0 3 (by decide) q1_65 hco.2.2.1 dX0_twoLines_9 ?_
  refine lv_iload_n hx hb dX0_twoLines_12 rfl (lv_at hl 2 rfl) ?_
  refine g_aaldG hC hP hco.2.2.2.2.1 (vp_in_nI (by omega) (by decide)) (v := .ref (k + 5 + y)) (by rw [nI_clamp (by omega)]; exact coG_q hco (by omega)) dX0_twoLines_13 ?_
  refine lv_iload hx hb dX0_twoLines_14 (lv_at hl 4 rfl) ?_
  refine g_lald hC hP hgy (vp_in_nI (by omega) (by decide)) dX0_twoLines_16 ?_
  refine g_topl (y := J (k + 5 + y) d) (congrArg (J (k + 5 + y)) (nI_clamp (by omega))) ?_
  refine lv_lmul hx hb dX0_twoLines_17 ?_
  refine lv_aload_n hx hb dX0_twoLines_18 rfl (lv_at hl 0 rfl) ?_
  refine g_get hC hP hco.1 rfl inX0 3 (by decide) q1_65 hco.2.2.1 dX0_twoLines_19 ?_
  refine lv_iload_n hx hb dX0_twoLines_22 rfl (lv_at hl 1 rfl) ?_
  refine g_aaldG hC hP hco.2.2.2.2.1 (vp_in_nI (by omega) (by decide)) (v := .ref (k + 5 + x)) (by rw [nI_clamp (by omega)]; exact coG_q hco (by omega)) dX0_twoLines_23 ?_
  refine lv_iload hx hb dX0_twoLines_24 (lv_at hl 4 rfl) ?_
  refine g_lald hC hP hgx (vp_in_nI (by omega) (by decide)) dX0_twoLines_26 ?_
  refine g_topl (y := J (k + 5 + x) d) (congrArg (J (k + 5 + x)) (nI_clamp (by omega))) ?_
  refine lv_aload_n hx hb dX0_twoLines_27 rfl (lv_at hl 0 rfl) ?_
  refine g_get hC hP hco.1 rfl inX0 3 (by decide) q1_65 hco.2.2.1 dX0_twoLines_28 ?_
  refine lv_iload_n hx hb dX0_twoLines_31 rfl (lv_at hl 2 rfl) ?_
  refine g_aaldG hC hP hco.2.2.2.2.1 (vp_in_nI (by omega) (by decide)) (v := .ref (k + 5 + y)) (by rw [nI_clamp (by omega)]; exact coG_q hco (by omega)) dX0_twoLines_32 ?_
  refine lv_iload_n hx hb dX0_twoLines_33 rfl (lv_at hl 3 rfl) ?_
  refine g_lald hC hP hgy (vp_in_nI (by omega) (by decide)) dX0_twoLines_34 ?_
  refine g_topl (y := J (k + 5 + y) a) (congrArg (J (k + 5 + y)) (nI_clamp (by omega))) ?_
  refine lv_lmul hx hb dX0_twoLines_35 ?_
  refine lv_lsub hx hb dX0_twoLines_36 ?_
  exact g_retl hC hs rfl dX0_twoLines_37
set_option maxHeartbeats 4000000 in
set_option maxRecDepth 100000 in
theorem c_X0_gapsWithout (l : Launch) {G : gG} {T : gTy} {I : gI} {J : gJ} {Q : gR} {O : gO} {H : Heap} (hP : gP G T I J Q O H) {k pl ln : Nat} (hco : coG T Q O k) (hp : pl < 4) (hl4 : ln < 4) : Met l yX0_gapsWithout (gw yX0_gapsWithout cX0_gapsWithout 6 (some (.long))) ({ frames := 1, cells := 0, slots := 0, locals := 24 } : Room) (gPc G H [.ref k, .int (nI pl), .int (nI ln)]) (gQp (some (.long (detS (fun q => J (k + 5 + q)) pl ln)))) 0 0 (fun _ => False) := by
  refine g_met [(0, .ref k), (1, .int (nI pl)), (2, .int (nI ln))] (by decide) rfl (by exact Nat.le_of_ble_eq_true rfl) ?_
  intro p e s m below meth c hC hs ls hl
  have hx := hC.1.1
  have hb := hC.1.2.1
  have hg0 : T (k + 5) = (3, 4) := hco.2.2.2.2.2.1
  have e0 : va_rf (Q (k + 4) 0) = .ref (k + 5) := coG_q hco (j := 0) (by omega)
  refine lv_iload_n hx hb dX0_gapsWithout_0 rfl (lv_at hl 1 rfl) ?_
  refine lv_if_le (tgt := 8) hx hb dX0_gapsWithout_1 (by decide) (fun c1 => ?_) (fun c1 => ?_)
  · have c1 := (nI_le0 (by omega)).mp c1
    have ea : detA pl = 1 := if_neg (by omega)
    refine lv_iconst (v := nI 1) hx hb dX0_gapsWithout_8 (by decide) ?_
    refine lv_istore_n (lv' := [(3, .int (nI 1)), (0, .ref k), (1, .int (nI pl)), (2, .int (nI ln))]) hx hb dX0_gapsWithout_9 rfl hl (by decide) rfl (fun ls hl => ?_)
    refine lv_iload_n hx hb dX0_gapsWithout_10 rfl (lv_at hl 2 rfl) ?_
    refine lv_iconst (v := nI 1) hx hb dX0_gapsWithout_11 (by decide) ?_
    refine lv_icmp_le (tgt := 19) hx hb dX0_gapsWithout_12 (by decide) (fun c12 => ?_) (fun c12 => ?_)
    · have c12 := (nI_leI (by omega) (by omega)).mp c12
      have eb : detB pl = 2 := if_neg (by omega)
      refine lv_iconst (v := nI 2) hx hb dX0_gapsWithout_19 (by decide) ?_
      refine lv_istore (lv' := [(4, .int (nI 2)), (3, .int (nI 1)), (0, .ref k), (1, .int (nI pl)), (2, .int (nI ln))]) hx hb dX0_gapsWithout_20 hl (by decide) rfl (fun ls hl => ?_)
      refine lv_iload_n hx hb dX0_gapsWithout_22 rfl (lv_at hl 3 rfl) ?_
      refine lv_iconst (v := nI 2) hx hb dX0_gapsWithout_23 (by decide) ?_
      refine lv_icmp_le (tgt := 31) hx hb dX0_gapsWithout_24 (by decide) (fun c24 => ?_) (fun c24 => ?_)
      · have c24 := (nI_leI (by omega) (by omega)).mp c24
        have ec : detC pl = 3 := if_neg (by omega)
        refine lv_iconst (v := nI 3) hx hb dX0_gapsWithout_31 (by decide) ?_
        refine lv_istore (lv' := [(5, .int (nI 3)), (4, .int (nI 2)), (3, .int (nI 1)), (0, .ref k), (1, .int (nI pl)), (2, .int (nI ln))]) hx hb dX0_gapsWithout_32 hl (by decide) rfl (fun ls hl => ?_)
        refine lv_iload_n hx hb dX0_gapsWithout_34 rfl (lv_at hl 5 rfl) ?_
        rcases (show ln = 0 ∨ ln = 1 ∨ ln = 2 ∨ 2 < ln by omega) with hsw | hsw | hsw | hsw
        · refine lv_tableIn (tgt := 60) (off := 25) hx hb dX0_gapsWithout_35 (by rw [hsw]; decide) (by rw [hsw]; decide) (by rw [hsw]; decide) (by decide) ?_
          refine lv_lconst (v := 1) hx hb dX0_gapsWithout_60 (by decide) ?_
          refine g_retl hC hs ?_ dX0_gapsWithout_61
          first | subst hsw | obtain rfl : ln = 3 := by omega
          simp only [detS, ea, eb, ec]
          try rfl
        · refine lv_tableIn (tgt := 62) (off := 27) hx hb dX0_gapsWithout_35 (by rw [hsw]; decide) (by rw [hsw]; decide) (by rw [hsw]; decide) (by decide) ?_
          refine lv_aload_n hx hb dX0_gapsWithout_62 rfl (lv_at hl 3 rfl) ?_
          refine g_get hC hP hco.1 rfl inX0 3 (by decide) q1_65 hco.2.2.1 dX0_gapsWithout_63 ?_
          refine lv_iconst (v := nI 0) hx hb dX0_gapsWithout_66 (by decide) ?_
          refine g_aaldG hC hP hco.2.2.2.2.1 (vp_in_nI (by omega) (by decide)) (v := .ref (k + 5)) (by first | exact e0 | exact coG_q hco (j := 0) (by omega)) dX0_gapsWithout_67 ?_
          refine lv_iload_n hx hb dX0_gapsWithout_68 rfl (lv_at hl 2 rfl) ?_
          refine g_lald hC hP hg0 (vp_in_nI (by omega) (by decide)) dX0_gapsWithout_69 ?_
          refine g_topl (y := J (k + 5) 1) rfl ?_
          refine g_retl hC hs ?_ dX0_gapsWithout_70
          first | subst hsw | obtain rfl : ln = 3 := by omega
          simp only [detS, ea, eb, ec]
          try rfl
        · refine lv_tableIn (tgt := 71) (off := 36) hx hb dX0_gapsWithout_35 (by rw [hsw]; decide) (by rw [hsw]; decide) (by rw [hsw]; decide) (by decide) ?_
          refine lv_aload_n hx hb dX0_gapsWithout_71 rfl (lv_at hl 3 rfl) ?_
          refine lv_iconst (v := nI 0) hx hb dX0_gapsWithout_72 (by decide) ?_
          refine lv_iconst (v := nI 1) hx hb dX0_gapsWithout_73 (by decide) ?_
          refine lv_iload_n hx hb dX0_gapsWithout_74 rfl (lv_at hl 2 rfl) ?_
          refine lv_iload hx hb dX0_gapsWithout_75 (lv_at hl 1 rfl) ?_
          refine g_cp (g_rV (As := [.int (nI 0), .int (nI 1), .int (nI 1), .int (nI 2)]) hC hP (c_X0_twoLines l hP (k := k) (x := 0) (y := 1) (a := 1) (d := 2) (by first | assumption | omega) (by first | assumption | omega) (by first | assumption | omega) (by first | assumption | omega) (by first | assumption | omega)) hco.1 rfl ⟨q2_122, q2_119, q2_121, qs_15, q1_3⟩ dd_X0_twoLines ⟨Nat.le_of_ble_eq_true rfl, Nat.le_of_ble_eq_true rfl, rfl, rfl⟩ hl.1 rfl (Nat.le_of_ble_eq_true rfl) dX0_gapsWithout_77 ⟨Nat.le_of_ble_eq_true rfl, Nat.le_of_ble_eq_true rfl⟩) ?_
          refine W.eq (g2 := F0 m 80 ls [.long (det2 (fun q => J (k + 5 + q)) 0 1 1 2)]) rfl ?_
          refine g_retl hC hs ?_ dX0_gapsWithout_80
          first | subst hsw | obtain rfl : ln = 3 := by omega
          simp only [detS, ea, eb, ec]
          try rfl
        · refine lv_tableOut (tgt := 81) hx hb dX0_gapsWithout_35 (Or.inr (by rw [nI_toInt (by omega)]; omega)) (by decide) ?_
          refine lv_aload_n hx hb dX0_gapsWithout_81 rfl (lv_at hl 3 rfl) ?_
          refine g_get hC hP hco.1 rfl inX0 3 (by decide) q1_65 hco.2.2.1 dX0_gapsWithout_82 ?_
          refine lv_iconst (v := nI 0) hx hb dX0_gapsWithout_85 (by decide) ?_
          refine g_aaldG hC hP hco.2.2.2.2.1 (vp_in_nI (by omega) (by decide)) (v := .ref (k + 5)) (by first | exact e0 | exact coG_q hco (j := 0) (by omega)) dX0_gapsWithout_86 ?_
          refine lv_iload_n hx hb dX0_gapsWithout_87 rfl (lv_at hl 2 rfl) ?_
          refine g_lald hC hP hg0 (vp_in_nI (by omega) (by decide)) dX0_gapsWithout_88 ?_
          refine g_topl (y := J (k + 5) 1) rfl ?_
          refine lv_aload_n hx hb dX0_gapsWithout_89 rfl (lv_at hl 3 rfl) ?_
          refine lv_iconst (v := nI 1) hx hb dX0_gapsWithout_90 (by decide) ?_
          refine lv_iconst (v := nI 2) hx hb dX0_gapsWithout_91 (by decide) ?_
          refine lv_iload hx hb dX0_gapsWithout_92 (lv_at hl 1 rfl) ?_
          refine lv_iload hx hb dX0_gapsWithout_94 (lv_at hl 0 rfl) ?_
          refine g_cp (g_rV (As := [.int (nI 1), .int (nI 2), .int (nI 2), .int (nI 3)]) hC hP (c_X0_twoLines l hP (k := k) (x := 1) (y := 2) (a := 2) (d := 3) (by first | assumption | omega) (by first | assumption | omega) (by first | assumption | omega) (by first | assumption | omega) (by first | assumption | omega)) hco.1 rfl ⟨q2_122, q2_119, q2_121, qs_15, q1_3⟩ dd_X0_twoLines ⟨Nat.le_of_ble_eq_true rfl, Nat.le_of_ble_eq_true rfl, rfl, rfl⟩ hl.1 rfl (Nat.le_of_ble_eq_true rfl) dX0_gapsWithout_96 ⟨Nat.le_of_ble_eq_true rfl, Nat.le_of_ble_eq_true rfl⟩) ?_
          refine W.eq (g2 := F0 m 99 ls [.long (det2 (fun q => J (k + 5 + q)) 1 2 2 3), .long (J (k + 5) 1)]) rfl ?_
          refine lv_lmul hx hb dX0_gapsWithout_99 ?_
          refine lv_aload_n hx hb dX0_gapsWithout_100 rfl (lv_at hl 3 rfl) ?_
          refine g_get hC hP hco.1 rfl inX0 3 (by decide) q1_65 hco.2.2.1 dX0_gapsWithout_101 ?_
          refine lv_iconst (v := nI 0) hx hb dX0_gapsWithout_104 (by decide) ?_
          refine g_aaldG hC hP hco.2.2.2.2.1 (vp_in_nI (by omega) (by decide)) (v := .ref (k + 5)) (by first | exact e0 | exact coG_q hco (j := 0) (by omega)) dX0_gapsWithout_105 ?_
          refine lv_iload hx hb dX0_gapsWithout_106 (lv_at hl 1 rfl) ?_
          refine g_lald hC hP hg0 (vp_in_nI (by omega) (by decide)) dX0_gapsWithout_108 ?_
          refine g_topl (y := J (k + 5) 2) rfl ?_
          refine lv_aload_n hx hb dX0_gapsWithout_109 rfl (lv_at hl 3 rfl) ?_
          refine lv_iconst (v := nI 1) hx hb dX0_gapsWithout_110 (by decide) ?_
          refine lv_iconst (v := nI 2) hx hb dX0_gapsWithout_111 (by decide) ?_
          refine lv_iload_n hx hb dX0_gapsWithout_112 rfl (lv_at hl 2 rfl) ?_
          refine lv_iload hx hb dX0_gapsWithout_113 (lv_at hl 0 rfl) ?_
          refine g_cp (g_rV (As := [.int (nI 1), .int (nI 2), .int (nI 1), .int (nI 3)]) hC hP (c_X0_twoLines l hP (k := k) (x := 1) (y := 2) (a := 1) (d := 3) (by first | assumption | omega) (by first | assumption | omega) (by first | assumption | omega) (by first | assumption | omega) (by first | assumption | omega)) hco.1 rfl ⟨q2_122, q2_119, q2_121, qs_15, q1_3⟩ dd_X0_twoLines ⟨Nat.le_of_ble_eq_true rfl, Nat.le_of_ble_eq_true rfl, rfl, rfl⟩ hl.1 rfl (Nat.le_of_ble_eq_true rfl) dX0_gapsWithout_115 ⟨Nat.le_of_ble_eq_true rfl, Nat.le_of_ble_eq_true rfl⟩) ?_
          refine W.eq (g2 := F0 m 118 ls [.long (det2 (fun q => J (k + 5 + q)) 1 2 1 3), .long (J (k + 5) 2), .long ((J (k + 5) 1) * (det2 (fun q => J (k + 5 + q)) 1 2 2 3))]) rfl ?_
          refine lv_lmul hx hb dX0_gapsWithout_118 ?_
          refine lv_lsub hx hb dX0_gapsWithout_119 ?_
          refine lv_aload_n hx hb dX0_gapsWithout_120 rfl (lv_at hl 3 rfl) ?_
          refine g_get hC hP hco.1 rfl inX0 3 (by decide) q1_65 hco.2.2.1 dX0_gapsWithout_121 ?_
          refine lv_iconst (v := nI 0) hx hb dX0_gapsWithout_124 (by decide) ?_
          refine g_aaldG hC hP hco.2.2.2.2.1 (vp_in_nI (by omega) (by decide)) (v := .ref (k + 5)) (by first | exact e0 | exact coG_q hco (j := 0) (by omega)) dX0_gapsWithout_125 ?_
          refine lv_iload hx hb dX0_gapsWithout_126 (lv_at hl 0 rfl) ?_
          refine g_lald hC hP hg0 (vp_in_nI (by omega) (by decide)) dX0_gapsWithout_128 ?_
          refine g_topl (y := J (k + 5) 3) rfl ?_
          refine lv_aload_n hx hb dX0_gapsWithout_129 rfl (lv_at hl 3 rfl) ?_
          refine lv_iconst (v := nI 1) hx hb dX0_gapsWithout_130 (by decide) ?_
          refine lv_iconst (v := nI 2) hx hb dX0_gapsWithout_131 (by decide) ?_
          refine lv_iload_n hx hb dX0_gapsWithout_132 rfl (lv_at hl 2 rfl) ?_
          refine lv_iload hx hb dX0_gapsWithout_133 (lv_at hl 1 rfl) ?_
          refine g_cp (g_rV (As := [.int (nI 1), .int (nI 2), .int (nI 1), .int (nI 2)]) hC hP (c_X0_twoLines l hP (k := k) (x := 1) (y := 2) (a := 1) (d := 2) (by first | assumption | omega) (by first | assumption | omega) (by first | assumption | omega) (by first | assumption | omega) (by first | assumption | omega)) hco.1 rfl ⟨q2_122, q2_119, q2_121, qs_15, q1_3⟩ dd_X0_twoLines ⟨Nat.le_of_ble_eq_true rfl, Nat.le_of_ble_eq_true rfl, rfl, rfl⟩ hl.1 rfl (Nat.le_of_ble_eq_true rfl) dX0_gapsWithout_135 ⟨Nat.le_of_ble_eq_true rfl, Nat.le_of_ble_eq_true rfl⟩) ?_
          refine W.eq (g2 := F0 m 138 ls [.long (det2 (fun q => J (k + 5 + q)) 1 2 1 2), .long (J (k + 5) 3), .long (((J (k + 5) 1) * (det2 (fun q => J (k + 5 + q)) 1 2 2 3)) - ((J (k + 5) 2) * (det2 (fun q => J (k + 5 + q)) 1 2 1 3)))]) rfl ?_
          refine lv_lmul hx hb dX0_gapsWithout_138 ?_
          refine lv_ladd hx hb dX0_gapsWithout_139 ?_
          refine g_retl hC hs ?_ dX0_gapsWithout_140
          first | subst hsw | obtain rfl : ln = 3 := by omega
          simp only [detS, ea, eb, ec]
          try rfl
      · have c24 := mt (nI_leI (by omega) (by omega)).mpr c24
        have ec : detC pl = 2 := if_pos (by omega)
        refine lv_iconst (v := nI 2) hx hb dX0_gapsWithout_27 (by decide) ?_
        refine lv_goto (tgt := 32) hx hb dX0_gapsWithout_28 (by decide) ?_
        refine lv_istore (lv' := [(5, .int (nI 2)), (4, .int (nI 2)), (3, .int (nI 1)), (0, .ref k), (1, .int (nI pl)), (2, .int (nI ln))]) hx hb dX0_gapsWithout_32 hl (by decide) rfl (fun ls hl => ?_)
        refine lv_iload_n hx hb dX0_gapsWithout_34 rfl (lv_at hl 5 rfl) ?_
        rcases (show ln = 0 ∨ ln = 1 ∨ ln = 2 ∨ 2 < ln by omega) with hsw | hsw | hsw | hsw
        · refine lv_tableIn (tgt := 60) (off := 25) hx hb dX0_gapsWithout_35 (by rw [hsw]; decide) (by rw [hsw]; decide) (by rw [hsw]; decide) (by decide) ?_
          refine lv_lconst (v := 1) hx hb dX0_gapsWithout_60 (by decide) ?_
          refine g_retl hC hs ?_ dX0_gapsWithout_61
          first | subst hsw | obtain rfl : ln = 3 := by omega
          simp only [detS, ea, eb, ec]
          try rfl
        · refine lv_tableIn (tgt := 62) (off := 27) hx hb dX0_gapsWithout_35 (by rw [hsw]; decide) (by rw [hsw]; decide) (by rw [hsw]; decide) (by decide) ?_
          refine lv_aload_n hx hb dX0_gapsWithout_62 rfl (lv_at hl 3 rfl) ?_
          refine g_get hC hP hco.1 rfl inX0 3 (by decide) q1_65 hco.2.2.1 dX0_gapsWithout_63 ?_
          refine lv_iconst (v := nI 0) hx hb dX0_gapsWithout_66 (by decide) ?_
          refine g_aaldG hC hP hco.2.2.2.2.1 (vp_in_nI (by omega) (by decide)) (v := .ref (k + 5)) (by first | exact e0 | exact coG_q hco (j := 0) (by omega)) dX0_gapsWithout_67 ?_
          refine lv_iload_n hx hb dX0_gapsWithout_68 rfl (lv_at hl 2 rfl) ?_
          refine g_lald hC hP hg0 (vp_in_nI (by omega) (by decide)) dX0_gapsWithout_69 ?_
          refine g_topl (y := J (k + 5) 1) rfl ?_
          refine g_retl hC hs ?_ dX0_gapsWithout_70
          first | subst hsw | obtain rfl : ln = 3 := by omega
          simp only [detS, ea, eb, ec]
          try rfl
        · refine lv_tableIn (tgt := 71) (off := 36) hx hb dX0_gapsWithout_35 (by rw [hsw]; decide) (by rw [hsw]; decide) (by rw [hsw]; decide) (by decide) ?_
          refine lv_aload_n hx hb dX0_gapsWithout_71 rfl (lv_at hl 3 rfl) ?_
          refine lv_iconst (v := nI 0) hx hb dX0_gapsWithout_72 (by decide) ?_
          refine lv_iconst (v := nI 1) hx hb dX0_gapsWithout_73 (by decide) ?_
          refine lv_iload_n hx hb dX0_gapsWithout_74 rfl (lv_at hl 2 rfl) ?_
          refine lv_iload hx hb dX0_gapsWithout_75 (lv_at hl 1 rfl) ?_
          refine g_cp (g_rV (As := [.int (nI 0), .int (nI 1), .int (nI 1), .int (nI 2)]) hC hP (c_X0_twoLines l hP (k := k) (x := 0) (y := 1) (a := 1) (d := 2) (by first | assumption | omega) (by first | assumption | omega) (by first | assumption | omega) (by first | assumption | omega) (by first | assumption | omega)) hco.1 rfl ⟨q2_122, q2_119, q2_121, qs_15, q1_3⟩ dd_X0_twoLines ⟨Nat.le_of_ble_eq_true rfl, Nat.le_of_ble_eq_true rfl, rfl, rfl⟩ hl.1 rfl (Nat.le_of_ble_eq_true rfl) dX0_gapsWithout_77 ⟨Nat.le_of_ble_eq_true rfl, Nat.le_of_ble_eq_true rfl⟩) ?_
          refine W.eq (g2 := F0 m 80 ls [.long (det2 (fun q => J (k + 5 + q)) 0 1 1 2)]) rfl ?_
          refine g_retl hC hs ?_ dX0_gapsWithout_80
          first | subst hsw | obtain rfl : ln = 3 := by omega
          simp only [detS, ea, eb, ec]
          try rfl
        · refine lv_tableOut (tgt := 81) hx hb dX0_gapsWithout_35 (Or.inr (by rw [nI_toInt (by omega)]; omega)) (by decide) ?_
          refine lv_aload_n hx hb dX0_gapsWithout_81 rfl (lv_at hl 3 rfl) ?_
          refine g_get hC hP hco.1 rfl inX0 3 (by decide) q1_65 hco.2.2.1 dX0_gapsWithout_82 ?_
          refine lv_iconst (v := nI 0) hx hb dX0_gapsWithout_85 (by decide) ?_
          refine g_aaldG hC hP hco.2.2.2.2.1 (vp_in_nI (by omega) (by decide)) (v := .ref (k + 5)) (by first | exact e0 | exact coG_q hco (j := 0) (by omega)) dX0_gapsWithout_86 ?_
          refine lv_iload_n hx hb dX0_gapsWithout_87 rfl (lv_at hl 2 rfl) ?_
          refine g_lald hC hP hg0 (vp_in_nI (by omega) (by decide)) dX0_gapsWithout_88 ?_
          refine g_topl (y := J (k + 5) 1) rfl ?_
          refine lv_aload_n hx hb dX0_gapsWithout_89 rfl (lv_at hl 3 rfl) ?_
          refine lv_iconst (v := nI 1) hx hb dX0_gapsWithout_90 (by decide) ?_
          refine lv_iconst (v := nI 2) hx hb dX0_gapsWithout_91 (by decide) ?_
          refine lv_iload hx hb dX0_gapsWithout_92 (lv_at hl 1 rfl) ?_
          refine lv_iload hx hb dX0_gapsWithout_94 (lv_at hl 0 rfl) ?_
          refine g_cp (g_rV (As := [.int (nI 1), .int (nI 2), .int (nI 2), .int (nI 2)]) hC hP (c_X0_twoLines l hP (k := k) (x := 1) (y := 2) (a := 2) (d := 2) (by first | assumption | omega) (by first | assumption | omega) (by first | assumption | omega) (by first | assumption | omega) (by first | assumption | omega)) hco.1 rfl ⟨q2_122, q2_119, q2_121, qs_15, q1_3⟩ dd_X0_twoLines ⟨Nat.le_of_ble_eq_true rfl, Nat.le_of_ble_eq_true rfl, rfl, rfl⟩ hl.1 rfl (Nat.le_of_ble_eq_true rfl) dX0_gapsWithout_96 ⟨Nat.le_of_ble_eq_true rfl, Nat.le_of_ble_eq_true rfl⟩) ?_
          refine W.eq (g2 := F0 m 99 ls [.long (det2 (fun q => J (k + 5 + q)) 1 2 2 2), .long (J (k + 5) 1)]) rfl ?_
          refine lv_lmul hx hb dX0_gapsWithout_99 ?_
          refine lv_aload_n hx hb dX0_gapsWithout_100 rfl (lv_at hl 3 rfl) ?_
          refine g_get hC hP hco.1 rfl inX0 3 (by decide) q1_65 hco.2.2.1 dX0_gapsWithout_101 ?_
          refine lv_iconst (v := nI 0) hx hb dX0_gapsWithout_104 (by decide) ?_
          refine g_aaldG hC hP hco.2.2.2.2.1 (vp_in_nI (by omega) (by decide)) (v := .ref (k + 5)) (by first | exact e0 | exact coG_q hco (j := 0) (by omega)) dX0_gapsWithout_105 ?_
          refine lv_iload hx hb dX0_gapsWithout_106 (lv_at hl 1 rfl) ?_
          refine g_lald hC hP hg0 (vp_in_nI (by omega) (by decide)) dX0_gapsWithout_108 ?_
          refine g_topl (y := J (k + 5) 2) rfl ?_
          refine lv_aload_n hx hb dX0_gapsWithout_109 rfl (lv_at hl 3 rfl) ?_
          refine lv_iconst (v := nI 1) hx hb dX0_gapsWithout_110 (by decide) ?_
          refine lv_iconst (v := nI 2) hx hb dX0_gapsWithout_111 (by decide) ?_
          refine lv_iload_n hx hb dX0_gapsWithout_112 rfl (lv_at hl 2 rfl) ?_
          refine lv_iload hx hb dX0_gapsWithout_113 (lv_at hl 0 rfl) ?_
          refine g_cp (g_rV (As := [.int (nI 1), .int (nI 2), .int (nI 1), .int (nI 2)]) hC hP (c_X0_twoLines l hP (k := k) (x := 1) (y := 2) (a := 1) (d := 2) (by first | assumption | omega) (by first | assumption | omega) (by first | assumption | omega) (by first | assumption | omega) (by first | assumption | omega)) hco.1 rfl ⟨q2_122, q2_119, q2_121, qs_15, q1_3⟩ dd_X0_twoLines ⟨Nat.le_of_ble_eq_true rfl, Nat.le_of_ble_eq_true rfl, rfl, rfl⟩ hl.1 rfl (Nat.le_of_ble_eq_true rfl) dX0_gapsWithout_115 ⟨Nat.le_of_ble_eq_true rfl, Nat.le_of_ble_eq_true rfl⟩) ?_
          refine W.eq (g2 := F0 m 118 ls [.long (det2 (fun q => J (k + 5 + q)) 1 2 1 2), .long (J (k + 5) 2), .long ((J (k + 5) 1) * (det2 (fun q => J (k + 5 + q)) 1 2 2 2))]) rfl ?_
          refine lv_lmul hx hb dX0_gapsWithout_118 ?_
          refine lv_lsub hx hb dX0_gapsWithout_119 ?_
          refine lv_aload_n hx hb dX0_gapsWithout_120 rfl (lv_at hl 3 rfl) ?_
          refine g_get hC hP hco.1 rfl inX0 3 (by decide) q1_65 hco.2.2.1 dX0_gapsWithout_121 ?_
          refine lv_iconst (v := nI 0) hx hb dX0_gapsWithout_124 (by decide) ?_
          refine g_aaldG hC hP hco.2.2.2.2.1 (vp_in_nI (by omega) (by decide)) (v := .ref (k + 5)) (by first | exact e0 | exact coG_q hco (j := 0) (by omega)) dX0_gapsWithout_125 ?_
          refine lv_iload hx hb dX0_gapsWithout_126 (lv_at hl 0 rfl) ?_
          refine g_lald hC hP hg0 (vp_in_nI (by omega) (by decide)) dX0_gapsWithout_128 ?_
          refine g_topl (y := J (k + 5) 2) rfl ?_
          refine lv_aload_n hx hb dX0_gapsWithout_129 rfl (lv_at hl 3 rfl) ?_
          refine lv_iconst (v := nI 1) hx hb dX0_gapsWithout_130 (by decide) ?_
          refine lv_iconst (v := nI 2) hx hb dX0_gapsWithout_131 (by decide) ?_
          refine lv_iload_n hx hb dX0_gapsWithout_132 rfl (lv_at hl 2 rfl) ?_
          refine lv_iload hx hb dX0_gapsWithout_133 (lv_at hl 1 rfl) ?_
          refine g_cp (g_rV (As := [.int (nI 1), .int (nI 2), .int (nI 1), .int (nI 2)]) hC hP (c_X0_twoLines l hP (k := k) (x := 1) (y := 2) (a := 1) (d := 2) (by first | assumption | omega) (by first | assumption | omega) (by first | assumption | omega) (by first | assumption | omega) (by first | assumption | omega)) hco.1 rfl ⟨q2_122, q2_119, q2_121, qs_15, q1_3⟩ dd_X0_twoLines ⟨Nat.le_of_ble_eq_true rfl, Nat.le_of_ble_eq_true rfl, rfl, rfl⟩ hl.1 rfl (Nat.le_of_ble_eq_true rfl) dX0_gapsWithout_135 ⟨Nat.le_of_ble_eq_true rfl, Nat.le_of_ble_eq_true rfl⟩) ?_
          refine W.eq (g2 := F0 m 138 ls [.long (det2 (fun q => J (k + 5 + q)) 1 2 1 2), .long (J (k + 5) 2), .long (((J (k + 5) 1) * (det2 (fun q => J (k + 5 + q)) 1 2 2 2)) - ((J (k + 5) 2) * (det2 (fun q => J (k + 5 + q)) 1 2 1 2)))]) rfl ?_
          refine lv_lmul hx hb dX0_gapsWithout_138 ?_
          refine lv_ladd hx hb dX0_gapsWithout_139 ?_
          refine g_retl hC hs ?_ dX0_gapsWithout_140
          first | subst hsw | obtain rfl : ln = 3 := by omega
          simp only [detS, ea, eb, ec]
          try rfl
    · have c12 := mt (nI_leI (by omega) (by omega)).mpr c12
      have eb : detB pl = 1 := if_pos (by omega)
      refine lv_iconst (v := nI 1) hx hb dX0_gapsWithout_15 (by decide) ?_
      refine lv_goto (tgt := 20) hx hb dX0_gapsWithout_16 (by decide) ?_
      refine lv_istore (lv' := [(4, .int (nI 1)), (3, .int (nI 1)), (0, .ref k), (1, .int (nI pl)), (2, .int (nI ln))]) hx hb dX0_gapsWithout_20 hl (by decide) rfl (fun ls hl => ?_)
      refine lv_iload_n hx hb dX0_gapsWithout_22 rfl (lv_at hl 3 rfl) ?_
      refine lv_iconst (v := nI 2) hx hb dX0_gapsWithout_23 (by decide) ?_
      refine lv_icmp_le (tgt := 31) hx hb dX0_gapsWithout_24 (by decide) (fun c24 => ?_) (fun c24 => ?_)
      · have c24 := (nI_leI (by omega) (by omega)).mp c24
        have ec : detC pl = 3 := if_neg (by omega)
        refine lv_iconst (v := nI 3) hx hb dX0_gapsWithout_31 (by decide) ?_
        refine lv_istore (lv' := [(5, .int (nI 3)), (4, .int (nI 1)), (3, .int (nI 1)), (0, .ref k), (1, .int (nI pl)), (2, .int (nI ln))]) hx hb dX0_gapsWithout_32 hl (by decide) rfl (fun ls hl => ?_)
        refine lv_iload_n hx hb dX0_gapsWithout_34 rfl (lv_at hl 5 rfl) ?_
        rcases (show ln = 0 ∨ ln = 1 ∨ ln = 2 ∨ 2 < ln by omega) with hsw | hsw | hsw | hsw
        · refine lv_tableIn (tgt := 60) (off := 25) hx hb dX0_gapsWithout_35 (by rw [hsw]; decide) (by rw [hsw]; decide) (by rw [hsw]; decide) (by decide) ?_
          refine lv_lconst (v := 1) hx hb dX0_gapsWithout_60 (by decide) ?_
          refine g_retl hC hs ?_ dX0_gapsWithout_61
          first | subst hsw | obtain rfl : ln = 3 := by omega
          simp only [detS, ea, eb, ec]
          try rfl
        · refine lv_tableIn (tgt := 62) (off := 27) hx hb dX0_gapsWithout_35 (by rw [hsw]; decide) (by rw [hsw]; decide) (by rw [hsw]; decide) (by decide) ?_
          refine lv_aload_n hx hb dX0_gapsWithout_62 rfl (lv_at hl 3 rfl) ?_
          refine g_get hC hP hco.1 rfl inX0 3 (by decide) q1_65 hco.2.2.1 dX0_gapsWithout_63 ?_
          refine lv_iconst (v := nI 0) hx hb dX0_gapsWithout_66 (by decide) ?_
          refine g_aaldG hC hP hco.2.2.2.2.1 (vp_in_nI (by omega) (by decide)) (v := .ref (k + 5)) (by first | exact e0 | exact coG_q hco (j := 0) (by omega)) dX0_gapsWithout_67 ?_
          refine lv_iload_n hx hb dX0_gapsWithout_68 rfl (lv_at hl 2 rfl) ?_
          refine g_lald hC hP hg0 (vp_in_nI (by omega) (by decide)) dX0_gapsWithout_69 ?_
          refine g_topl (y := J (k + 5) 1) rfl ?_
          refine g_retl hC hs ?_ dX0_gapsWithout_70
          first | subst hsw | obtain rfl : ln = 3 := by omega
          simp only [detS, ea, eb, ec]
          try rfl
        · refine lv_tableIn (tgt := 71) (off := 36) hx hb dX0_gapsWithout_35 (by rw [hsw]; decide) (by rw [hsw]; decide) (by rw [hsw]; decide) (by decide) ?_
          refine lv_aload_n hx hb dX0_gapsWithout_71 rfl (lv_at hl 3 rfl) ?_
          refine lv_iconst (v := nI 0) hx hb dX0_gapsWithout_72 (by decide) ?_
          refine lv_iconst (v := nI 1) hx hb dX0_gapsWithout_73 (by decide) ?_
          refine lv_iload_n hx hb dX0_gapsWithout_74 rfl (lv_at hl 2 rfl) ?_
          refine lv_iload hx hb dX0_gapsWithout_75 (lv_at hl 1 rfl) ?_
          refine g_cp (g_rV (As := [.int (nI 0), .int (nI 1), .int (nI 1), .int (nI 1)]) hC hP (c_X0_twoLines l hP (k := k) (x := 0) (y := 1) (a := 1) (d := 1) (by first | assumption | omega) (by first | assumption | omega) (by first | assumption | omega) (by first | assumption | omega) (by first | assumption | omega)) hco.1 rfl ⟨q2_122, q2_119, q2_121, qs_15, q1_3⟩ dd_X0_twoLines ⟨Nat.le_of_ble_eq_true rfl, Nat.le_of_ble_eq_true rfl, rfl, rfl⟩ hl.1 rfl (Nat.le_of_ble_eq_true rfl) dX0_gapsWithout_77 ⟨Nat.le_of_ble_eq_true rfl, Nat.le_of_ble_eq_true rfl⟩) ?_
          refine W.eq (g2 := F0 m 80 ls [.long (det2 (fun q => J (k + 5 + q)) 0 1 1 1)]) rfl ?_
          refine g_retl hC hs ?_ dX0_gapsWithout_80
          first | subst hsw | obtain rfl : ln = 3 := by omega
          simp only [detS, ea, eb, ec]
          try rfl
        · refine lv_tableOut (tgt := 81) hx hb dX0_gapsWithout_35 (Or.inr (by rw [nI_toInt (by omega)]; omega)) (by decide) ?_
          refine lv_aload_n hx hb dX0_gapsWithout_81 rfl (lv_at hl 3 rfl) ?_
          refine g_get hC hP hco.1 rfl inX0 3 (by decide) q1_65 hco.2.2.1 dX0_gapsWithout_82 ?_
          refine lv_iconst (v := nI 0) hx hb dX0_gapsWithout_85 (by decide) ?_
          refine g_aaldG hC hP hco.2.2.2.2.1 (vp_in_nI (by omega) (by decide)) (v := .ref (k + 5)) (by first | exact e0 | exact coG_q hco (j := 0) (by omega)) dX0_gapsWithout_86 ?_
          refine lv_iload_n hx hb dX0_gapsWithout_87 rfl (lv_at hl 2 rfl) ?_
          refine g_lald hC hP hg0 (vp_in_nI (by omega) (by decide)) dX0_gapsWithout_88 ?_
          refine g_topl (y := J (k + 5) 1) rfl ?_
          refine lv_aload_n hx hb dX0_gapsWithout_89 rfl (lv_at hl 3 rfl) ?_
          refine lv_iconst (v := nI 1) hx hb dX0_gapsWithout_90 (by decide) ?_
          refine lv_iconst (v := nI 2) hx hb dX0_gapsWithout_91 (by decide) ?_
          refine lv_iload hx hb dX0_gapsWithout_92 (lv_at hl 1 rfl) ?_
          refine lv_iload hx hb dX0_gapsWithout_94 (lv_at hl 0 rfl) ?_
          refine g_cp (g_rV (As := [.int (nI 1), .int (nI 2), .int (nI 1), .int (nI 3)]) hC hP (c_X0_twoLines l hP (k := k) (x := 1) (y := 2) (a := 1) (d := 3) (by first | assumption | omega) (by first | assumption | omega) (by first | assumption | omega) (by first | assumption | omega) (by first | assumption | omega)) hco.1 rfl ⟨q2_122, q2_119, q2_121, qs_15, q1_3⟩ dd_X0_twoLines ⟨Nat.le_of_ble_eq_true rfl, Nat.le_of_ble_eq_true rfl, rfl, rfl⟩ hl.1 rfl (Nat.le_of_ble_eq_true rfl) dX0_gapsWithout_96 ⟨Nat.le_of_ble_eq_true rfl, Nat.le_of_ble_eq_true rfl⟩) ?_
          refine W.eq (g2 := F0 m 99 ls [.long (det2 (fun q => J (k + 5 + q)) 1 2 1 3), .long (J (k + 5) 1)]) rfl ?_
          refine lv_lmul hx hb dX0_gapsWithout_99 ?_
          refine lv_aload_n hx hb dX0_gapsWithout_100 rfl (lv_at hl 3 rfl) ?_
          refine g_get hC hP hco.1 rfl inX0 3 (by decide) q1_65 hco.2.2.1 dX0_gapsWithout_101 ?_
          refine lv_iconst (v := nI 0) hx hb dX0_gapsWithout_104 (by decide) ?_
          refine g_aaldG hC hP hco.2.2.2.2.1 (vp_in_nI (by omega) (by decide)) (v := .ref (k + 5)) (by first | exact e0 | exact coG_q hco (j := 0) (by omega)) dX0_gapsWithout_105 ?_
          refine lv_iload hx hb dX0_gapsWithout_106 (lv_at hl 1 rfl) ?_
          refine g_lald hC hP hg0 (vp_in_nI (by omega) (by decide)) dX0_gapsWithout_108 ?_
          refine g_topl (y := J (k + 5) 1) rfl ?_
          refine lv_aload_n hx hb dX0_gapsWithout_109 rfl (lv_at hl 3 rfl) ?_
          refine lv_iconst (v := nI 1) hx hb dX0_gapsWithout_110 (by decide) ?_
          refine lv_iconst (v := nI 2) hx hb dX0_gapsWithout_111 (by decide) ?_
          refine lv_iload_n hx hb dX0_gapsWithout_112 rfl (lv_at hl 2 rfl) ?_
          refine lv_iload hx hb dX0_gapsWithout_113 (lv_at hl 0 rfl) ?_
          refine g_cp (g_rV (As := [.int (nI 1), .int (nI 2), .int (nI 1), .int (nI 3)]) hC hP (c_X0_twoLines l hP (k := k) (x := 1) (y := 2) (a := 1) (d := 3) (by first | assumption | omega) (by first | assumption | omega) (by first | assumption | omega) (by first | assumption | omega) (by first | assumption | omega)) hco.1 rfl ⟨q2_122, q2_119, q2_121, qs_15, q1_3⟩ dd_X0_twoLines ⟨Nat.le_of_ble_eq_true rfl, Nat.le_of_ble_eq_true rfl, rfl, rfl⟩ hl.1 rfl (Nat.le_of_ble_eq_true rfl) dX0_gapsWithout_115 ⟨Nat.le_of_ble_eq_true rfl, Nat.le_of_ble_eq_true rfl⟩) ?_
          refine W.eq (g2 := F0 m 118 ls [.long (det2 (fun q => J (k + 5 + q)) 1 2 1 3), .long (J (k + 5) 1), .long ((J (k + 5) 1) * (det2 (fun q => J (k + 5 + q)) 1 2 1 3))]) rfl ?_
          refine lv_lmul hx hb dX0_gapsWithout_118 ?_
          refine lv_lsub hx hb dX0_gapsWithout_119 ?_
          refine lv_aload_n hx hb dX0_gapsWithout_120 rfl (lv_at hl 3 rfl) ?_
          refine g_get hC hP hco.1 rfl inX0 3 (by decide) q1_65 hco.2.2.1 dX0_gapsWithout_121 ?_
          refine lv_iconst (v := nI 0) hx hb dX0_gapsWithout_124 (by decide) ?_
          refine g_aaldG hC hP hco.2.2.2.2.1 (vp_in_nI (by omega) (by decide)) (v := .ref (k + 5)) (by first | exact e0 | exact coG_q hco (j := 0) (by omega)) dX0_gapsWithout_125 ?_
          refine lv_iload hx hb dX0_gapsWithout_126 (lv_at hl 0 rfl) ?_
          refine g_lald hC hP hg0 (vp_in_nI (by omega) (by decide)) dX0_gapsWithout_128 ?_
          refine g_topl (y := J (k + 5) 3) rfl ?_
          refine lv_aload_n hx hb dX0_gapsWithout_129 rfl (lv_at hl 3 rfl) ?_
          refine lv_iconst (v := nI 1) hx hb dX0_gapsWithout_130 (by decide) ?_
          refine lv_iconst (v := nI 2) hx hb dX0_gapsWithout_131 (by decide) ?_
          refine lv_iload_n hx hb dX0_gapsWithout_132 rfl (lv_at hl 2 rfl) ?_
          refine lv_iload hx hb dX0_gapsWithout_133 (lv_at hl 1 rfl) ?_
          refine g_cp (g_rV (As := [.int (nI 1), .int (nI 2), .int (nI 1), .int (nI 1)]) hC hP (c_X0_twoLines l hP (k := k) (x := 1) (y := 2) (a := 1) (d := 1) (by first | assumption | omega) (by first | assumption | omega) (by first | assumption | omega) (by first | assumption | omega) (by first | assumption | omega)) hco.1 rfl ⟨q2_122, q2_119, q2_121, qs_15, q1_3⟩ dd_X0_twoLines ⟨Nat.le_of_ble_eq_true rfl, Nat.le_of_ble_eq_true rfl, rfl, rfl⟩ hl.1 rfl (Nat.le_of_ble_eq_true rfl) dX0_gapsWithout_135 ⟨Nat.le_of_ble_eq_true rfl, Nat.le_of_ble_eq_true rfl⟩) ?_
          refine W.eq (g2 := F0 m 138 ls [.long (det2 (fun q => J (k + 5 + q)) 1 2 1 1), .long (J (k + 5) 3), .long (((J (k + 5) 1) * (det2 (fun q => J (k + 5 + q)) 1 2 1 3)) - ((J (k + 5) 1) * (det2 (fun q => J (k + 5 + q)) 1 2 1 3)))]) rfl ?_
          refine lv_lmul hx hb dX0_gapsWithout_138 ?_
          refine lv_ladd hx hb dX0_gapsWithout_139 ?_
          refine g_retl hC hs ?_ dX0_gapsWithout_140
          first | subst hsw | obtain rfl : ln = 3 := by omega
          simp only [detS, ea, eb, ec]
          try rfl
      · have c24 := mt (nI_leI (by omega) (by omega)).mpr c24
        have ec : detC pl = 2 := if_pos (by omega)
        refine lv_iconst (v := nI 2) hx hb dX0_gapsWithout_27 (by decide) ?_
        refine lv_goto (tgt := 32) hx hb dX0_gapsWithout_28 (by decide) ?_
        refine lv_istore (lv' := [(5, .int (nI 2)), (4, .int (nI 1)), (3, .int (nI 1)), (0, .ref k), (1, .int (nI pl)), (2, .int (nI ln))]) hx hb dX0_gapsWithout_32 hl (by decide) rfl (fun ls hl => ?_)
        refine lv_iload_n hx hb dX0_gapsWithout_34 rfl (lv_at hl 5 rfl) ?_
        rcases (show ln = 0 ∨ ln = 1 ∨ ln = 2 ∨ 2 < ln by omega) with hsw | hsw | hsw | hsw
        · refine lv_tableIn (tgt := 60) (off := 25) hx hb dX0_gapsWithout_35 (by rw [hsw]; decide) (by rw [hsw]; decide) (by rw [hsw]; decide) (by decide) ?_
          refine lv_lconst (v := 1) hx hb dX0_gapsWithout_60 (by decide) ?_
          refine g_retl hC hs ?_ dX0_gapsWithout_61
          first | subst hsw | obtain rfl : ln = 3 := by omega
          simp only [detS, ea, eb, ec]
          try rfl
        · refine lv_tableIn (tgt := 62) (off := 27) hx hb dX0_gapsWithout_35 (by rw [hsw]; decide) (by rw [hsw]; decide) (by rw [hsw]; decide) (by decide) ?_
          refine lv_aload_n hx hb dX0_gapsWithout_62 rfl (lv_at hl 3 rfl) ?_
          refine g_get hC hP hco.1 rfl inX0 3 (by decide) q1_65 hco.2.2.1 dX0_gapsWithout_63 ?_
          refine lv_iconst (v := nI 0) hx hb dX0_gapsWithout_66 (by decide) ?_
          refine g_aaldG hC hP hco.2.2.2.2.1 (vp_in_nI (by omega) (by decide)) (v := .ref (k + 5)) (by first | exact e0 | exact coG_q hco (j := 0) (by omega)) dX0_gapsWithout_67 ?_
          refine lv_iload_n hx hb dX0_gapsWithout_68 rfl (lv_at hl 2 rfl) ?_
          refine g_lald hC hP hg0 (vp_in_nI (by omega) (by decide)) dX0_gapsWithout_69 ?_
          refine g_topl (y := J (k + 5) 1) rfl ?_
          refine g_retl hC hs ?_ dX0_gapsWithout_70
          first | subst hsw | obtain rfl : ln = 3 := by omega
          simp only [detS, ea, eb, ec]
          try rfl
        · refine lv_tableIn (tgt := 71) (off := 36) hx hb dX0_gapsWithout_35 (by rw [hsw]; decide) (by rw [hsw]; decide) (by rw [hsw]; decide) (by decide) ?_
          refine lv_aload_n hx hb dX0_gapsWithout_71 rfl (lv_at hl 3 rfl) ?_
          refine lv_iconst (v := nI 0) hx hb dX0_gapsWithout_72 (by decide) ?_
          refine lv_iconst (v := nI 1) hx hb dX0_gapsWithout_73 (by decide) ?_
          refine lv_iload_n hx hb dX0_gapsWithout_74 rfl (lv_at hl 2 rfl) ?_
          refine lv_iload hx hb dX0_gapsWithout_75 (lv_at hl 1 rfl) ?_
          refine g_cp (g_rV (As := [.int (nI 0), .int (nI 1), .int (nI 1), .int (nI 1)]) hC hP (c_X0_twoLines l hP (k := k) (x := 0) (y := 1) (a := 1) (d := 1) (by first | assumption | omega) (by first | assumption | omega) (by first | assumption | omega) (by first | assumption | omega) (by first | assumption | omega)) hco.1 rfl ⟨q2_122, q2_119, q2_121, qs_15, q1_3⟩ dd_X0_twoLines ⟨Nat.le_of_ble_eq_true rfl, Nat.le_of_ble_eq_true rfl, rfl, rfl⟩ hl.1 rfl (Nat.le_of_ble_eq_true rfl) dX0_gapsWithout_77 ⟨Nat.le_of_ble_eq_true rfl, Nat.le_of_ble_eq_true rfl⟩) ?_
          refine W.eq (g2 := F0 m 80 ls [.long (det2 (fun q => J (k + 5 + q)) 0 1 1 1)]) rfl ?_
          refine g_retl hC hs ?_ dX0_gapsWithout_80
          first | subst hsw | obtain rfl : ln = 3 := by omega
          simp only [detS, ea, eb, ec]
          try rfl
        · refine lv_tableOut (tgt := 81) hx hb dX0_gapsWithout_35 (Or.inr (by rw [nI_toInt (by omega)]; omega)) (by decide) ?_
          refine lv_aload_n hx hb dX0_gapsWithout_81 rfl (lv_at hl 3 rfl) ?_
          refine g_get hC hP hco.1 rfl inX0 3 (by decide) q1_65 hco.2.2.1 dX0_gapsWithout_82 ?_
          refine lv_iconst (v := nI 0) hx hb dX0_gapsWithout_85 (by decide) ?_
          refine g_aaldG hC hP hco.2.2.2.2.1 (vp_in_nI (by omega) (by decide)) (v := .ref (k + 5)) (by first | exact e0 | exact coG_q hco (j := 0) (by omega)) dX0_gapsWithout_86 ?_
          refine lv_iload_n hx hb dX0_gapsWithout_87 rfl (lv_at hl 2 rfl) ?_
          refine g_lald hC hP hg0 (vp_in_nI (by omega) (by decide)) dX0_gapsWithout_88 ?_
          refine g_topl (y := J (k + 5) 1) rfl ?_
          refine lv_aload_n hx hb dX0_gapsWithout_89 rfl (lv_at hl 3 rfl) ?_
          refine lv_iconst (v := nI 1) hx hb dX0_gapsWithout_90 (by decide) ?_
          refine lv_iconst (v := nI 2) hx hb dX0_gapsWithout_91 (by decide) ?_
          refine lv_iload hx hb dX0_gapsWithout_92 (lv_at hl 1 rfl) ?_
          refine lv_iload hx hb dX0_gapsWithout_94 (lv_at hl 0 rfl) ?_
          refine g_cp (g_rV (As := [.int (nI 1), .int (nI 2), .int (nI 1), .int (nI 2)]) hC hP (c_X0_twoLines l hP (k := k) (x := 1) (y := 2) (a := 1) (d := 2) (by first | assumption | omega) (by first | assumption | omega) (by first | assumption | omega) (by first | assumption | omega) (by first | assumption | omega)) hco.1 rfl ⟨q2_122, q2_119, q2_121, qs_15, q1_3⟩ dd_X0_twoLines ⟨Nat.le_of_ble_eq_true rfl, Nat.le_of_ble_eq_true rfl, rfl, rfl⟩ hl.1 rfl (Nat.le_of_ble_eq_true rfl) dX0_gapsWithout_96 ⟨Nat.le_of_ble_eq_true rfl, Nat.le_of_ble_eq_true rfl⟩) ?_
          refine W.eq (g2 := F0 m 99 ls [.long (det2 (fun q => J (k + 5 + q)) 1 2 1 2), .long (J (k + 5) 1)]) rfl ?_
          refine lv_lmul hx hb dX0_gapsWithout_99 ?_
          refine lv_aload_n hx hb dX0_gapsWithout_100 rfl (lv_at hl 3 rfl) ?_
          refine g_get hC hP hco.1 rfl inX0 3 (by decide) q1_65 hco.2.2.1 dX0_gapsWithout_101 ?_
          refine lv_iconst (v := nI 0) hx hb dX0_gapsWithout_104 (by decide) ?_
          refine g_aaldG hC hP hco.2.2.2.2.1 (vp_in_nI (by omega) (by decide)) (v := .ref (k + 5)) (by first | exact e0 | exact coG_q hco (j := 0) (by omega)) dX0_gapsWithout_105 ?_
          refine lv_iload hx hb dX0_gapsWithout_106 (lv_at hl 1 rfl) ?_
          refine g_lald hC hP hg0 (vp_in_nI (by omega) (by decide)) dX0_gapsWithout_108 ?_
          refine g_topl (y := J (k + 5) 1) rfl ?_
          refine lv_aload_n hx hb dX0_gapsWithout_109 rfl (lv_at hl 3 rfl) ?_
          refine lv_iconst (v := nI 1) hx hb dX0_gapsWithout_110 (by decide) ?_
          refine lv_iconst (v := nI 2) hx hb dX0_gapsWithout_111 (by decide) ?_
          refine lv_iload_n hx hb dX0_gapsWithout_112 rfl (lv_at hl 2 rfl) ?_
          refine lv_iload hx hb dX0_gapsWithout_113 (lv_at hl 0 rfl) ?_
          refine g_cp (g_rV (As := [.int (nI 1), .int (nI 2), .int (nI 1), .int (nI 2)]) hC hP (c_X0_twoLines l hP (k := k) (x := 1) (y := 2) (a := 1) (d := 2) (by first | assumption | omega) (by first | assumption | omega) (by first | assumption | omega) (by first | assumption | omega) (by first | assumption | omega)) hco.1 rfl ⟨q2_122, q2_119, q2_121, qs_15, q1_3⟩ dd_X0_twoLines ⟨Nat.le_of_ble_eq_true rfl, Nat.le_of_ble_eq_true rfl, rfl, rfl⟩ hl.1 rfl (Nat.le_of_ble_eq_true rfl) dX0_gapsWithout_115 ⟨Nat.le_of_ble_eq_true rfl, Nat.le_of_ble_eq_true rfl⟩) ?_
          refine W.eq (g2 := F0 m 118 ls [.long (det2 (fun q => J (k + 5 + q)) 1 2 1 2), .long (J (k + 5) 1), .long ((J (k + 5) 1) * (det2 (fun q => J (k + 5 + q)) 1 2 1 2))]) rfl ?_
          refine lv_lmul hx hb dX0_gapsWithout_118 ?_
          refine lv_lsub hx hb dX0_gapsWithout_119 ?_
          refine lv_aload_n hx hb dX0_gapsWithout_120 rfl (lv_at hl 3 rfl) ?_
          refine g_get hC hP hco.1 rfl inX0 3 (by decide) q1_65 hco.2.2.1 dX0_gapsWithout_121 ?_
          refine lv_iconst (v := nI 0) hx hb dX0_gapsWithout_124 (by decide) ?_
          refine g_aaldG hC hP hco.2.2.2.2.1 (vp_in_nI (by omega) (by decide)) (v := .ref (k + 5)) (by first | exact e0 | exact coG_q hco (j := 0) (by omega)) dX0_gapsWithout_125 ?_
          refine lv_iload hx hb dX0_gapsWithout_126 (lv_at hl 0 rfl) ?_
          refine g_lald hC hP hg0 (vp_in_nI (by omega) (by decide)) dX0_gapsWithout_128 ?_
          refine g_topl (y := J (k + 5) 2) rfl ?_
          refine lv_aload_n hx hb dX0_gapsWithout_129 rfl (lv_at hl 3 rfl) ?_
          refine lv_iconst (v := nI 1) hx hb dX0_gapsWithout_130 (by decide) ?_
          refine lv_iconst (v := nI 2) hx hb dX0_gapsWithout_131 (by decide) ?_
          refine lv_iload_n hx hb dX0_gapsWithout_132 rfl (lv_at hl 2 rfl) ?_
          refine lv_iload hx hb dX0_gapsWithout_133 (lv_at hl 1 rfl) ?_
          refine g_cp (g_rV (As := [.int (nI 1), .int (nI 2), .int (nI 1), .int (nI 1)]) hC hP (c_X0_twoLines l hP (k := k) (x := 1) (y := 2) (a := 1) (d := 1) (by first | assumption | omega) (by first | assumption | omega) (by first | assumption | omega) (by first | assumption | omega) (by first | assumption | omega)) hco.1 rfl ⟨q2_122, q2_119, q2_121, qs_15, q1_3⟩ dd_X0_twoLines ⟨Nat.le_of_ble_eq_true rfl, Nat.le_of_ble_eq_true rfl, rfl, rfl⟩ hl.1 rfl (Nat.le_of_ble_eq_true rfl) dX0_gapsWithout_135 ⟨Nat.le_of_ble_eq_true rfl, Nat.le_of_ble_eq_true rfl⟩) ?_
          refine W.eq (g2 := F0 m 138 ls [.long (det2 (fun q => J (k + 5 + q)) 1 2 1 1), .long (J (k + 5) 2), .long (((J (k + 5) 1) * (det2 (fun q => J (k + 5 + q)) 1 2 1 2)) - ((J (k + 5) 1) * (det2 (fun q => J (k + 5 + q)) 1 2 1 2)))]) rfl ?_
          refine lv_lmul hx hb dX0_gapsWithout_138 ?_
          refine lv_ladd hx hb dX0_gapsWithout_139 ?_
          refine g_retl hC hs ?_ dX0_gapsWithout_140
          first | subst hsw | obtain rfl : ln = 3 := by omega
          simp only [detS, ea, eb, ec]
          try rfl
  · have c1 := mt (nI_le0 (by omega)).mpr c1
    have ea : detA pl = 0 := if_pos (by omega)
    refine lv_iconst (v := nI 0) hx hb dX0_gapsWithout_4 (by decide) ?_
    refine lv_goto (tgt := 9) hx hb dX0_gapsWithout_5 (by decide) ?_
    refine lv_istore_n (lv' := [(3, .int (nI 0)), (0, .ref k), (1, .int (nI pl)), (2, .int (nI ln))]) hx hb dX0_gapsWithout_9 rfl hl (by decide) rfl (fun ls hl => ?_)
    refine lv_iload_n hx hb dX0_gapsWithout_10 rfl (lv_at hl 2 rfl) ?_
    refine lv_iconst (v := nI 1) hx hb dX0_gapsWithout_11 (by decide) ?_
    refine lv_icmp_le (tgt := 19) hx hb dX0_gapsWithout_12 (by decide) (fun c12 => ?_) (fun c12 => ?_)
    · have c12 := (nI_leI (by omega) (by omega)).mp c12
      have eb : detB pl = 2 := if_neg (by omega)
      refine lv_iconst (v := nI 2) hx hb dX0_gapsWithout_19 (by decide) ?_
      refine lv_istore (lv' := [(4, .int (nI 2)), (3, .int (nI 0)), (0, .ref k), (1, .int (nI pl)), (2, .int (nI ln))]) hx hb dX0_gapsWithout_20 hl (by decide) rfl (fun ls hl => ?_)
      refine lv_iload_n hx hb dX0_gapsWithout_22 rfl (lv_at hl 3 rfl) ?_
      refine lv_iconst (v := nI 2) hx hb dX0_gapsWithout_23 (by decide) ?_
      refine lv_icmp_le (tgt := 31) hx hb dX0_gapsWithout_24 (by decide) (fun c24 => ?_) (fun c24 => ?_)
      · have c24 := (nI_leI (by omega) (by omega)).mp c24
        have ec : detC pl = 3 := if_neg (by omega)
        refine lv_iconst (v := nI 3) hx hb dX0_gapsWithout_31 (by decide) ?_
        refine lv_istore (lv' := [(5, .int (nI 3)), (4, .int (nI 2)), (3, .int (nI 0)), (0, .ref k), (1, .int (nI pl)), (2, .int (nI ln))]) hx hb dX0_gapsWithout_32 hl (by decide) rfl (fun ls hl => ?_)
        refine lv_iload_n hx hb dX0_gapsWithout_34 rfl (lv_at hl 5 rfl) ?_
        rcases (show ln = 0 ∨ ln = 1 ∨ ln = 2 ∨ 2 < ln by omega) with hsw | hsw | hsw | hsw
        · refine lv_tableIn (tgt := 60) (off := 25) hx hb dX0_gapsWithout_35 (by rw [hsw]; decide) (by rw [hsw]; decide) (by rw [hsw]; decide) (by decide) ?_
          refine lv_lconst (v := 1) hx hb dX0_gapsWithout_60 (by decide) ?_
          refine g_retl hC hs ?_ dX0_gapsWithout_61
          first | subst hsw | obtain rfl : ln = 3 := by omega
          simp only [detS, ea, eb, ec]
          try rfl
        · refine lv_tableIn (tgt := 62) (off := 27) hx hb dX0_gapsWithout_35 (by rw [hsw]; decide) (by rw [hsw]; decide) (by rw [hsw]; decide) (by decide) ?_
          refine lv_aload_n hx hb dX0_gapsWithout_62 rfl (lv_at hl 3 rfl) ?_
          refine g_get hC hP hco.1 rfl inX0 3 (by decide) q1_65 hco.2.2.1 dX0_gapsWithout_63 ?_
          refine lv_iconst (v := nI 0) hx hb dX0_gapsWithout_66 (by decide) ?_
          refine g_aaldG hC hP hco.2.2.2.2.1 (vp_in_nI (by omega) (by decide)) (v := .ref (k + 5)) (by first | exact e0 | exact coG_q hco (j := 0) (by omega)) dX0_gapsWithout_67 ?_
          refine lv_iload_n hx hb dX0_gapsWithout_68 rfl (lv_at hl 2 rfl) ?_
          refine g_lald hC hP hg0 (vp_in_nI (by omega) (by decide)) dX0_gapsWithout_69 ?_
          refine g_topl (y := J (k + 5) 0) rfl ?_
          refine g_retl hC hs ?_ dX0_gapsWithout_70
          first | subst hsw | obtain rfl : ln = 3 := by omega
          simp only [detS, ea, eb, ec]
          try rfl
        · refine lv_tableIn (tgt := 71) (off := 36) hx hb dX0_gapsWithout_35 (by rw [hsw]; decide) (by rw [hsw]; decide) (by rw [hsw]; decide) (by decide) ?_
          refine lv_aload_n hx hb dX0_gapsWithout_71 rfl (lv_at hl 3 rfl) ?_
          refine lv_iconst (v := nI 0) hx hb dX0_gapsWithout_72 (by decide) ?_
          refine lv_iconst (v := nI 1) hx hb dX0_gapsWithout_73 (by decide) ?_
          refine lv_iload_n hx hb dX0_gapsWithout_74 rfl (lv_at hl 2 rfl) ?_
          refine lv_iload hx hb dX0_gapsWithout_75 (lv_at hl 1 rfl) ?_
          refine g_cp (g_rV (As := [.int (nI 0), .int (nI 1), .int (nI 0), .int (nI 2)]) hC hP (c_X0_twoLines l hP (k := k) (x := 0) (y := 1) (a := 0) (d := 2) (by first | assumption | omega) (by first | assumption | omega) (by first | assumption | omega) (by first | assumption | omega) (by first | assumption | omega)) hco.1 rfl ⟨q2_122, q2_119, q2_121, qs_15, q1_3⟩ dd_X0_twoLines ⟨Nat.le_of_ble_eq_true rfl, Nat.le_of_ble_eq_true rfl, rfl, rfl⟩ hl.1 rfl (Nat.le_of_ble_eq_true rfl) dX0_gapsWithout_77 ⟨Nat.le_of_ble_eq_true rfl, Nat.le_of_ble_eq_true rfl⟩) ?_
          refine W.eq (g2 := F0 m 80 ls [.long (det2 (fun q => J (k + 5 + q)) 0 1 0 2)]) rfl ?_
          refine g_retl hC hs ?_ dX0_gapsWithout_80
          first | subst hsw | obtain rfl : ln = 3 := by omega
          simp only [detS, ea, eb, ec]
          try rfl
        · refine lv_tableOut (tgt := 81) hx hb dX0_gapsWithout_35 (Or.inr (by rw [nI_toInt (by omega)]; omega)) (by decide) ?_
          refine lv_aload_n hx hb dX0_gapsWithout_81 rfl (lv_at hl 3 rfl) ?_
          refine g_get hC hP hco.1 rfl inX0 3 (by decide) q1_65 hco.2.2.1 dX0_gapsWithout_82 ?_
          refine lv_iconst (v := nI 0) hx hb dX0_gapsWithout_85 (by decide) ?_
          refine g_aaldG hC hP hco.2.2.2.2.1 (vp_in_nI (by omega) (by decide)) (v := .ref (k + 5)) (by first | exact e0 | exact coG_q hco (j := 0) (by omega)) dX0_gapsWithout_86 ?_
          refine lv_iload_n hx hb dX0_gapsWithout_87 rfl (lv_at hl 2 rfl) ?_
          refine g_lald hC hP hg0 (vp_in_nI (by omega) (by decide)) dX0_gapsWithout_88 ?_
          refine g_topl (y := J (k + 5) 0) rfl ?_
          refine lv_aload_n hx hb dX0_gapsWithout_89 rfl (lv_at hl 3 rfl) ?_
          refine lv_iconst (v := nI 1) hx hb dX0_gapsWithout_90 (by decide) ?_
          refine lv_iconst (v := nI 2) hx hb dX0_gapsWithout_91 (by decide) ?_
          refine lv_iload hx hb dX0_gapsWithout_92 (lv_at hl 1 rfl) ?_
          refine lv_iload hx hb dX0_gapsWithout_94 (lv_at hl 0 rfl) ?_
          refine g_cp (g_rV (As := [.int (nI 1), .int (nI 2), .int (nI 2), .int (nI 3)]) hC hP (c_X0_twoLines l hP (k := k) (x := 1) (y := 2) (a := 2) (d := 3) (by first | assumption | omega) (by first | assumption | omega) (by first | assumption | omega) (by first | assumption | omega) (by first | assumption | omega)) hco.1 rfl ⟨q2_122, q2_119, q2_121, qs_15, q1_3⟩ dd_X0_twoLines ⟨Nat.le_of_ble_eq_true rfl, Nat.le_of_ble_eq_true rfl, rfl, rfl⟩ hl.1 rfl (Nat.le_of_ble_eq_true rfl) dX0_gapsWithout_96 ⟨Nat.le_of_ble_eq_true rfl, Nat.le_of_ble_eq_true rfl⟩) ?_
          refine W.eq (g2 := F0 m 99 ls [.long (det2 (fun q => J (k + 5 + q)) 1 2 2 3), .long (J (k + 5) 0)]) rfl ?_
          refine lv_lmul hx hb dX0_gapsWithout_99 ?_
          refine lv_aload_n hx hb dX0_gapsWithout_100 rfl (lv_at hl 3 rfl) ?_
          refine g_get hC hP hco.1 rfl inX0 3 (by decide) q1_65 hco.2.2.1 dX0_gapsWithout_101 ?_
          refine lv_iconst (v := nI 0) hx hb dX0_gapsWithout_104 (by decide) ?_
          refine g_aaldG hC hP hco.2.2.2.2.1 (vp_in_nI (by omega) (by decide)) (v := .ref (k + 5)) (by first | exact e0 | exact coG_q hco (j := 0) (by omega)) dX0_gapsWithout_105 ?_
          refine lv_iload hx hb dX0_gapsWithout_106 (lv_at hl 1 rfl) ?_
          refine g_lald hC hP hg0 (vp_in_nI (by omega) (by decide)) dX0_gapsWithout_108 ?_
          refine g_topl (y := J (k + 5) 2) rfl ?_
          refine lv_aload_n hx hb dX0_gapsWithout_109 rfl (lv_at hl 3 rfl) ?_
          refine lv_iconst (v := nI 1) hx hb dX0_gapsWithout_110 (by decide) ?_
          refine lv_iconst (v := nI 2) hx hb dX0_gapsWithout_111 (by decide) ?_
          refine lv_iload_n hx hb dX0_gapsWithout_112 rfl (lv_at hl 2 rfl) ?_
          refine lv_iload hx hb dX0_gapsWithout_113 (lv_at hl 0 rfl) ?_
          refine g_cp (g_rV (As := [.int (nI 1), .int (nI 2), .int (nI 0), .int (nI 3)]) hC hP (c_X0_twoLines l hP (k := k) (x := 1) (y := 2) (a := 0) (d := 3) (by first | assumption | omega) (by first | assumption | omega) (by first | assumption | omega) (by first | assumption | omega) (by first | assumption | omega)) hco.1 rfl ⟨q2_122, q2_119, q2_121, qs_15, q1_3⟩ dd_X0_twoLines ⟨Nat.le_of_ble_eq_true rfl, Nat.le_of_ble_eq_true rfl, rfl, rfl⟩ hl.1 rfl (Nat.le_of_ble_eq_true rfl) dX0_gapsWithout_115 ⟨Nat.le_of_ble_eq_true rfl, Nat.le_of_ble_eq_true rfl⟩) ?_
          refine W.eq (g2 := F0 m 118 ls [.long (det2 (fun q => J (k + 5 + q)) 1 2 0 3), .long (J (k + 5) 2), .long ((J (k + 5) 0) * (det2 (fun q => J (k + 5 + q)) 1 2 2 3))]) rfl ?_
          refine lv_lmul hx hb dX0_gapsWithout_118 ?_
          refine lv_lsub hx hb dX0_gapsWithout_119 ?_
          refine lv_aload_n hx hb dX0_gapsWithout_120 rfl (lv_at hl 3 rfl) ?_
          refine g_get hC hP hco.1 rfl inX0 3 (by decide) q1_65 hco.2.2.1 dX0_gapsWithout_121 ?_
          refine lv_iconst (v := nI 0) hx hb dX0_gapsWithout_124 (by decide) ?_
          refine g_aaldG hC hP hco.2.2.2.2.1 (vp_in_nI (by omega) (by decide)) (v := .ref (k + 5)) (by first | exact e0 | exact coG_q hco (j := 0) (by omega)) dX0_gapsWithout_125 ?_
          refine lv_iload hx hb dX0_gapsWithout_126 (lv_at hl 0 rfl) ?_
          refine g_lald hC hP hg0 (vp_in_nI (by omega) (by decide)) dX0_gapsWithout_128 ?_
          refine g_topl (y := J (k + 5) 3) rfl ?_
          refine lv_aload_n hx hb dX0_gapsWithout_129 rfl (lv_at hl 3 rfl) ?_
          refine lv_iconst (v := nI 1) hx hb dX0_gapsWithout_130 (by decide) ?_
          refine lv_iconst (v := nI 2) hx hb dX0_gapsWithout_131 (by decide) ?_
          refine lv_iload_n hx hb dX0_gapsWithout_132 rfl (lv_at hl 2 rfl) ?_
          refine lv_iload hx hb dX0_gapsWithout_133 (lv_at hl 1 rfl) ?_
          refine g_cp (g_rV (As := [.int (nI 1), .int (nI 2), .int (nI 0), .int (nI 2)]) hC hP (c_X0_twoLines l hP (k := k) (x := 1) (y := 2) (a := 0) (d := 2) (by first | assumption | omega) (by first | assumption | omega) (by first | assumption | omega) (by first | assumption | omega) (by first | assumption | omega)) hco.1 rfl ⟨q2_122, q2_119, q2_121, qs_15, q1_3⟩ dd_X0_twoLines ⟨Nat.le_of_ble_eq_true rfl, Nat.le_of_ble_eq_true rfl, rfl, rfl⟩ hl.1 rfl (Nat.le_of_ble_eq_true rfl) dX0_gapsWithout_135 ⟨Nat.le_of_ble_eq_true rfl, Nat.le_of_ble_eq_true rfl⟩) ?_
          refine W.eq (g2 := F0 m 138 ls [.long (det2 (fun q => J (k + 5 + q)) 1 2 0 2), .long (J (k + 5) 3), .long (((J (k + 5) 0) * (det2 (fun q => J (k + 5 + q)) 1 2 2 3)) - ((J (k + 5) 2) * (det2 (fun q => J (k + 5 + q)) 1 2 0 3)))]) rfl ?_
          refine lv_lmul hx hb dX0_gapsWithout_138 ?_
          refine lv_ladd hx hb dX0_gapsWithout_139 ?_
          refine g_retl hC hs ?_ dX0_gapsWithout_140
          first | subst hsw | obtain rfl : ln = 3 := by omega
          simp only [detS, ea, eb, ec]
          try rfl
      · have c24 := mt (nI_leI (by omega) (by omega)).mpr c24
        have ec : detC pl = 2 := if_pos (by omega)
        refine lv_iconst (v := nI 2) hx hb dX0_gapsWithout_27 (by decide) ?_
        refine lv_goto (tgt := 32) hx hb dX0_gapsWithout_28 (by decide) ?_
        refine lv_istore (lv' := [(5, .int (nI 2)), (4, .int (nI 2)), (3, .int (nI 0)), (0, .ref k), (1, .int (nI pl)), (2, .int (nI ln))]) hx hb dX0_gapsWithout_32 hl (by decide) rfl (fun ls hl => ?_)
        refine lv_iload_n hx hb dX0_gapsWithout_34 rfl (lv_at hl 5 rfl) ?_
        rcases (show ln = 0 ∨ ln = 1 ∨ ln = 2 ∨ 2 < ln by omega) with hsw | hsw | hsw | hsw
        · refine lv_tableIn (tgt := 60) (off := 25) hx hb dX0_gapsWithout_35 (by rw [hsw]; decide) (by rw [hsw]; decide) (by rw [hsw]; decide) (by decide) ?_
          refine lv_lconst (v := 1) hx hb dX0_gapsWithout_60 (by decide) ?_
          refine g_retl hC hs ?_ dX0_gapsWithout_61
          first | subst hsw | obtain rfl : ln = 3 := by omega
          simp only [detS, ea, eb, ec]
          try rfl
        · refine lv_tableIn (tgt := 62) (off := 27) hx hb dX0_gapsWithout_35 (by rw [hsw]; decide) (by rw [hsw]; decide) (by rw [hsw]; decide) (by decide) ?_
          refine lv_aload_n hx hb dX0_gapsWithout_62 rfl (lv_at hl 3 rfl) ?_
          refine g_get hC hP hco.1 rfl inX0 3 (by decide) q1_65 hco.2.2.1 dX0_gapsWithout_63 ?_
          refine lv_iconst (v := nI 0) hx hb dX0_gapsWithout_66 (by decide) ?_
          refine g_aaldG hC hP hco.2.2.2.2.1 (vp_in_nI (by omega) (by decide)) (v := .ref (k + 5)) (by first | exact e0 | exact coG_q hco (j := 0) (by omega)) dX0_gapsWithout_67 ?_
          refine lv_iload_n hx hb dX0_gapsWithout_68 rfl (lv_at hl 2 rfl) ?_
          refine g_lald hC hP hg0 (vp_in_nI (by omega) (by decide)) dX0_gapsWithout_69 ?_
          refine g_topl (y := J (k + 5) 0) rfl ?_
          refine g_retl hC hs ?_ dX0_gapsWithout_70
          first | subst hsw | obtain rfl : ln = 3 := by omega
          simp only [detS, ea, eb, ec]
          try rfl
        · refine lv_tableIn (tgt := 71) (off := 36) hx hb dX0_gapsWithout_35 (by rw [hsw]; decide) (by rw [hsw]; decide) (by rw [hsw]; decide) (by decide) ?_
          refine lv_aload_n hx hb dX0_gapsWithout_71 rfl (lv_at hl 3 rfl) ?_
          refine lv_iconst (v := nI 0) hx hb dX0_gapsWithout_72 (by decide) ?_
          refine lv_iconst (v := nI 1) hx hb dX0_gapsWithout_73 (by decide) ?_
          refine lv_iload_n hx hb dX0_gapsWithout_74 rfl (lv_at hl 2 rfl) ?_
          refine lv_iload hx hb dX0_gapsWithout_75 (lv_at hl 1 rfl) ?_
          refine g_cp (g_rV (As := [.int (nI 0), .int (nI 1), .int (nI 0), .int (nI 2)]) hC hP (c_X0_twoLines l hP (k := k) (x := 0) (y := 1) (a := 0) (d := 2) (by first | assumption | omega) (by first | assumption | omega) (by first | assumption | omega) (by first | assumption | omega) (by first | assumption | omega)) hco.1 rfl ⟨q2_122, q2_119, q2_121, qs_15, q1_3⟩ dd_X0_twoLines ⟨Nat.le_of_ble_eq_true rfl, Nat.le_of_ble_eq_true rfl, rfl, rfl⟩ hl.1 rfl (Nat.le_of_ble_eq_true rfl) dX0_gapsWithout_77 ⟨Nat.le_of_ble_eq_true rfl, Nat.le_of_ble_eq_true rfl⟩) ?_
          refine W.eq (g2 := F0 m 80 ls [.long (det2 (fun q => J (k + 5 + q)) 0 1 0 2)]) rfl ?_
          refine g_retl hC hs ?_ dX0_gapsWithout_80
          first | subst hsw | obtain rfl : ln = 3 := by omega
          simp only [detS, ea, eb, ec]
          try rfl
        · refine lv_tableOut (tgt := 81) hx hb dX0_gapsWithout_35 (Or.inr (by rw [nI_toInt (by omega)]; omega)) (by decide) ?_
          refine lv_aload_n hx hb dX0_gapsWithout_81 rfl (lv_at hl 3 rfl) ?_
          refine g_get hC hP hco.1 rfl inX0 3 (by decide) q1_65 hco.2.2.1 dX0_gapsWithout_82 ?_
          refine lv_iconst (v := nI 0) hx hb dX0_gapsWithout_85 (by decide) ?_
          refine g_aaldG hC hP hco.2.2.2.2.1 (vp_in_nI (by omega) (by decide)) (v := .ref (k + 5)) (by first | exact e0 | exact coG_q hco (j := 0) (by omega)) dX0_gapsWithout_86 ?_
          refine lv_iload_n hx hb dX0_gapsWithout_87 rfl (lv_at hl 2 rfl) ?_
          refine g_lald hC hP hg0 (vp_in_nI (by omega) (by decide)) dX0_gapsWithout_88 ?_
          refine g_topl (y := J (k + 5) 0) rfl ?_
          refine lv_aload_n hx hb dX0_gapsWithout_89 rfl (lv_at hl 3 rfl) ?_
          refine lv_iconst (v := nI 1) hx hb dX0_gapsWithout_90 (by decide) ?_
          refine lv_iconst (v := nI 2) hx hb dX0_gapsWithout_91 (by decide) ?_
          refine lv_iload hx hb dX0_gapsWithout_92 (lv_at hl 1 rfl) ?_
          refine lv_iload hx hb dX0_gapsWithout_94 (lv_at hl 0 rfl) ?_
          refine g_cp (g_rV (As := [.int (nI 1), .int (nI 2), .int (nI 2), .int (nI 2)]) hC hP (c_X0_twoLines l hP (k := k) (x := 1) (y := 2) (a := 2) (d := 2) (by first | assumption | omega) (by first | assumption | omega) (by first | assumption | omega) (by first | assumption | omega) (by first | assumption | omega)) hco.1 rfl ⟨q2_122, q2_119, q2_121, qs_15, q1_3⟩ dd_X0_twoLines ⟨Nat.le_of_ble_eq_true rfl, Nat.le_of_ble_eq_true rfl, rfl, rfl⟩ hl.1 rfl (Nat.le_of_ble_eq_true rfl) dX0_gapsWithout_96 ⟨Nat.le_of_ble_eq_true rfl, Nat.le_of_ble_eq_true rfl⟩) ?_
          refine W.eq (g2 := F0 m 99 ls [.long (det2 (fun q => J (k + 5 + q)) 1 2 2 2), .long (J (k + 5) 0)]) rfl ?_
          refine lv_lmul hx hb dX0_gapsWithout_99 ?_
          refine lv_aload_n hx hb dX0_gapsWithout_100 rfl (lv_at hl 3 rfl) ?_
          refine g_get hC hP hco.1 rfl inX0 3 (by decide) q1_65 hco.2.2.1 dX0_gapsWithout_101 ?_
          refine lv_iconst (v := nI 0) hx hb dX0_gapsWithout_104 (by decide) ?_
          refine g_aaldG hC hP hco.2.2.2.2.1 (vp_in_nI (by omega) (by decide)) (v := .ref (k + 5)) (by first | exact e0 | exact coG_q hco (j := 0) (by omega)) dX0_gapsWithout_105 ?_
          refine lv_iload hx hb dX0_gapsWithout_106 (lv_at hl 1 rfl) ?_
          refine g_lald hC hP hg0 (vp_in_nI (by omega) (by decide)) dX0_gapsWithout_108 ?_
          refine g_topl (y := J (k + 5) 2) rfl ?_
          refine lv_aload_n hx hb dX0_gapsWithout_109 rfl (lv_at hl 3 rfl) ?_
          refine lv_iconst (v := nI 1) hx hb dX0_gapsWithout_110 (by decide) ?_
          refine lv_iconst (v := nI 2) hx hb dX0_gapsWithout_111 (by decide) ?_
          refine lv_iload_n hx hb dX0_gapsWithout_112 rfl (lv_at hl 2 rfl) ?_
          refine lv_iload hx hb dX0_gapsWithout_113 (lv_at hl 0 rfl) ?_
          refine g_cp (g_rV (As := [.int (nI 1), .int (nI 2), .int (nI 0), .int (nI 2)]) hC hP (c_X0_twoLines l hP (k := k) (x := 1) (y := 2) (a := 0) (d := 2) (by first | assumption | omega) (by first | assumption | omega) (by first | assumption | omega) (by first | assumption | omega) (by first | assumption | omega)) hco.1 rfl ⟨q2_122, q2_119, q2_121, qs_15, q1_3⟩ dd_X0_twoLines ⟨Nat.le_of_ble_eq_true rfl, Nat.le_of_ble_eq_true rfl, rfl, rfl⟩ hl.1 rfl (Nat.le_of_ble_eq_true rfl) dX0_gapsWithout_115 ⟨Nat.le_of_ble_eq_true rfl, Nat.le_of_ble_eq_true rfl⟩) ?_
          refine W.eq (g2 := F0 m 118 ls [.long (det2 (fun q => J (k + 5 + q)) 1 2 0 2), .long (J (k + 5) 2), .long ((J (k + 5) 0) * (det2 (fun q => J (k + 5 + q)) 1 2 2 2))]) rfl ?_
          refine lv_lmul hx hb dX0_gapsWithout_118 ?_
          refine lv_lsub hx hb dX0_gapsWithout_119 ?_
          refine lv_aload_n hx hb dX0_gapsWithout_120 rfl (lv_at hl 3 rfl) ?_
          refine g_get hC hP hco.1 rfl inX0 3 (by decide) q1_65 hco.2.2.1 dX0_gapsWithout_121 ?_
          refine lv_iconst (v := nI 0) hx hb dX0_gapsWithout_124 (by decide) ?_
          refine g_aaldG hC hP hco.2.2.2.2.1 (vp_in_nI (by omega) (by decide)) (v := .ref (k + 5)) (by first | exact e0 | exact coG_q hco (j := 0) (by omega)) dX0_gapsWithout_125 ?_
          refine lv_iload hx hb dX0_gapsWithout_126 (lv_at hl 0 rfl) ?_
          refine g_lald hC hP hg0 (vp_in_nI (by omega) (by decide)) dX0_gapsWithout_128 ?_
          refine g_topl (y := J (k + 5) 2) rfl ?_
          refine lv_aload_n hx hb dX0_gapsWithout_129 rfl (lv_at hl 3 rfl) ?_
          refine lv_iconst (v := nI 1) hx hb dX0_gapsWithout_130 (by decide) ?_
          refine lv_iconst (v := nI 2) hx hb dX0_gapsWithout_131 (by decide) ?_
          refine lv_iload_n hx hb dX0_gapsWithout_132 rfl (lv_at hl 2 rfl) ?_
          refine lv_iload hx hb dX0_gapsWithout_133 (lv_at hl 1 rfl) ?_
          refine g_cp (g_rV (As := [.int (nI 1), .int (nI 2), .int (nI 0), .int (nI 2)]) hC hP (c_X0_twoLines l hP (k := k) (x := 1) (y := 2) (a := 0) (d := 2) (by first | assumption | omega) (by first | assumption | omega) (by first | assumption | omega) (by first | assumption | omega) (by first | assumption | omega)) hco.1 rfl ⟨q2_122, q2_119, q2_121, qs_15, q1_3⟩ dd_X0_twoLines ⟨Nat.le_of_ble_eq_true rfl, Nat.le_of_ble_eq_true rfl, rfl, rfl⟩ hl.1 rfl (Nat.le_of_ble_eq_true rfl) dX0_gapsWithout_135 ⟨Nat.le_of_ble_eq_true rfl, Nat.le_of_ble_eq_true rfl⟩) ?_
          refine W.eq (g2 := F0 m 138 ls [.long (det2 (fun q => J (k + 5 + q)) 1 2 0 2), .long (J (k + 5) 2), .long (((J (k + 5) 0) * (det2 (fun q => J (k + 5 + q)) 1 2 2 2)) - ((J (k + 5) 2) * (det2 (fun q => J (k + 5 + q)) 1 2 0 2)))]) rfl ?_
          refine lv_lmul hx hb dX0_gapsWithout_138 ?_
          refine lv_ladd hx hb dX0_gapsWithout_139 ?_
          refine g_retl hC hs ?_ dX0_gapsWithout_140
          first | subst hsw | obtain rfl : ln = 3 := by omega
          simp only [detS, ea, eb, ec]
          try rfl
    · have c12 := mt (nI_leI (by omega) (by omega)).mpr c12
      have eb : detB pl = 1 := if_pos (by omega)
      refine lv_iconst (v := nI 1) hx hb dX0_gapsWithout_15 (by decide) ?_
      refine lv_goto (tgt := 20) hx hb dX0_gapsWithout_16 (by decide) ?_
      refine lv_istore (lv' := [(4, .int (nI 1)), (3, .int (nI 0)), (0, .ref k), (1, .int (nI pl)), (2, .int (nI ln))]) hx hb dX0_gapsWithout_20 hl (by decide) rfl (fun ls hl => ?_)
      refine lv_iload_n hx hb dX0_gapsWithout_22 rfl (lv_at hl 3 rfl) ?_
      refine lv_iconst (v := nI 2) hx hb dX0_gapsWithout_23 (by decide) ?_
      refine lv_icmp_le (tgt := 31) hx hb dX0_gapsWithout_24 (by decide) (fun c24 => ?_) (fun c24 => ?_)
      · have c24 := (nI_leI (by omega) (by omega)).mp c24
        have ec : detC pl = 3 := if_neg (by omega)
        refine lv_iconst (v := nI 3) hx hb dX0_gapsWithout_31 (by decide) ?_
        refine lv_istore (lv' := [(5, .int (nI 3)), (4, .int (nI 1)), (3, .int (nI 0)), (0, .ref k), (1, .int (nI pl)), (2, .int (nI ln))]) hx hb dX0_gapsWithout_32 hl (by decide) rfl (fun ls hl => ?_)
        refine lv_iload_n hx hb dX0_gapsWithout_34 rfl (lv_at hl 5 rfl) ?_
        rcases (show ln = 0 ∨ ln = 1 ∨ ln = 2 ∨ 2 < ln by omega) with hsw | hsw | hsw | hsw
        · refine lv_tableIn (tgt := 60) (off := 25) hx hb dX0_gapsWithout_35 (by rw [hsw]; decide) (by rw [hsw]; decide) (by rw [hsw]; decide) (by decide) ?_
          refine lv_lconst (v := 1) hx hb dX0_gapsWithout_60 (by decide) ?_
          refine g_retl hC hs ?_ dX0_gapsWithout_61
          first | subst hsw | obtain rfl : ln = 3 := by omega
          simp only [detS, ea, eb, ec]
          try rfl
        · refine lv_tableIn (tgt := 62) (off := 27) hx hb dX0_gapsWithout_35 (by rw [hsw]; decide) (by rw [hsw]; decide) (by rw [hsw]; decide) (by decide) ?_
          refine lv_aload_n hx hb dX0_gapsWithout_62 rfl (lv_at hl 3 rfl) ?_
          refine g_get hC hP hco.1 rfl inX0 3 (by decide) q1_65 hco.2.2.1 dX0_gapsWithout_63 ?_
          refine lv_iconst (v := nI 0) hx hb dX0_gapsWithout_66 (by decide) ?_
          refine g_aaldG hC hP hco.2.2.2.2.1 (vp_in_nI (by omega) (by decide)) (v := .ref (k + 5)) (by first | exact e0 | exact coG_q hco (j := 0) (by omega)) dX0_gapsWithout_67 ?_
          refine lv_iload_n hx hb dX0_gapsWithout_68 rfl (lv_at hl 2 rfl) ?_
          refine g_lald hC hP hg0 (vp_in_nI (by omega) (by decide)) dX0_gapsWithout_69 ?_
          refine g_topl (y := J (k + 5) 0) rfl ?_
          refine g_retl hC hs ?_ dX0_gapsWithout_70
          first | subst hsw | obtain rfl : ln = 3 := by omega
          simp only [detS, ea, eb, ec]
          try rfl
        · refine lv_tableIn (tgt := 71) (off := 36) hx hb dX0_gapsWithout_35 (by rw [hsw]; decide) (by rw [hsw]; decide) (by rw [hsw]; decide) (by decide) ?_
          refine lv_aload_n hx hb dX0_gapsWithout_71 rfl (lv_at hl 3 rfl) ?_
          refine lv_iconst (v := nI 0) hx hb dX0_gapsWithout_72 (by decide) ?_
          refine lv_iconst (v := nI 1) hx hb dX0_gapsWithout_73 (by decide) ?_
          refine lv_iload_n hx hb dX0_gapsWithout_74 rfl (lv_at hl 2 rfl) ?_
          refine lv_iload hx hb dX0_gapsWithout_75 (lv_at hl 1 rfl) ?_
          refine g_cp (g_rV (As := [.int (nI 0), .int (nI 1), .int (nI 0), .int (nI 1)]) hC hP (c_X0_twoLines l hP (k := k) (x := 0) (y := 1) (a := 0) (d := 1) (by first | assumption | omega) (by first | assumption | omega) (by first | assumption | omega) (by first | assumption | omega) (by first | assumption | omega)) hco.1 rfl ⟨q2_122, q2_119, q2_121, qs_15, q1_3⟩ dd_X0_twoLines ⟨Nat.le_of_ble_eq_true rfl, Nat.le_of_ble_eq_true rfl, rfl, rfl⟩ hl.1 rfl (Nat.le_of_ble_eq_true rfl) dX0_gapsWithout_77 ⟨Nat.le_of_ble_eq_true rfl, Nat.le_of_ble_eq_true rfl⟩) ?_
          refine W.eq (g2 := F0 m 80 ls [.long (det2 (fun q => J (k + 5 + q)) 0 1 0 1)]) rfl ?_
          refine g_retl hC hs ?_ dX0_gapsWithout_80
          first | subst hsw | obtain rfl : ln = 3 := by omega
          simp only [detS, ea, eb, ec]
          try rfl
        · refine lv_tableOut (tgt := 81) hx hb dX0_gapsWithout_35 (Or.inr (by rw [nI_toInt (by omega)]; omega)) (by decide) ?_
          refine lv_aload_n hx hb dX0_gapsWithout_81 rfl (lv_at hl 3 rfl) ?_
          refine g_get hC hP hco.1 rfl inX0 3 (by decide) q1_65 hco.2.2.1 dX0_gapsWithout_82 ?_
          refine lv_iconst (v := nI 0) hx hb dX0_gapsWithout_85 (by decide) ?_
          refine g_aaldG hC hP hco.2.2.2.2.1 (vp_in_nI (by omega) (by decide)) (v := .ref (k + 5)) (by first | exact e0 | exact coG_q hco (j := 0) (by omega)) dX0_gapsWithout_86 ?_
          refine lv_iload_n hx hb dX0_gapsWithout_87 rfl (lv_at hl 2 rfl) ?_
          refine g_lald hC hP hg0 (vp_in_nI (by omega) (by decide)) dX0_gapsWithout_88 ?_
          refine g_topl (y := J (k + 5) 0) rfl ?_
          refine lv_aload_n hx hb dX0_gapsWithout_89 rfl (lv_at hl 3 rfl) ?_
          refine lv_iconst (v := nI 1) hx hb dX0_gapsWithout_90 (by decide) ?_
          refine lv_iconst (v := nI 2) hx hb dX0_gapsWithout_91 (by decide) ?_
          refine lv_iload hx hb dX0_gapsWithout_92 (lv_at hl 1 rfl) ?_
          refine lv_iload hx hb dX0_gapsWithout_94 (lv_at hl 0 rfl) ?_
          refine g_cp (g_rV (As := [.int (nI 1), .int (nI 2), .int (nI 1), .int (nI 3)]) hC hP (c_X0_twoLines l hP (k := k) (x := 1) (y := 2) (a := 1) (d := 3) (by first | assumption | omega) (by first | assumption | omega) (by first | assumption | omega) (by first | assumption | omega) (by first | assumption | omega)) hco.1 rfl ⟨q2_122, q2_119, q2_121, qs_15, q1_3⟩ dd_X0_twoLines ⟨Nat.le_of_ble_eq_true rfl, Nat.le_of_ble_eq_true rfl, rfl, rfl⟩ hl.1 rfl (Nat.le_of_ble_eq_true rfl) dX0_gapsWithout_96 ⟨Nat.le_of_ble_eq_true rfl, Nat.le_of_ble_eq_true rfl⟩) ?_
          refine W.eq (g2 := F0 m 99 ls [.long (det2 (fun q => J (k + 5 + q)) 1 2 1 3), .long (J (k + 5) 0)]) rfl ?_
          refine lv_lmul hx hb dX0_gapsWithout_99 ?_
          refine lv_aload_n hx hb dX0_gapsWithout_100 rfl (lv_at hl 3 rfl) ?_
          refine g_get hC hP hco.1 rfl inX0 3 (by decide) q1_65 hco.2.2.1 dX0_gapsWithout_101 ?_
          refine lv_iconst (v := nI 0) hx hb dX0_gapsWithout_104 (by decide) ?_
          refine g_aaldG hC hP hco.2.2.2.2.1 (vp_in_nI (by omega) (by decide)) (v := .ref (k + 5)) (by first | exact e0 | exact coG_q hco (j := 0) (by omega)) dX0_gapsWithout_105 ?_
          refine lv_iload hx hb dX0_gapsWithout_106 (lv_at hl 1 rfl) ?_
          refine g_lald hC hP hg0 (vp_in_nI (by omega) (by decide)) dX0_gapsWithout_108 ?_
          refine g_topl (y := J (k + 5) 1) rfl ?_
          refine lv_aload_n hx hb dX0_gapsWithout_109 rfl (lv_at hl 3 rfl) ?_
          refine lv_iconst (v := nI 1) hx hb dX0_gapsWithout_110 (by decide) ?_
          refine lv_iconst (v := nI 2) hx hb dX0_gapsWithout_111 (by decide) ?_
          refine lv_iload_n hx hb dX0_gapsWithout_112 rfl (lv_at hl 2 rfl) ?_
          refine lv_iload hx hb dX0_gapsWithout_113 (lv_at hl 0 rfl) ?_
          refine g_cp (g_rV (As := [.int (nI 1), .int (nI 2), .int (nI 0), .int (nI 3)]) hC hP (c_X0_twoLines l hP (k := k) (x := 1) (y := 2) (a := 0) (d := 3) (by first | assumption | omega) (by first | assumption | omega) (by first | assumption | omega) (by first | assumption | omega) (by first | assumption | omega)) hco.1 rfl ⟨q2_122, q2_119, q2_121, qs_15, q1_3⟩ dd_X0_twoLines ⟨Nat.le_of_ble_eq_true rfl, Nat.le_of_ble_eq_true rfl, rfl, rfl⟩ hl.1 rfl (Nat.le_of_ble_eq_true rfl) dX0_gapsWithout_115 ⟨Nat.le_of_ble_eq_true rfl, Nat.le_of_ble_eq_true rfl⟩) ?_
          refine W.eq (g2 := F0 m 118 ls [.long (det2 (fun q => J (k + 5 + q)) 1 2 0 3), .long (J (k + 5) 1), .long ((J (k + 5) 0) * (det2 (fun q => J (k + 5 + q)) 1 2 1 3))]) rfl ?_
          refine lv_lmul hx hb dX0_gapsWithout_118 ?_
          refine lv_lsub hx hb dX0_gapsWithout_119 ?_
          refine lv_aload_n hx hb dX0_gapsWithout_120 rfl (lv_at hl 3 rfl) ?_
          refine g_get hC hP hco.1 rfl inX0 3 (by decide) q1_65 hco.2.2.1 dX0_gapsWithout_121 ?_
          refine lv_iconst (v := nI 0) hx hb dX0_gapsWithout_124 (by decide) ?_
          refine g_aaldG hC hP hco.2.2.2.2.1 (vp_in_nI (by omega) (by decide)) (v := .ref (k + 5)) (by first | exact e0 | exact coG_q hco (j := 0) (by omega)) dX0_gapsWithout_125 ?_
          refine lv_iload hx hb dX0_gapsWithout_126 (lv_at hl 0 rfl) ?_
          refine g_lald hC hP hg0 (vp_in_nI (by omega) (by decide)) dX0_gapsWithout_128 ?_
          refine g_topl (y := J (k + 5) 3) rfl ?_
          refine lv_aload_n hx hb dX0_gapsWithout_129 rfl (lv_at hl 3 rfl) ?_
          refine lv_iconst (v := nI 1) hx hb dX0_gapsWithout_130 (by decide) ?_
          refine lv_iconst (v := nI 2) hx hb dX0_gapsWithout_131 (by decide) ?_
          refine lv_iload_n hx hb dX0_gapsWithout_132 rfl (lv_at hl 2 rfl) ?_
          refine lv_iload hx hb dX0_gapsWithout_133 (lv_at hl 1 rfl) ?_
          refine g_cp (g_rV (As := [.int (nI 1), .int (nI 2), .int (nI 0), .int (nI 1)]) hC hP (c_X0_twoLines l hP (k := k) (x := 1) (y := 2) (a := 0) (d := 1) (by first | assumption | omega) (by first | assumption | omega) (by first | assumption | omega) (by first | assumption | omega) (by first | assumption | omega)) hco.1 rfl ⟨q2_122, q2_119, q2_121, qs_15, q1_3⟩ dd_X0_twoLines ⟨Nat.le_of_ble_eq_true rfl, Nat.le_of_ble_eq_true rfl, rfl, rfl⟩ hl.1 rfl (Nat.le_of_ble_eq_true rfl) dX0_gapsWithout_135 ⟨Nat.le_of_ble_eq_true rfl, Nat.le_of_ble_eq_true rfl⟩) ?_
          refine W.eq (g2 := F0 m 138 ls [.long (det2 (fun q => J (k + 5 + q)) 1 2 0 1), .long (J (k + 5) 3), .long (((J (k + 5) 0) * (det2 (fun q => J (k + 5 + q)) 1 2 1 3)) - ((J (k + 5) 1) * (det2 (fun q => J (k + 5 + q)) 1 2 0 3)))]) rfl ?_
          refine lv_lmul hx hb dX0_gapsWithout_138 ?_
          refine lv_ladd hx hb dX0_gapsWithout_139 ?_
          refine g_retl hC hs ?_ dX0_gapsWithout_140
          first | subst hsw | obtain rfl : ln = 3 := by omega
          simp only [detS, ea, eb, ec]
          try rfl
      · have c24 := mt (nI_leI (by omega) (by omega)).mpr c24
        have ec : detC pl = 2 := if_pos (by omega)
        refine lv_iconst (v := nI 2) hx hb dX0_gapsWithout_27 (by decide) ?_
        refine lv_goto (tgt := 32) hx hb dX0_gapsWithout_28 (by decide) ?_
        refine lv_istore (lv' := [(5, .int (nI 2)), (4, .int (nI 1)), (3, .int (nI 0)), (0, .ref k), (1, .int (nI pl)), (2, .int (nI ln))]) hx hb dX0_gapsWithout_32 hl (by decide) rfl (fun ls hl => ?_)
        refine lv_iload_n hx hb dX0_gapsWithout_34 rfl (lv_at hl 5 rfl) ?_
        rcases (show ln = 0 ∨ ln = 1 ∨ ln = 2 ∨ 2 < ln by omega) with hsw | hsw | hsw | hsw
        · refine lv_tableIn (tgt := 60) (off := 25) hx hb dX0_gapsWithout_35 (by rw [hsw]; decide) (by rw [hsw]; decide) (by rw [hsw]; decide) (by decide) ?_
          refine lv_lconst (v := 1) hx hb dX0_gapsWithout_60 (by decide) ?_
          refine g_retl hC hs ?_ dX0_gapsWithout_61
          first | subst hsw | obtain rfl : ln = 3 := by omega
          simp only [detS, ea, eb, ec]
          try rfl
        · refine lv_tableIn (tgt := 62) (off := 27) hx hb dX0_gapsWithout_35 (by rw [hsw]; decide) (by rw [hsw]; decide) (by rw [hsw]; decide) (by decide) ?_
          refine lv_aload_n hx hb dX0_gapsWithout_62 rfl (lv_at hl 3 rfl) ?_
          refine g_get hC hP hco.1 rfl inX0 3 (by decide) q1_65 hco.2.2.1 dX0_gapsWithout_63 ?_
          refine lv_iconst (v := nI 0) hx hb dX0_gapsWithout_66 (by decide) ?_
          refine g_aaldG hC hP hco.2.2.2.2.1 (vp_in_nI (by omega) (by decide)) (v := .ref (k + 5)) (by first | exact e0 | exact coG_q hco (j := 0) (by omega)) dX0_gapsWithout_67 ?_
          refine lv_iload_n hx hb dX0_gapsWithout_68 rfl (lv_at hl 2 rfl) ?_
          refine g_lald hC hP hg0 (vp_in_nI (by omega) (by decide)) dX0_gapsWithout_69 ?_
          refine g_topl (y := J (k + 5) 0) rfl ?_
          refine g_retl hC hs ?_ dX0_gapsWithout_70
          first | subst hsw | obtain rfl : ln = 3 := by omega
          simp only [detS, ea, eb, ec]
          try rfl
        · refine lv_tableIn (tgt := 71) (off := 36) hx hb dX0_gapsWithout_35 (by rw [hsw]; decide) (by rw [hsw]; decide) (by rw [hsw]; decide) (by decide) ?_
          refine lv_aload_n hx hb dX0_gapsWithout_71 rfl (lv_at hl 3 rfl) ?_
          refine lv_iconst (v := nI 0) hx hb dX0_gapsWithout_72 (by decide) ?_
          refine lv_iconst (v := nI 1) hx hb dX0_gapsWithout_73 (by decide) ?_
          refine lv_iload_n hx hb dX0_gapsWithout_74 rfl (lv_at hl 2 rfl) ?_
          refine lv_iload hx hb dX0_gapsWithout_75 (lv_at hl 1 rfl) ?_
          refine g_cp (g_rV (As := [.int (nI 0), .int (nI 1), .int (nI 0), .int (nI 1)]) hC hP (c_X0_twoLines l hP (k := k) (x := 0) (y := 1) (a := 0) (d := 1) (by first | assumption | omega) (by first | assumption | omega) (by first | assumption | omega) (by first | assumption | omega) (by first | assumption | omega)) hco.1 rfl ⟨q2_122, q2_119, q2_121, qs_15, q1_3⟩ dd_X0_twoLines ⟨Nat.le_of_ble_eq_true rfl, Nat.le_of_ble_eq_true rfl, rfl, rfl⟩ hl.1 rfl (Nat.le_of_ble_eq_true rfl) dX0_gapsWithout_77 ⟨Nat.le_of_ble_eq_true rfl, Nat.le_of_ble_eq_true rfl⟩) ?_
          refine W.eq (g2 := F0 m 80 ls [.long (det2 (fun q => J (k + 5 + q)) 0 1 0 1)]) rfl ?_
          refine g_retl hC hs ?_ dX0_gapsWithout_80
          first | subst hsw | obtain rfl : ln = 3 := by omega
          simp only [detS, ea, eb, ec]
          try rfl
        · refine lv_tableOut (tgt := 81) hx hb dX0_gapsWithout_35 (Or.inr (by rw [nI_toInt (by omega)]; omega)) (by decide) ?_
          refine lv_aload_n hx hb dX0_gapsWithout_81 rfl (lv_at hl 3 rfl) ?_
          refine g_get hC hP hco.1 rfl inX0 3 (by decide) q1_65 hco.2.2.1 dX0_gapsWithout_82 ?_
          refine lv_iconst (v := nI 0) hx hb dX0_gapsWithout_85 (by decide) ?_
          refine g_aaldG hC hP hco.2.2.2.2.1 (vp_in_nI (by omega) (by decide)) (v := .ref (k + 5)) (by first | exact e0 | exact coG_q hco (j := 0) (by omega)) dX0_gapsWithout_86 ?_
          refine lv_iload_n hx hb dX0_gapsWithout_87 rfl (lv_at hl 2 rfl) ?_
          refine g_lald hC hP hg0 (vp_in_nI (by omega) (by decide)) dX0_gapsWithout_88 ?_
          refine g_topl (y := J (k + 5) 0) rfl ?_
          refine lv_aload_n hx hb dX0_gapsWithout_89 rfl (lv_at hl 3 rfl) ?_
          refine lv_iconst (v := nI 1) hx hb dX0_gapsWithout_90 (by decide) ?_
          refine lv_iconst (v := nI 2) hx hb dX0_gapsWithout_91 (by decide) ?_
          refine lv_iload hx hb dX0_gapsWithout_92 (lv_at hl 1 rfl) ?_
          refine lv_iload hx hb dX0_gapsWithout_94 (lv_at hl 0 rfl) ?_
          refine g_cp (g_rV (As := [.int (nI 1), .int (nI 2), .int (nI 1), .int (nI 2)]) hC hP (c_X0_twoLines l hP (k := k) (x := 1) (y := 2) (a := 1) (d := 2) (by first | assumption | omega) (by first | assumption | omega) (by first | assumption | omega) (by first | assumption | omega) (by first | assumption | omega)) hco.1 rfl ⟨q2_122, q2_119, q2_121, qs_15, q1_3⟩ dd_X0_twoLines ⟨Nat.le_of_ble_eq_true rfl, Nat.le_of_ble_eq_true rfl, rfl, rfl⟩ hl.1 rfl (Nat.le_of_ble_eq_true rfl) dX0_gapsWithout_96 ⟨Nat.le_of_ble_eq_true rfl, Nat.le_of_ble_eq_true rfl⟩) ?_
          refine W.eq (g2 := F0 m 99 ls [.long (det2 (fun q => J (k + 5 + q)) 1 2 1 2), .long (J (k + 5) 0)]) rfl ?_
          refine lv_lmul hx hb dX0_gapsWithout_99 ?_
          refine lv_aload_n hx hb dX0_gapsWithout_100 rfl (lv_at hl 3 rfl) ?_
          refine g_get hC hP hco.1 rfl inX0 3 (by decide) q1_65 hco.2.2.1 dX0_gapsWithout_101 ?_
          refine lv_iconst (v := nI 0) hx hb dX0_gapsWithout_104 (by decide) ?_
          refine g_aaldG hC hP hco.2.2.2.2.1 (vp_in_nI (by omega) (by decide)) (v := .ref (k + 5)) (by first | exact e0 | exact coG_q hco (j := 0) (by omega)) dX0_gapsWithout_105 ?_
          refine lv_iload hx hb dX0_gapsWithout_106 (lv_at hl 1 rfl) ?_
          refine g_lald hC hP hg0 (vp_in_nI (by omega) (by decide)) dX0_gapsWithout_108 ?_
          refine g_topl (y := J (k + 5) 1) rfl ?_
          refine lv_aload_n hx hb dX0_gapsWithout_109 rfl (lv_at hl 3 rfl) ?_
          refine lv_iconst (v := nI 1) hx hb dX0_gapsWithout_110 (by decide) ?_
          refine lv_iconst (v := nI 2) hx hb dX0_gapsWithout_111 (by decide) ?_
          refine lv_iload_n hx hb dX0_gapsWithout_112 rfl (lv_at hl 2 rfl) ?_
          refine lv_iload hx hb dX0_gapsWithout_113 (lv_at hl 0 rfl) ?_
          refine g_cp (g_rV (As := [.int (nI 1), .int (nI 2), .int (nI 0), .int (nI 2)]) hC hP (c_X0_twoLines l hP (k := k) (x := 1) (y := 2) (a := 0) (d := 2) (by first | assumption | omega) (by first | assumption | omega) (by first | assumption | omega) (by first | assumption | omega) (by first | assumption | omega)) hco.1 rfl ⟨q2_122, q2_119, q2_121, qs_15, q1_3⟩ dd_X0_twoLines ⟨Nat.le_of_ble_eq_true rfl, Nat.le_of_ble_eq_true rfl, rfl, rfl⟩ hl.1 rfl (Nat.le_of_ble_eq_true rfl) dX0_gapsWithout_115 ⟨Nat.le_of_ble_eq_true rfl, Nat.le_of_ble_eq_true rfl⟩) ?_
          refine W.eq (g2 := F0 m 118 ls [.long (det2 (fun q => J (k + 5 + q)) 1 2 0 2), .long (J (k + 5) 1), .long ((J (k + 5) 0) * (det2 (fun q => J (k + 5 + q)) 1 2 1 2))]) rfl ?_
          refine lv_lmul hx hb dX0_gapsWithout_118 ?_
          refine lv_lsub hx hb dX0_gapsWithout_119 ?_
          refine lv_aload_n hx hb dX0_gapsWithout_120 rfl (lv_at hl 3 rfl) ?_
          refine g_get hC hP hco.1 rfl inX0 3 (by decide) q1_65 hco.2.2.1 dX0_gapsWithout_121 ?_
          refine lv_iconst (v := nI 0) hx hb dX0_gapsWithout_124 (by decide) ?_
          refine g_aaldG hC hP hco.2.2.2.2.1 (vp_in_nI (by omega) (by decide)) (v := .ref (k + 5)) (by first | exact e0 | exact coG_q hco (j := 0) (by omega)) dX0_gapsWithout_125 ?_
          refine lv_iload hx hb dX0_gapsWithout_126 (lv_at hl 0 rfl) ?_
          refine g_lald hC hP hg0 (vp_in_nI (by omega) (by decide)) dX0_gapsWithout_128 ?_
          refine g_topl (y := J (k + 5) 2) rfl ?_
          refine lv_aload_n hx hb dX0_gapsWithout_129 rfl (lv_at hl 3 rfl) ?_
          refine lv_iconst (v := nI 1) hx hb dX0_gapsWithout_130 (by decide) ?_
          refine lv_iconst (v := nI 2) hx hb dX0_gapsWithout_131 (by decide) ?_
          refine lv_iload_n hx hb dX0_gapsWithout_132 rfl (lv_at hl 2 rfl) ?_
          refine lv_iload hx hb dX0_gapsWithout_133 (lv_at hl 1 rfl) ?_
          refine g_cp (g_rV (As := [.int (nI 1), .int (nI 2), .int (nI 0), .int (nI 1)]) hC hP (c_X0_twoLines l hP (k := k) (x := 1) (y := 2) (a := 0) (d := 1) (by first | assumption | omega) (by first | assumption | omega) (by first | assumption | omega) (by first | assumption | omega) (by first | assumption | omega)) hco.1 rfl ⟨q2_122, q2_119, q2_121, qs_15, q1_3⟩ dd_X0_twoLines ⟨Nat.le_of_ble_eq_true rfl, Nat.le_of_ble_eq_true rfl, rfl, rfl⟩ hl.1 rfl (Nat.le_of_ble_eq_true rfl) dX0_gapsWithout_135 ⟨Nat.le_of_ble_eq_true rfl, Nat.le_of_ble_eq_true rfl⟩) ?_
          refine W.eq (g2 := F0 m 138 ls [.long (det2 (fun q => J (k + 5 + q)) 1 2 0 1), .long (J (k + 5) 2), .long (((J (k + 5) 0) * (det2 (fun q => J (k + 5 + q)) 1 2 1 2)) - ((J (k + 5) 1) * (det2 (fun q => J (k + 5 + q)) 1 2 0 2)))]) rfl ?_
          refine lv_lmul hx hb dX0_gapsWithout_138 ?_
          refine lv_ladd hx hb dX0_gapsWithout_139 ?_
          refine g_retl hC hs ?_ dX0_gapsWithout_140
          first | subst hsw | obtain rfl : ln = 3 := by omega
          simp only [detS, ea, eb, ec]
          try rfl
set_option maxHeartbeats 4000000 in
set_option maxRecDepth 100000 in
theorem c_X3_meanPart (l : Launch) {G : gG} {T : gTy} {I : gI} {J : gJ} {Q : gR} {O : gO} {H : Heap} (hP : gP G T I J Q O H) {b ch x y u n u2 n2 : Nat} {t t2 : Int64} {q : Int32} (hpl : isPl T O b ch) (hmx : isMx T O x) (hmv : mxV O x t u n) (hmy : isMx T O y) (hmw : mxV O y t2 u2 n2) : Met l yX3_meanPart (gw yX3_meanPart cX3_meanPart 7 (some (.long))) ({ frames := 2, cells := 0, slots := 0, locals := 56 } : Room) (gPc G H [.ref b, .ref x, .ref y, .int q]) (gQp (some (.long (lowS (msum (I (b + 9)) (J (x + 1)) (J (y + 1)) ch) (t * t2) q)))) 0 0 (fun _ => False) := by
  refine g_met [(0, .ref b), (1, .ref x), (2, .ref y), (3, .int q)] (by decide) rfl (by exact Nat.le_of_ble_eq_true rfl) ?_
  intro p e s m below meth c hC hs ls hl
  have hx := hC.1.1
  have hb := hC.1.2.1
  have hpl_lo := hpl.2.2.2.2.2.2.2.2.1
  have hpl_hi := hpl.2.2.2.2.2.2.2.2.2
  refine lv_lconst (v := 0) hx hb dX3_meanPart_0 (by decide) ?_
  refine lv_lstore (lv' := [(4, .long (0 : Int64)), (0, .ref b), (1, .ref x), (2, .ref y), (3, .int q)]) hx hb dX3_meanPart_1 hl (by decide) rfl (fun ls hl => ?_)
  refine lv_iconst (v := nI 0) hx hb dX3_meanPart_3 (by decide) ?_
  refine lv_istore (lv' := [(6, .int (nI 0)), (4, .long (0 : Int64)), (0, .ref b), (1, .ref x), (2, .ref y), (3, .int q)]) hx hb dX3_meanPart_4 hl (by decide) rfl (fun ls hl => ?_)
  have L6 : ∀ (n6 : Nat) (i : Nat) (v : Int64), 5 ≤ n6 + i → (i ≤ ch) → (v = msum (I (b + 9)) (J (x + 1)) (J (y + 1)) i) → ∀ ls : Array Slot, lv_has ls 7 [(0, .ref b), (1, .ref x), (2, .ref y), (3, .int q), (4, .long v), (6, .int (nI i))] → W p l e ({ frames := 2, cells := 0, slots := 0, locals := 56 } : Room) s m [.ref b, .ref x, .ref y, .int q].toArray below meth c H [] 0 0 (MQ below (gQp (some (.long (lowS (msum (I (b + 9)) (J (x + 1)) (J (y + 1)) ch) (t * t2) q)))) [.ref b, .ref x, .ref y, .int q].toArray s 0 0 (fun _ => False)) (F0 m 6 ls []) := by
    intro n6
    induction n6 with
    | zero => intro i v hn6 hi h1; exact absurd hn6 (by omega)
    | succ n6 ih6 =>
      intro i v hn6 hi h1 ls hl
      refine lv_iload hx hb dX3_meanPart_6 (lv_at hl 5 rfl) ?_
      refine lv_aload_n hx hb dX3_meanPart_8 rfl (lv_at hl 0 rfl) ?_
      refine g_get hC hP hpl.1 rfl inX3 0 (by decide) q1_77 hpl.2.1 dX3_meanPart_9 ?_
      refine lv_icmp_ge (tgt := 41) hx hb dX3_meanPart_12 (by decide) (fun c12 => ?_) (fun c12 => ?_)
      · have c12 := (nI_leI (by omega) (by omega)).mp c12
        refine lv_lload hx hb dX3_meanPart_41 (lv_at hl 4 rfl) ?_
        refine lv_aload_n hx hb dX3_meanPart_43 rfl (lv_at hl 1 rfl) ?_
        refine g_get hC hP hmx.1 rfl inX2 1 (by decide) q1_41 hmv.1 dX3_meanPart_44 ?_
        refine lv_aload_n hx hb dX3_meanPart_47 rfl (lv_at hl 2 rfl) ?_
        refine g_get hC hP hmy.1 rfl inX2 1 (by decide) q1_41 hmw.1 dX3_meanPart_48 ?_
        refine lv_lmul hx hb dX3_meanPart_51 ?_
        refine lv_iload_n hx hb dX3_meanPart_52 rfl (lv_at hl 3 rfl) ?_
        refine g_cp (g_rSN (As := [.long v, .long (t * t2), .int q]) hC (c_X4_lowest l (a := v) (d := t * t2) (q := q)) ⟨q1_223, List.mem_of_getElem? (i := 5) rfl, q1_222, q1_1⟩ dd_X4_lowest ⟨Nat.le_of_ble_eq_true rfl, Nat.le_of_ble_eq_true rfl, rfl, rfl⟩ hl.1 rfl (Nat.le_of_ble_eq_true rfl) dX3_meanPart_53 ⟨Nat.le_of_ble_eq_true rfl, Nat.le_of_ble_eq_true rfl⟩) ?_
        refine W.eq (g2 := F0 m 56 ls [.long (lowS v (t * t2) q)]) rfl ?_
        refine g_retl hC hs ?_ dX3_meanPart_56
        rw [h1, show i = ch from by omega]
      · have c12 := mt (nI_leI (by omega) (by omega)).mpr c12
        refine lv_lload hx hb dX3_meanPart_15 (lv_at hl 4 rfl) ?_
        refine lv_aload_n hx hb dX3_meanPart_17 rfl (lv_at hl 1 rfl) ?_
        refine g_get hC hP hmx.1 rfl inX2 0 (by decide) q1_37 hmx.2.1 dX3_meanPart_18 ?_
        refine lv_iload hx hb dX3_meanPart_21 (lv_at hl 5 rfl) ?_
        refine g_lald hC hP hmx.2.2 (vp_in_nI (by omega) (by decide)) dX3_meanPart_23 ?_
        refine g_topl (y := J (x + 1) i) (congrArg (J (x + 1)) (nI_clamp (by omega))) ?_
        refine lv_aload_n hx hb dX3_meanPart_24 rfl (lv_at hl 0 rfl) ?_
        refine lv_iload hx hb dX3_meanPart_25 (lv_at hl 5 rfl) ?_
        refine lv_aload_n hx hb dX3_meanPart_27 rfl (lv_at hl 2 rfl) ?_
        refine g_cp (g_rV (As := [.int (nI i), .ref y]) hC hP (c_X3_worthOf l hP (b := b) (ch := ch) (own := i) (x := y) (by first | assumption | omega) hmy (by first | assumption | omega)) hpl.1 rfl ⟨q1_215, q1_212, q1_214, qs_6, q1_2⟩ dd_X3_worthOf ⟨Nat.le_of_ble_eq_true rfl, Nat.le_of_ble_eq_true rfl, rfl, rfl⟩ hl.1 rfl (Nat.le_of_ble_eq_true rfl) dX3_meanPart_28 ⟨Nat.le_of_ble_eq_true rfl, Nat.le_of_ble_eq_true rfl⟩) ?_
        refine W.eq (g2 := F0 m 31 ls [.long (wsum (I (b + 9)) (J (y + 1)) i 4), .long (J (x + 1) i), .long v]) rfl ?_
        refine lv_lmul hx hb dX3_meanPart_31 ?_
        refine lv_ladd hx hb dX3_meanPart_32 ?_
        refine lv_lstore (lv' := [(4, .long (v + ((J (x + 1) i) * (wsum (I (b + 9)) (J (y + 1)) i 4)))), (0, .ref b), (1, .ref x), (2, .ref y), (3, .int q), (6, .int (nI i))]) hx hb dX3_meanPart_33 hl (by decide) rfl (fun ls hl => ?_)
        refine lv_iinc (v := nI (i + 1)) (lv' := [(6, .int (nI (i + 1))), (4, .long (v + ((J (x + 1) i) * (wsum (I (b + 9)) (J (y + 1)) i 4)))), (0, .ref b), (1, .ref x), (2, .ref y), (3, .int q)]) hx hb dX3_meanPart_35 hl (k := 5) rfl (nI_inc _) (by decide) rfl (fun ls hl => ?_)
        refine lv_goto (tgt := 6) hx hb dX3_meanPart_38 (by decide) ?_
        exact ih6 (i + 1) (v + ((J (x + 1) i) * (wsum (I (b + 9)) (J (y + 1)) i 4))) (by omega) (by omega) (by rw [msum, ← h1]) ls (lv_sub hl [2, 3, 4, 5, 1, 0] rfl)
  exact L6 5 0 (0 : Int64) (by omega) (by omega) rfl ls (lv_sub hl [2, 3, 4, 5, 1, 0] rfl)
