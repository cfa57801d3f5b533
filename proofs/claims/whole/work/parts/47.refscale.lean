/-! ===== the reference: scale ===== -/
theorem i32_20 : (-20 : Int32).toInt = -20 ∧ (nI 20).toInt = 20 ∧ (0 : Int32).toInt = 0 ∧ (nI 1).toInt = 1 := by decide
theorem bd_int {x : Int32} (h : ¬ x < -20 ∧ ¬ nI 20 < x) : -20 ≤ x.toInt ∧ x.toInt ≤ 20 := by
  simp only [Int32.lt_iff_toInt_lt, i32_20.1, i32_20.2.1] at h
  omega
/-- how far from 0 -/
theorem abs32 {x : Int32} (h : -20 ≤ x.toInt ∧ x.toInt ≤ 20) : (if 0 ≤ x then x else 0 - x).toInt = if 0 ≤ x.toInt then x.toInt else - x.toInt := by
  have e : (0 ≤ x) ↔ 0 ≤ x.toInt := by rw [Int32.le_iff_toInt_le, i32_20.2.2.1]
  by_cases c : 0 ≤ x.toInt
  · rw [if_pos (e.mpr c), if_pos c]
  · rw [if_neg (mt e.mp c), if_neg c, Int32.toInt_sub, i32_20.2.2.1]
    rw [Int.bmod_eq_of_le (by omega) (by omega)]
    omega
theorem far_k {P : Nat → Int32} (hb : bdP P) : ∀ k, k ≤ 16 → (0 ≤ (farL P k).toInt ∧ (farL P k).toInt ≤ 20) ∧ (∀ j, j < k → (P j).toInt ≤ (farL P k).toInt ∧ -(P j).toInt ≤ (farL P k).toInt) ∧ ((farL P k).toInt = 0 ∨ ∃ j, j < k ∧ ((farL P k).toInt = (P j).toInt ∨ (farL P k).toInt = -(P j).toInt))
  | 0, _ => by
    show (0 ≤ (0 : Int32).toInt ∧ (0 : Int32).toInt ≤ 20) ∧ _
    exact ⟨by decide, fun j hj => absurd hj (Nat.not_lt_zero j), Or.inl rfl⟩
  | k + 1, hk => by
    obtain ⟨h1, h2, h3⟩ := far_k hb k (by omega)
    have b := bd_int (hb k (by omega))
    have a := abs32 b
    generalize hx : (if 0 ≤ P k then P k else 0 - P k) = x at a
    have e0 : farL P (k + 1) = if farL P k < x then x else farL P k := by rw [← hx]; rfl
    rw [e0]
    have c : (farL P k < x) ↔ (farL P k).toInt < x.toInt := Int32.lt_iff_toInt_lt
    by_cases e : farL P k < x
    · rw [if_pos e]
      have e' := c.mp e
      refine ⟨by split at a <;> omega, fun j hj => ?_, Or.inr ⟨k, by omega, by split at a <;> omega⟩⟩
      rcases Nat.lt_succ_iff_lt_or_eq.mp hj with h | rfl
      · have := h2 j h
        omega
      · split at a <;> omega
    · rw [if_neg e]
      have e' := mt c.mpr e
      refine ⟨h1, fun j hj => ?_, ?_⟩
      · rcases Nat.lt_succ_iff_lt_or_eq.mp hj with h | rfl
        · exact h2 j h
        · split at a <;> omega
      · rcases h3 with h | ⟨j, hj, h⟩
        · exact Or.inl h
        · exact Or.inr ⟨j, by omega, h⟩
theorem mul64 {x v : Int32} (h : -20 ≤ x.toInt ∧ x.toInt ≤ 20) : (x.toInt64 * v.toInt64).toInt = x.toInt * v.toInt := by
  have a3 := Int32.toInt_lt v
  have a4 := Int32.le_toInt v
  rw [Int64.toInt_mul, Int32.toInt_toInt64, Int32.toInt_toInt64]
  generalize x.toInt = a at *
  generalize v.toInt = b at *
  have h1 : a * b ≤ 20 * 2147483648 := by
    rcases Int.le_total 0 a with p | p <;> rcases Int.le_total 0 b with q | q
    · exact Int.mul_le_mul h.2 (by omega) q (by omega)
    · exact Int.le_trans (Int.mul_nonpos_of_nonneg_of_nonpos p q) (by omega)
    · exact Int.le_trans (Int.mul_nonpos_of_nonpos_of_nonneg p q) (by omega)
    · rw [← Int.neg_mul_neg]; exact Int.mul_le_mul (by omega) (by omega) (by omega) (by omega)
  have h2 : -(a * b) ≤ 20 * 2147483648 := by
    rcases Int.le_total 0 a with p | p <;> rcases Int.le_total 0 b with q | q
    · have := Int.mul_nonneg p q
      omega
    · rw [← Int.mul_neg]; exact Int.mul_le_mul h.2 (by omega) (by omega) (by omega)
    · rw [← Int.neg_mul]; exact Int.mul_le_mul (by omega) (by omega) (by omega) (by omega)
    · have := Int.mul_nonneg_of_nonpos_of_nonpos p q
      omega
  exact Int.bmod_eq_of_le (by omega) (by omega)
theorem sc_in {x v : Int32} (h : -20 ≤ x.toInt ∧ x.toInt ≤ 20) : inL (x.toInt64 * v.toInt64) (-20) 20 = true ↔ (-20 ≤ x.toInt * v.toInt ∧ x.toInt * v.toInt ≤ 20) := by
  unfold inL
  simp only [Bool.and_eq_true, decide_eq_true_eq, Int64.le_iff_toInt_le, mul64 h, i64_20.1, i64_20.2.1]
theorem sc_far {P : Nat → Int32} {v : Int32} (hb : bdP P) (hv : nI 1 ≤ v) : (20 < (farL P 16).toInt64 * v.toInt64) ↔ ¬ ∀ j, j < 16 → inL ((P j).toInt64 * v.toInt64) (-20) 20 = true := by
  obtain ⟨h1, h2, h3⟩ := far_k hb 16 (Nat.le_refl _)
  have hv' : 1 ≤ v.toInt := by rw [Int32.le_iff_toInt_le, i32_20.2.2.2] at hv; exact hv
  rw [Int64.lt_iff_toInt_lt, mul64 (by omega), i64_20.2.1]
  generalize farL P 16 = F at *
  constructor
  · intro h k
    rcases h3 with e | ⟨j, hj, e⟩
    · rw [e, Int.zero_mul] at h
      omega
    · have := (sc_in (bd_int (hb j hj))).mp (k j hj)
      rcases e with e | e
      · rw [e] at h; omega
      · rw [e, Int.neg_mul] at h; omega
  · intro h
    refine Int.not_le.mp (fun c => h (fun j hj => ?_))
    have q := h2 j hj
    refine (sc_in (bd_int (hb j hj))).mpr ?_
    have u1 := Int.mul_le_mul_of_nonneg_right q.1 (by omega : 0 ≤ v.toInt)
    have u2 := Int.mul_le_mul_of_nonneg_right q.2 (by omega : 0 ≤ v.toInt)
    rw [Int.neg_mul] at u2
    omega
def muR (X : Nat → Int32) (lo : Nat) (v : Int32) (z : Nat) : Nat → Int32 := fun j => if lo ≤ j ∧ j < z then X j * v else X j
theorem muR_0 (X : Nat → Int32) (lo : Nat) (v : Int32) : muR X lo v lo = X := by
  funext j
  unfold muR
  rw [if_neg (by omega)]
theorem muR_s {X : Nat → Int32} {lo z : Nat} {v : Int32} (h : lo ≤ z) : gu (muR X lo v z) z (muR X lo v z z * v) = muR X lo v (z + 1) := by
  funext j
  unfold gu
  split
  · rename_i h
    subst h
    unfold muR
    rw [if_neg (by omega), if_pos (by omega)]
  · unfold muR
    by_cases h : lo ≤ j ∧ j < z
    · rw [if_pos h, if_pos (by omega)]
    · rw [if_neg h, if_neg (by omega)]
theorem mo_row0 {I : gI} {h : Nat} {st : GS} (hs : moS I h st) : ∀ j, j < 16 → I (h + 2) j = gsP0 st j := fun j hj => by
  have := hs.2.2.2.2.1 (j / 4) (j % 4) (by omega) (by omega)
  rw [show 4 * (j / 4) + j % 4 = j from by omega, show j / 4 * 4 + j % 4 = j from by omega] at this
  exact this
theorem mo_row1 {I : gI} {h : Nat} {st : GS} (hs : moS I h st) : ∀ j, j < 16 → I (h + 2) (16 + j) = gsP1 st (j % 4 * 4 + j / 4) := fun j hj => by
  have := hs.2.2.2.2.2.1 (j / 4) (j % 4) (by omega) (by omega)
  rw [show 16 + 4 * (j / 4) + j % 4 = 16 + j from by omega] at this
  exact this
theorem sc_all0 {I : gI} {h : Nat} {st : GS} {v : Int32} (hs : moS I h st) : (∀ j, j < 16 → inL ((gsP0 st j).toInt64 * v.toInt64) (-20) 20 = true) ↔ ∀ j, 16 * 0 ≤ j → j < 16 * 0 + 16 → inL ((I (h + 2) j).toInt64 * v.toInt64) (-20) 20 = true := by
  constructor
  · intro k j h1 h2
    rw [mo_row0 hs j (by omega)]
    exact k j (by omega)
  · intro k j hj
    rw [← mo_row0 hs j hj]
    exact k j (by omega) (by omega)
theorem sc_all1 {I : gI} {h : Nat} {st : GS} {v : Int32} (hs : moS I h st) : (∀ j, j < 16 → inL ((gsP1 st j).toInt64 * v.toInt64) (-20) 20 = true) ↔ ∀ j, 16 * 1 ≤ j → j < 16 * 1 + 16 → inL ((I (h + 2) j).toInt64 * v.toInt64) (-20) 20 = true := by
  constructor
  · intro k j h1 h2
    have := mo_row1 hs (j - 16) (by omega)
    rw [show 16 + (j - 16) = j from by omega] at this
    rw [this]
    exact k _ (by omega)
  · intro k j hj
    have := mo_row1 hs (j % 4 * 4 + j / 4) (by omega)
    rw [show (j % 4 * 4 + j / 4) % 4 * 4 + (j % 4 * 4 + j / 4) / 4 = j from by omega] at this
    rw [← this]
    exact k _ (by omega) (by omega)
theorem mo_scale0 {G : gG} {T : gTy} {I I2 : gI} {J : gJ} {Q : gR} {O : gO} {H1 : Heap} {h : Nat} {v : Int32} {st : GS} (hm : isMo T O h) (hs : moS I h st) (hI : I2 = gu I (h + 2) (muR (I (h + 2)) (16 * 0) v (16 * 0 + 16))) (hP : gP G T I2 J Q O H1) : moR G T h (gsSetP st (mulA (gsP0 st) 16 v) (gsP1 st)) H1 := by
  have a5 := hs.2.2.2.2.1
  have a6 := hs.2.2.2.2.2.1
  refine mo_P hm hs hI (fun i k hi hk => ?_) (fun i k hi hk => ?_) hP
  · unfold muR mulA
    rw [a5 i k hi hk, if_pos (by omega), if_pos (by omega)]
  · unfold muR
    rw [if_neg (by omega)]
    exact a6 i k hi hk
theorem mo_scale1 {G : gG} {T : gTy} {I I2 : gI} {J : gJ} {Q : gR} {O : gO} {H1 : Heap} {h : Nat} {v : Int32} {st : GS} (hm : isMo T O h) (hs : moS I h st) (hI : I2 = gu I (h + 2) (muR (I (h + 2)) (16 * 1) v (16 * 1 + 16))) (hP : gP G T I2 J Q O H1) : moR G T h (gsSetP st (gsP0 st) (mulA (gsP1 st) 16 v)) H1 := by
  have a5 := hs.2.2.2.2.1
  have a6 := hs.2.2.2.2.2.1
  refine mo_P hm hs hI (fun i k hi hk => ?_) (fun i k hi hk => ?_) hP
  · unfold muR
    rw [if_neg (by omega)]
    exact a5 i k hi hk
  · unfold muR mulA
    rw [a6 i k hi hk, if_pos (by omega), if_pos (by omega)]
set_option maxHeartbeats 4000000 in
set_option maxRecDepth 100000 in
theorem c_X5_scale (l : Launch) {G : gG} {T : gTy} {I : gI} {J : gJ} {Q : gR} {O : gO} {H : Heap} (hP : gP G T I J Q O H) {h : Nat} {st : GS} {q v : Int32} (hm : isMo T O h) (hs0 : moS I h st) (hbd0 : bdP (gsP0 st)) (hbd1 : bdP (gsP1 st)) : Met l yX5_scale (gw yX5_scale cX5_scale 4 (some (.int))) ({ frames := 1, cells := 0, slots := 0, locals := 25 } : Room) (gPc G H [.ref h, .int q, .int v]) (gQc (gF T H) (fun x H1 => rScale st (fun x1 s1 => x = some (.int x1) ∧ moR G T h s1 H1) q v)) 0 0 (gF T H) := by
  refine g_met [(0, .ref h), (1, .int q), (2, .int v)] (by decide) rfl (by exact Nat.le_of_ble_eq_true rfl) ?_
  intro p e s m below meth c hC hs ls hl
  have hx := hC.1.1
  have hb := hC.1.2.1
  have hS : va_S (gF T H) s.heap H [] := hs ▸ va_S.rf
  have hTA : ∀ q, (T q).1 ≠ 0 → gF T H q := fun q h => Or.inl h
  have hA : ∀ q, s.heap.size ≤ q → gF T H q := fun q h => Or.inr (hs ▸ h)
  generalize hAe : gF T H = A at hS hTA hA ⊢
  have hms := hs0.1
  have hns := hs0.2.1
  refine lv_iload_n hx hb dX5_scale_0 rfl (lv_at hl 1 rfl) ?_
  refine g_cp (g_rS (As := [.int q]) hC (c_X5_isWho l (q := q)) ⟨q3_78, q3_76, q3_77, q1_6⟩ dd_X5_isWho ⟨Nat.le_of_ble_eq_true rfl, Nat.le_of_ble_eq_true rfl, rfl, rfl⟩ hl.1 rfl (Nat.le_of_ble_eq_true rfl) dX5_scale_1 ⟨Nat.le_of_ble_eq_true rfl, Nat.le_of_ble_eq_true rfl⟩) ?_
  refine W.eq (g2 := F0 m 4 ls [.int (gb (isW q))]) rfl ?_
  refine lv_if_ne (tgt := 13) hx hb dX5_scale_4 (by decide) (fun c4 => ?_) (fun c4 => ?_)
  · have c4 := gb_t c4
    refine lv_iload_n hx hb dX5_scale_13 rfl (lv_at hl 2 rfl) ?_
    refine lv_iconst (v := nI 1) hx hb dX5_scale_14 (by decide) ?_
    refine lv_icmp_ge (tgt := 25) hx hb dX5_scale_15 (by decide) (fun c15 => ?_) (fun c15 => ?_)
    · rcases isW_c c4 with rfl | rfl
      · refine lv_bipush (v := nI 16) hx hb dX5_scale_25 (by decide) ?_
        refine lv_iload_n hx hb dX5_scale_27 rfl (lv_at hl 1 rfl) ?_
        refine lv_imul hx hb dX5_scale_28 ?_
        refine g_topi (y := nI (16 * 0)) (nI_mul _ _) ?_
        refine lv_istore_n (lv' := [(3, .int (nI (16 * 0))), (0, .ref h), (1, .int (nI 0)), (2, .int v)]) hx hb dX5_scale_29 rfl hl (by decide) rfl (fun ls hl => ?_)
        have L30 : ∀ (n30 : Nat) (z : Nat), 40 ≤ n30 + z → (16 * 0 ≤ z ∧ z ≤ 16 * 0 + 16) → (∀ j, 16 * 0 ≤ j → j < z → inL ((I (h + 2) j).toInt64 * v.toInt64) (-20) 20 = true) → ∀ (Hl : Heap) (lcl : List Loc), gP G T I J Q O Hl → va_S A s.heap Hl lcl → ∀ ls : Array Slot, lv_has ls 4 [(0, .ref h), (1, .int (nI 0)), (2, .int v), (3, .int (nI z))] → W p l e ({ frames := 1, cells := 0, slots := 0, locals := 25 } : Room) s m [.ref h, .int (nI 0), .int v].toArray below meth c Hl lcl 0 0 (MQ below (gQc A (fun x H1 => rScale st (fun x1 s1 => x = some (.int x1) ∧ moR G T h s1 H1) (nI 0) v)) [.ref h, .int (nI 0), .int v].toArray s 0 0 A) (F0 m 30 ls []) := by
          intro n30
          induction n30 with
          | zero => intro z hn30 hz h1; exact absurd hn30 (by omega)
          | succ n30 ih30 =>
            intro z hn30 hz h1 Hl lcl hP hS ls hl
            refine lv_iload_n hx hb dX5_scale_30 rfl (lv_at hl 3 rfl) ?_
            refine lv_bipush (v := nI 16) hx hb dX5_scale_31 (by decide) ?_
            refine lv_iload_n hx hb dX5_scale_33 rfl (lv_at hl 1 rfl) ?_
            refine lv_imul hx hb dX5_scale_34 ?_
            refine g_topi (y := nI (16 * 0)) (nI_mul _ _) ?_
            refine lv_bipush (v := nI 16) hx hb dX5_scale_35 (by decide) ?_
            refine lv_iadd hx hb dX5_scale_37 ?_
            refine g_topi (y := nI (16 * 0 + 16)) (nI_add _ _) ?_
            refine lv_icmp_ge (tgt := 76) hx hb dX5_scale_38 (by decide) (fun c38 => ?_) (fun c38 => ?_)
            · have c38 := (nI_leI (by omega) (by omega)).mp c38
              refine lv_bipush (v := nI 16) hx hb dX5_scale_76 (by decide) ?_
              refine lv_iload_n hx hb dX5_scale_78 rfl (lv_at hl 1 rfl) ?_
              refine lv_imul hx hb dX5_scale_79 ?_
              refine g_topi (y := nI (16 * 0)) (nI_mul _ _) ?_
              refine lv_istore_n (lv' := [(3, .int (nI (16 * 0))), (0, .ref h), (1, .int (nI 0)), (2, .int v)]) hx hb dX5_scale_80 rfl hl (by decide) rfl (fun ls hl => ?_)
              have L81 : ∀ (n81 : Nat) (z2 : Nat) (I9 : gI), 40 ≤ n81 + z2 → (16 * 0 ≤ z2 ∧ z2 ≤ 16 * 0 + 16) → (I9 = gu I (h + 2) (muR (I (h + 2)) (16 * 0) v z2)) → ∀ (Hl : Heap) (lcl : List Loc), gP G T I9 J Q O Hl → va_S A s.heap Hl lcl → ∀ ls : Array Slot, lv_has ls 4 [(0, .ref h), (1, .int (nI 0)), (2, .int v), (3, .int (nI z2))] → W p l e ({ frames := 1, cells := 0, slots := 0, locals := 25 } : Room) s m [.ref h, .int (nI 0), .int v].toArray below meth c Hl lcl 0 0 (MQ below (gQc A (fun x H1 => rScale st (fun x1 s1 => x = some (.int x1) ∧ moR G T h s1 H1) (nI 0) v)) [.ref h, .int (nI 0), .int v].toArray s 0 0 A) (F0 m 81 ls []) := by
                intro n81
                induction n81 with
                | zero => intro z2 I9 hn81 hz2 g1; exact absurd hn81 (by omega)
                | succ n81 ih81 =>
                  intro z2 I9 hn81 hz2 g1 Hl lcl hP hS ls hl
                  refine lv_iload_n hx hb dX5_scale_81 rfl (lv_at hl 3 rfl) ?_
                  refine lv_bipush (v := nI 16) hx hb dX5_scale_82 (by decide) ?_
                  refine lv_iload_n hx hb dX5_scale_84 rfl (lv_at hl 1 rfl) ?_
                  refine lv_imul hx hb dX5_scale_85 ?_
                  refine g_topi (y := nI (16 * 0)) (nI_mul _ _) ?_
                  refine lv_bipush (v := nI 16) hx hb dX5_scale_86 (by decide) ?_
                  refine lv_iadd hx hb dX5_scale_88 ?_
                  refine g_topi (y := nI (16 * 0 + 16)) (nI_add _ _) ?_
                  refine lv_icmp_ge (tgt := 108) hx hb dX5_scale_89 (by decide) (fun c89 => ?_) (fun c89 => ?_)
                  · have c89 := (nI_leI (by omega) (by omega)).mp c89
                    refine lv_iconst (v := nI 1) hx hb dX5_scale_108 (by decide) ?_
                    refine g_retci hC hS ?_ dX5_scale_109
                    exact Or.inr (Or.inr ⟨c15, Or.inl ⟨rfl, Or.inr ⟨fun hh => (sc_far hbd0 c15).mp hh ((sc_all0 hs0).mpr (fun j h1a h2a => h1 j h1a (by omega))), rfl, mo_scale0 hm hs0 (by rw [g1, show z2 = 16 * 0 + 16 from by omega]) hP⟩⟩⟩)
                  · have c89 := mt (nI_leI (by omega) (by omega)).mpr c89
                    refine lv_aload_n hx hb dX5_scale_92 rfl (lv_at hl 0 rfl) ?_
                    refine g_get hC hP hm.1 rfl inX5 1 (by decide) q3_7 hm.2.2.1.1 dX5_scale_93 ?_
                    refine lv_iload_n hx hb dX5_scale_96 rfl (lv_at hl 3 rfl) ?_
                    refine lv_dup2_11 hx hb dX5_scale_97 rfl rfl ?_
                    refine g_iald hC hP hm.2.2.1.2 (vp_in_nI (by omega) (by decide)) dX5_scale_98 ?_
                    refine g_topi (y := I9 (h + 2) z2) (congrArg (I9 (h + 2)) (nI_clamp (by omega))) ?_
                    refine lv_iload_n hx hb dX5_scale_99 rfl (lv_at hl 2 rfl) ?_
                    refine lv_imul hx hb dX5_scale_100 ?_
                    refine g_iast hC hP hS hTA hm.2.2.1.2 (vp_in_nI (by omega) (by decide)) dX5_scale_101 (fun H1 locs2 hP hS hz4 => ?_)
                    rw [show (nI z2).toNatClampNeg = z2 from nI_clamp (by omega)] at hP
                    obtain ⟨I3, hI3, hP⟩ : ∃ X : gI, X = au I9 (h + 2) z2 ((I9 (h + 2) z2) * v) ∧ gP G T X J Q O H1 := ⟨_, rfl, hP⟩
                    refine lv_iinc (v := nI (z2 + 1)) (lv' := [(3, .int (nI (z2 + 1))), (0, .ref h), (1, .int (nI 0)), (2, .int v)]) hx hb dX5_scale_102 hl (k := 3) rfl (nI_inc _) (by decide) rfl (fun ls hl => ?_)
                    refine lv_goto (tgt := 81) hx hb dX5_scale_105 (by decide) ?_
                    exact ih81 (z2 + 1) I3 (by omega) (by omega) (by rw [hI3, g1, au_gu, gu_eq]; exact congrArg _ (muR_s (by omega))) _ _ hP hS ls (lv_sub hl [1, 2, 3, 0] rfl)
              exact L81 40 (16 * 0) I (by omega) (by omega) (by rw [muR_0, gu_self]) _ _ hP hS ls (lv_sub hl [1, 2, 3, 0] rfl)
            · have c38 := mt (nI_leI (by omega) (by omega)).mpr c38
              refine lv_aload_n hx hb dX5_scale_41 rfl (lv_at hl 0 rfl) ?_
              refine g_get hC hP hm.1 rfl inX5 1 (by decide) q3_7 hm.2.2.1.1 dX5_scale_42 ?_
              refine lv_iload_n hx hb dX5_scale_45 rfl (lv_at hl 3 rfl) ?_
              refine g_iald hC hP hm.2.2.1.2 (vp_in_nI (by omega) (by decide)) dX5_scale_46 ?_
              refine g_topi (y := I (h + 2) z) (congrArg (I (h + 2)) (nI_clamp (by omega))) ?_
              refine lv_i2l hx hb dX5_scale_47 rfl ?_
              refine lv_iload_n hx hb dX5_scale_48 rfl (lv_at hl 2 rfl) ?_
              refine lv_i2l hx hb dX5_scale_49 rfl ?_
              refine lv_lmul hx hb dX5_scale_50 ?_
              refine lv_ldc2 (v := (-20 : Int64)) hx hb hC.1.2.2.2.1 (hC.1.2.2.2.2 _ q4_11) dX5_scale_51 ?_
              refine lv_ldc2 (v := (20 : Int64)) hx hb hC.1.2.2.2.1 (hC.1.2.2.2.2 _ q4_12) dX5_scale_54 ?_
              refine g_cp (g_rS (As := [.long (((I (h + 2) z).toInt64) * v.toInt64), .long (-20 : Int64), .long (20 : Int64)]) hC (c_X5_in l (a := ((I (h + 2) z).toInt64) * v.toInt64) (b2 := (-20 : Int64)) (d2 := (20 : Int64))) ⟨q3_85, q3_83, q3_84, q1_6⟩ dd_X5_in ⟨Nat.le_of_ble_eq_true rfl, Nat.le_of_ble_eq_true rfl, rfl, rfl⟩ hl.1 rfl (Nat.le_of_ble_eq_true rfl) dX5_scale_57 ⟨Nat.le_of_ble_eq_true rfl, Nat.le_of_ble_eq_true rfl⟩) ?_
              refine W.eq (g2 := F0 m 60 ls [.int (gb (inL (((I (h + 2) z).toInt64) * v.toInt64) (-20 : Int64) (20 : Int64)))]) rfl ?_
              refine lv_if_ne (tgt := 70) hx hb dX5_scale_60 (by decide) (fun c60 => ?_) (fun c60 => ?_)
              · have c60 := gb_t c60
                refine lv_iinc (v := nI (z + 1)) (lv' := [(3, .int (nI (z + 1))), (0, .ref h), (1, .int (nI 0)), (2, .int v)]) hx hb dX5_scale_70 hl (k := 3) rfl (nI_inc _) (by decide) rfl (fun ls hl => ?_)
                refine lv_goto (tgt := 30) hx hb dX5_scale_73 (by decide) ?_
                exact ih30 (z + 1) (by omega) (by omega) (fun j g1 g2 => by rcases Nat.lt_succ_iff_lt_or_eq.mp g2 with g | rfl; (exact h1 j g1 g); (exact c60)) _ _ hP hS ls (lv_sub hl [1, 2, 3, 0] rfl)
              · have c60 := gb_f c60
                refine lv_aload_n hx hb dX5_scale_63 rfl (lv_at hl 0 rfl) ?_
                refine lv_bipush (v := (-6)) hx hb dX5_scale_64 (by decide) ?_
                refine g_cc (g_rV (As := [.int (-6 : Int32)]) hC hP (c_X5_refuse l hP (h := h) (q := (-6 : Int32)) (j := 6) (by first | assumption | omega) (by decide) (by omega)) hm.1 rfl ⟨q3_71, q3_68, q3_70, qs_25, q1_6⟩ dd_X5_refuse ⟨Nat.le_of_ble_eq_true rfl, Nat.le_of_ble_eq_true rfl, rfl, rfl⟩ hl.1 rfl (Nat.le_of_ble_eq_true rfl) dX5_scale_66 ⟨Nat.le_of_ble_eq_true rfl, Nat.le_of_ble_eq_true rfl⟩) hS (fun q h => h.elim (hTA q) (fun z => hA q (Nat.le_trans hS.1 z))) (fun r9 H5 locs6 hq10 hS hz7 hfr8 => ?_)
                obtain ⟨rfl, hP⟩ := hq10
                obtain ⟨I11, hI11, hP⟩ : ∃ I11 : gI, I11 = au I (h + 4) 6 (I (h + 4) 6 + 1) ∧ gP G T I11 J Q O H5 := ⟨_, rfl, hP⟩
                refine W.eq (g2 := F0 m 69 ls [.int (-6 : Int32)]) rfl ?_
                refine g_retci hC hS ?_ dX5_scale_69
                refine Or.inr (Or.inr ⟨c15, Or.inl ⟨rfl, Or.inl ⟨(sc_far hbd0 c15).mpr (fun hh => ?_), rfl, mo_ref hm hs0 (j := 6) (by decide) hI11 hP⟩⟩⟩)
                have := (sc_all0 hs0).mp hh z hz.1 (by omega)
                rw [c60] at this
                cases this
        exact L30 40 (16 * 0) (by omega) (by omega) (fun j h1 h2 => absurd h2 (by omega)) _ _ hP hS ls (lv_sub hl [1, 2, 3, 0] rfl)
      · refine lv_bipush (v := nI 16) hx hb dX5_scale_25 (by decide) ?_
        refine lv_iload_n hx hb dX5_scale_27 rfl (lv_at hl 1 rfl) ?_
        refine lv_imul hx hb dX5_scale_28 ?_
        refine g_topi (y := nI (16 * 1)) (nI_mul _ _) ?_
        refine lv_istore_n (lv' := [(3, .int (nI (16 * 1))), (0, .ref h), (1, .int (nI 1)), (2, .int v)]) hx hb dX5_scale_29 rfl hl (by decide) rfl (fun ls hl => ?_)
        have L30 : ∀ (n30 : Nat) (z : Nat), 40 ≤ n30 + z → (16 * 1 ≤ z ∧ z ≤ 16 * 1 + 16) → (∀ j, 16 * 1 ≤ j → j < z → inL ((I (h + 2) j).toInt64 * v.toInt64) (-20) 20 = true) → ∀ (Hl : Heap) (lcl : List Loc), gP G T I J Q O Hl → va_S A s.heap Hl lcl → ∀ ls : Array Slot, lv_has ls 4 [(0, .ref h), (1, .int (nI 1)), (2, .int v), (3, .int (nI z))] → W p l e ({ frames := 1, cells := 0, slots := 0, locals := 25 } : Room) s m [.ref h, .int (nI 1), .int v].toArray below meth c Hl lcl 0 0 (MQ below (gQc A (fun x H1 => rScale st (fun x1 s1 => x = some (.int x1) ∧ moR G T h s1 H1) (nI 1) v)) [.ref h, .int (nI 1), .int v].toArray s 0 0 A) (F0 m 30 ls []) := by
          intro n30
          induction n30 with
          | zero => intro z hn30 hz h1; exact absurd hn30 (by omega)
          | succ n30 ih30 =>
            intro z hn30 hz h1 Hl lcl hP hS ls hl
            refine lv_iload_n hx hb dX5_scale_30 rfl (lv_at hl 3 rfl) ?_
            refine lv_bipush (v := nI 16) hx hb dX5_scale_31 (by decide) ?_
            refine lv_iload_n hx hb dX5_scale_33 rfl (lv_at hl 1 rfl) ?_
            refine lv_imul hx hb dX5_scale_34 ?_
            refine g_topi (y := nI (16 * 1)) (nI_mul _ _) ?_
            refine lv_bipush (v := nI 16) hx hb dX5_scale_35 (by decide) ?_
            refine lv_iadd hx hb dX5_scale_37 ?_
            refine g_topi (y := nI (16 * 1 + 16)) (nI_add _ _) ?_
            refine lv_icmp_ge (tgt := 76) hx hb dX5_scale_38 (by decide) (fun c38 => ?_) (fun c38 => ?_)
            · have c38 := (nI_leI (by omega) (by omega)).mp c38
              refine lv_bipush (v := nI 16) hx hb dX5_scale_76 (by decide) ?_
              refine lv_iload_n hx hb dX5_scale_78 rfl (lv_at hl 1 rfl) ?_
              refine lv_imul hx hb dX5_scale_79 ?_
              refine g_topi (y := nI (16 * 1)) (nI_mul _ _) ?_
              refine lv_istore_n (lv' := [(3, .int (nI (16 * 1))), (0, .ref h), (1, .int (nI 1)), (2, .int v)]) hx hb dX5_scale_80 rfl hl (by decide) rfl (fun ls hl => ?_)
              have L81 : ∀ (n81 : Nat) (z2 : Nat) (I9 : gI), 40 ≤ n81 + z2 → (16 * 1 ≤ z2 ∧ z2 ≤ 16 * 1 + 16) → (I9 = gu I (h + 2) (muR (I (h + 2)) (16 * 1) v z2)) → ∀ (Hl : Heap) (lcl : List Loc), gP G T I9 J Q O Hl → va_S A s.heap Hl lcl → ∀ ls : Array Slot, lv_has ls 4 [(0, .ref h), (1, .int (nI 1)), (2, .int v), (3, .int (nI z2))] → W p l e ({ frames := 1, cells := 0, slots := 0, locals := 25 } : Room) s m [.ref h, .int (nI 1), .int v].toArray below meth c Hl lcl 0 0 (MQ below (gQc A (fun x H1 => rScale st (fun x1 s1 => x = some (.int x1) ∧ moR G T h s1 H1) (nI 1) v)) [.ref h, .int (nI 1), .int v].toArray s 0 0 A) (F0 m 81 ls []) := by
                intro n81
                induction n81 with
                | zero => intro z2 I9 hn81 hz2 g1; exact absurd hn81 (by omega)
                | succ n81 ih81 =>
                  intro z2 I9 hn81 hz2 g1 Hl lcl hP hS ls hl
                  refine lv_iload_n hx hb dX5_scale_81 rfl (lv_at hl 3 rfl) ?_
                  refine lv_bipush (v := nI 16) hx hb dX5_scale_82 (by decide) ?_
                  refine lv_iload_n hx hb dX5_scale_84 rfl (lv_at hl 1 rfl) ?_
                  refine lv_imul hx hb dX5_scale_85 ?_
                  refine g_topi (y := nI (16 * 1)) (nI_mul _ _) ?_
                  refine lv_bipush (v := nI 16) hx hb dX5_scale_86 (by decide) ?_
                  refine lv_iadd hx hb dX5_scale_88 ?_
                  refine g_topi (y := nI (16 * 1 + 16)) (nI_add _ _) ?_
                  refine lv_icmp_ge (tgt := 108) hx hb dX5_scale_89 (by decide) (fun c89 => ?_) (fun c89 => ?_)
                  · have c89 := (nI_leI (by omega) (by omega)).mp c89
                    refine lv_iconst (v := nI 1) hx hb dX5_scale_108 (by decide) ?_
                    refine g_retci hC hS ?_ dX5_scale_109
                    exact Or.inr (Or.inr ⟨c15, Or.inr ⟨rfl, Or.inr ⟨fun hh => (sc_far hbd1 c15).mp hh ((sc_all1 hs0).mpr (fun j h1a h2a => h1 j h1a (by omega))), rfl, mo_scale1 hm hs0 (by rw [g1, show z2 = 16 * 1 + 16 from by omega]) hP⟩⟩⟩)
                  · have c89 := mt (nI_leI (by omega) (by omega)).mpr c89
                    refine lv_aload_n hx hb dX5_scale_92 rfl (lv_at hl 0 rfl) ?_
                    refine g_get hC hP hm.1 rfl inX5 1 (by decide) q3_7 hm.2.2.1.1 dX5_scale_93 ?_
                    refine lv_iload_n hx hb dX5_scale_96 rfl (lv_at hl 3 rfl) ?_
                    refine lv_dup2_11 hx hb dX5_scale_97 rfl rfl ?_
                    refine g_iald hC hP hm.2.2.1.2 (vp_in_nI (by omega) (by decide)) dX5_scale_98 ?_
                    refine g_topi (y := I9 (h + 2) z2) (congrArg (I9 (h + 2)) (nI_clamp (by omega))) ?_
                    refine lv_iload_n hx hb dX5_scale_99 rfl (lv_at hl 2 rfl) ?_
                    refine lv_imul hx hb dX5_scale_100 ?_
                    refine g_iast hC hP hS hTA hm.2.2.1.2 (vp_in_nI (by omega) (by decide)) dX5_scale_101 (fun H12 locs13 hP hS hz15 => ?_)
                    rw [show (nI z2).toNatClampNeg = z2 from nI_clamp (by omega)] at hP
                    obtain ⟨I14, hI14, hP⟩ : ∃ X : gI, X = au I9 (h + 2) z2 ((I9 (h + 2) z2) * v) ∧ gP G T X J Q O H12 := ⟨_, rfl, hP⟩
                    refine lv_iinc (v := nI (z2 + 1)) (lv' := [(3, .int (nI (z2 + 1))), (0, .ref h), (1, .int (nI 1)), (2, .int v)]) hx hb dX5_scale_102 hl (k := 3) rfl (nI_inc _) (by decide) rfl (fun ls hl => ?_)
                    refine lv_goto (tgt := 81) hx hb dX5_scale_105 (by decide) ?_
                    exact ih81 (z2 + 1) I14 (by omega) (by omega) (by rw [hI14, g1, au_gu, gu_eq]; exact congrArg _ (muR_s (by omega))) _ _ hP hS ls (lv_sub hl [1, 2, 3, 0] rfl)
              exact L81 40 (16 * 1) I (by omega) (by omega) (by rw [muR_0, gu_self]) _ _ hP hS ls (lv_sub hl [1, 2, 3, 0] rfl)
            · have c38 := mt (nI_leI (by omega) (by omega)).mpr c38
              refine lv_aload_n hx hb dX5_scale_41 rfl (lv_at hl 0 rfl) ?_
              refine g_get hC hP hm.1 rfl inX5 1 (by decide) q3_7 hm.2.2.1.1 dX5_scale_42 ?_
              refine lv_iload_n hx hb dX5_scale_45 rfl (lv_at hl 3 rfl) ?_
              refine g_iald hC hP hm.2.2.1.2 (vp_in_nI (by omega) (by decide)) dX5_scale_46 ?_
              refine g_topi (y := I (h + 2) z) (congrArg (I (h + 2)) (nI_clamp (by omega))) ?_
              refine lv_i2l hx hb dX5_scale_47 rfl ?_
              refine lv_iload_n hx hb dX5_scale_48 rfl (lv_at hl 2 rfl) ?_
              refine lv_i2l hx hb dX5_scale_49 rfl ?_
              refine lv_lmul hx hb dX5_scale_50 ?_
              refine lv_ldc2 (v := (-20 : Int64)) hx hb hC.1.2.2.2.1 (hC.1.2.2.2.2 _ q4_11) dX5_scale_51 ?_
              refine lv_ldc2 (v := (20 : Int64)) hx hb hC.1.2.2.2.1 (hC.1.2.2.2.2 _ q4_12) dX5_scale_54 ?_
              refine g_cp (g_rS (As := [.long (((I (h + 2) z).toInt64) * v.toInt64), .long (-20 : Int64), .long (20 : Int64)]) hC (c_X5_in l (a := ((I (h + 2) z).toInt64) * v.toInt64) (b2 := (-20 : Int64)) (d2 := (20 : Int64))) ⟨q3_85, q3_83, q3_84, q1_6⟩ dd_X5_in ⟨Nat.le_of_ble_eq_true rfl, Nat.le_of_ble_eq_true rfl, rfl, rfl⟩ hl.1 rfl (Nat.le_of_ble_eq_true rfl) dX5_scale_57 ⟨Nat.le_of_ble_eq_true rfl, Nat.le_of_ble_eq_true rfl⟩) ?_
              refine W.eq (g2 := F0 m 60 ls [.int (gb (inL (((I (h + 2) z).toInt64) * v.toInt64) (-20 : Int64) (20 : Int64)))]) rfl ?_
              refine lv_if_ne (tgt := 70) hx hb dX5_scale_60 (by decide) (fun c60 => ?_) (fun c60 => ?_)
              · have c60 := gb_t c60
                refine lv_iinc (v := nI (z + 1)) (lv' := [(3, .int (nI (z + 1))), (0, .ref h), (1, .int (nI 1)), (2, .int v)]) hx hb dX5_scale_70 hl (k := 3) rfl (nI_inc _) (by decide) rfl (fun ls hl => ?_)
                refine lv_goto (tgt := 30) hx hb dX5_scale_73 (by decide) ?_
                exact ih30 (z + 1) (by omega) (by omega) (fun j g1 g2 => by rcases Nat.lt_succ_iff_lt_or_eq.mp g2 with g | rfl; (exact h1 j g1 g); (exact c60)) _ _ hP hS ls (lv_sub hl [1, 2, 3, 0] rfl)
              · have c60 := gb_f c60
                refine lv_aload_n hx hb dX5_scale_63 rfl (lv_at hl 0 rfl) ?_
                refine lv_bipush (v := (-6)) hx hb dX5_scale_64 (by decide) ?_
                refine g_cc (g_rV (As := [.int (-6 : Int32)]) hC hP (c_X5_refuse l hP (h := h) (q := (-6 : Int32)) (j := 6) (by first | assumption | omega) (by decide) (by omega)) hm.1 rfl ⟨q3_71, q3_68, q3_70, qs_25, q1_6⟩ dd_X5_refuse ⟨Nat.le_of_ble_eq_true rfl, Nat.le_of_ble_eq_true rfl, rfl, rfl⟩ hl.1 rfl (Nat.le_of_ble_eq_true rfl) dX5_scale_66 ⟨Nat.le_of_ble_eq_true rfl, Nat.le_of_ble_eq_true rfl⟩) hS (fun q h => h.elim (hTA q) (fun z => hA q (Nat.le_trans hS.1 z))) (fun r20 H16 locs17 hq21 hS hz18 hfr19 => ?_)
                obtain ⟨rfl, hP⟩ := hq21
                obtain ⟨I22, hI22, hP⟩ : ∃ I22 : gI, I22 = au I (h + 4) 6 (I (h + 4) 6 + 1) ∧ gP G T I22 J Q O H16 := ⟨_, rfl, hP⟩
                refine W.eq (g2 := F0 m 69 ls [.int (-6 : Int32)]) rfl ?_
                refine g_retci hC hS ?_ dX5_scale_69
                refine Or.inr (Or.inr ⟨c15, Or.inr ⟨rfl, Or.inl ⟨(sc_far hbd1 c15).mpr (fun hh => ?_), rfl, mo_ref hm hs0 (j := 6) (by decide) hI22 hP⟩⟩⟩)
                have := (sc_all1 hs0).mp hh z hz.1 (by omega)
                rw [c60] at this
                cases this
        exact L30 40 (16 * 1) (by omega) (by omega) (fun j h1 h2 => absurd h2 (by omega)) _ _ hP hS ls (lv_sub hl [1, 2, 3, 0] rfl)
    · refine lv_aload_n hx hb dX5_scale_18 rfl (lv_at hl 0 rfl) ?_
      refine lv_bipush (v := (-4)) hx hb dX5_scale_19 (by decide) ?_
      refine g_cc (g_rV (As := [.int (-4 : Int32)]) hC hP (c_X5_refuse l hP (h := h) (q := (-4 : Int32)) (j := 4) (by first | assumption | omega) (by decide) (by omega)) hm.1 rfl ⟨q3_71, q3_68, q3_70, qs_25, q1_6⟩ dd_X5_refuse ⟨Nat.le_of_ble_eq_true rfl, Nat.le_of_ble_eq_true rfl, rfl, rfl⟩ hl.1 rfl (Nat.le_of_ble_eq_true rfl) dX5_scale_21 ⟨Nat.le_of_ble_eq_true rfl, Nat.le_of_ble_eq_true rfl⟩) hS (fun q h => h.elim (hTA q) (fun z => hA q (Nat.le_trans hS.1 z))) (fun r27 H23 locs24 hq28 hS hz25 hfr26 => ?_)
      obtain ⟨rfl, hP⟩ := hq28
      obtain ⟨I29, hI29, hP⟩ : ∃ I29 : gI, I29 = au I (h + 4) 4 (I (h + 4) 4 + 1) ∧ gP G T I29 J Q O H23 := ⟨_, rfl, hP⟩
      refine W.eq (g2 := F0 m 24 ls [.int (-4 : Int32)]) rfl ?_
      refine g_retci hC hS ?_ dX5_scale_24
      exact Or.inr (Or.inl ⟨c4, c15, rfl, mo_ref hm hs0 (j := 4) (by decide) hI29 hP⟩)
  · have c4 := gb_f c4
    refine lv_aload_n hx hb dX5_scale_7 rfl (lv_at hl 0 rfl) ?_
    refine lv_iconst (v := (-1)) hx hb dX5_scale_8 (by decide) ?_
    refine g_cc (g_rV (As := [.int (-1 : Int32)]) hC hP (c_X5_refuse l hP (h := h) (q := (-1 : Int32)) (j := 1) (by first | assumption | omega) (by decide) (by omega)) hm.1 rfl ⟨q3_71, q3_68, q3_70, qs_25, q1_6⟩ dd_X5_refuse ⟨Nat.le_of_ble_eq_true rfl, Nat.le_of_ble_eq_true rfl, rfl, rfl⟩ hl.1 rfl (Nat.le_of_ble_eq_true rfl) dX5_scale_9 ⟨Nat.le_of_ble_eq_true rfl, Nat.le_of_ble_eq_true rfl⟩) hS (fun q h => h.elim (hTA q) (fun z => hA q (Nat.le_trans hS.1 z))) (fun r34 H30 locs31 hq35 hS hz32 hfr33 => ?_)
    obtain ⟨rfl, hP⟩ := hq35
    obtain ⟨I36, hI36, hP⟩ : ∃ I36 : gI, I36 = au I (h + 4) 1 (I (h + 4) 1 + 1) ∧ gP G T I36 J Q O H30 := ⟨_, rfl, hP⟩
    refine W.eq (g2 := F0 m 12 ls [.int (-1 : Int32)]) rfl ?_
    refine g_retci hC hS ?_ dX5_scale_12
    exact Or.inl ⟨c4, rfl, mo_ref hm hs0 (j := 1) (by decide) hI36 hP⟩
