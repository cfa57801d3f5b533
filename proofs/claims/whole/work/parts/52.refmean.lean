set_option maxHeartbeats 4000000 in
set_option maxRecDepth 100000 in
theorem c_X5_common (l : Launch) {G : gG} {H : Heap} {a b2 : Int64} (ha : -4611686018427387904 ≤ a.toInt) (hb2 : 0 ≤ b2.toInt) : Met l yX5_common (gw yX5_common cX5_common 10 (some (.long))) ({ frames := 0, cells := 0, slots := 0, locals := 0 } : Room) (gPc G H [.long a, .long b2]) (gQp (some (.long (gcdL a b2)))) 0 0 (fun _ => False) := by
  refine g_met [(0, .long a), (2, .long b2)] (by decide) rfl (by exact Nat.le_of_ble_eq_true rfl) ?_
  intro p e s m below meth c hC hs ls hl
  have hx := hC.1.1
  have hb := hC.1.2.1
  refine lv_lload_n hx hb dX5_common_0 rfl (lv_at hl 0 rfl) ?_
  refine lv_lconst (v := 0) hx hb dX5_common_1 (by decide) ?_
  refine W.lcmp hx hb dX5_common_2 ?_
  refine lv_if_ge (tgt := 11) hx hb dX5_common_3 (by decide) (fun c3 => ?_) (fun c3 => ?_)
  · have c3 := (lg_cmp_ge _ _).mp c3
    rw [Int64.le_iff_toInt_le, i64_20.2.2] at c3
    refine lv_lload_n hx hb dX5_common_11 rfl (lv_at hl 0 rfl) ?_
    refine lv_lstore (lv' := [(4, .long a), (0, .long a), (2, .long b2)]) hx hb dX5_common_12 hl (by decide) rfl (fun ls hl => ?_)
    refine lv_lload_n hx hb dX5_common_14 rfl (lv_at hl 2 rfl) ?_
    refine lv_lstore (lv' := [(6, .long b2), (4, .long a), (0, .long a), (2, .long b2)]) hx hb dX5_common_15 hl (by decide) rfl (fun ls hl => ?_)
    have L17 : ∀ (n17 : Nat) (x : Int64) (y : Int64) (X : Nat) (Y : Nat), Y < n17 → (x.toInt = X) → (y.toInt = Y) → (Nat.gcd X Y = gcdN a b2) → ∀ ls : Array Slot, lv_has ls 10 [(0, .long a), (2, .long b2), (4, .long x), (6, .long y)] → W p l e ({ frames := 0, cells := 0, slots := 0, locals := 0 } : Room) s m [.long a, .long b2].toArray below meth c H [] 0 0 (MQ below (gQp (some (.long (gcdL a b2)))) [.long a, .long b2].toArray s 0 0 (fun _ => False)) (F0 m 17 ls []) := by
      intro n17
      induction n17 with
      | zero => intro x y X Y hn17 hX hY hg; exact absurd hn17 (by omega)
      | succ n17 ih17 =>
        intro x y X Y hn17 hX hY hg ls hl
        refine lv_lload hx hb dX5_common_17 (lv_at hl 3 rfl) ?_
        refine lv_lconst (v := 0) hx hb dX5_common_19 (by decide) ?_
        refine W.lcmp hx hb dX5_common_20 ?_
        refine lv_if_eq (tgt := 42) hx hb dX5_common_21 (by decide) (fun c21 => ?_) (fun c21 => ?_)
        · have c21 := (lg_cmp_eq _ _).mp c21
          refine lv_lload hx hb dX5_common_42 (lv_at hl 2 rfl) ?_
          refine g_retl hC hs ?_ dX5_common_44
          have y0 : Y = 0 := (by rw [c21, i64_20.2.2] at hY; omega)
          rw [y0, Nat.gcd_zero_right] at hg
          exact i64_of (hX.trans (by rw [hg]))
        · have c21 := mt (lg_cmp_eq _ _).mpr c21
          have y0 : 0 < Y := Nat.pos_of_ne_zero (fun e => c21 (by apply Int64.toInt_inj.mp; rw [hY, e, i64_20.2.2]; rfl))
          have m0 := Nat.mod_lt X y0
          refine lv_lload hx hb dX5_common_24 (lv_at hl 2 rfl) ?_
          refine lv_lload hx hb dX5_common_26 (lv_at hl 3 rfl) ?_
          refine lv_lrem hx hb dX5_common_28 (by assumption) ?_
          refine lv_lstore (lv' := [(8, .long (x - x / y * y)), (0, .long a), (2, .long b2), (4, .long x), (6, .long y)]) hx hb dX5_common_29 hl (by decide) rfl (fun ls hl => ?_)
          refine lv_lload hx hb dX5_common_31 (lv_at hl 4 rfl) ?_
          refine lv_lstore (lv' := [(4, .long y), (8, .long (x - x / y * y)), (0, .long a), (2, .long b2), (6, .long y)]) hx hb dX5_common_33 hl (by decide) rfl (fun ls hl => ?_)
          refine lv_lload hx hb dX5_common_35 (lv_at hl 1 rfl) ?_
          refine lv_lstore (lv' := [(6, .long (x - x / y * y)), (4, .long y), (8, .long (x - x / y * y)), (0, .long a), (2, .long b2)]) hx hb dX5_common_37 hl (by decide) rfl (fun ls hl => ?_)
          refine lv_goto (tgt := 17) hx hb dX5_common_39 (by decide) ?_
          exact ih17 y (x - x / y * y) Y (X % Y) (by omega) hY (by rw [rem_I (by omega) (by omega), hX, hY]; rfl) (by rw [gcd_st]; exact hg) ls (lv_sub hl [3, 4, 1, 0] rfl)
    exact L17 (b2.toInt.natAbs + 1) a b2 a.toInt.natAbs b2.toInt.natAbs (by omega) (by first | omega | (have b := i64_b a; rw [Int64.toInt_neg, bm64 (by omega) (by omega)]; omega)) (by omega) rfl ls (lv_sub hl [2, 3, 1, 0] rfl)
  · have c3 := mt (lg_cmp_ge _ _).mpr c3
    rw [Int64.le_iff_toInt_le, i64_20.2.2] at c3
    refine lv_lload_n hx hb dX5_common_6 rfl (lv_at hl 0 rfl) ?_
    refine lv_lneg hx hb dX5_common_7 ?_
    refine lv_goto (tgt := 12) hx hb dX5_common_8 (by decide) ?_
    refine lv_lstore (lv' := [(4, .long (-a)), (0, .long a), (2, .long b2)]) hx hb dX5_common_12 hl (by decide) rfl (fun ls hl => ?_)
    refine lv_lload_n hx hb dX5_common_14 rfl (lv_at hl 2 rfl) ?_
    refine lv_lstore (lv' := [(6, .long b2), (4, .long (-a)), (0, .long a), (2, .long b2)]) hx hb dX5_common_15 hl (by decide) rfl (fun ls hl => ?_)
    have L17 : ∀ (n17 : Nat) (x : Int64) (y : Int64) (X : Nat) (Y : Nat), Y < n17 → (x.toInt = X) → (y.toInt = Y) → (Nat.gcd X Y = gcdN a b2) → ∀ ls : Array Slot, lv_has ls 10 [(0, .long a), (2, .long b2), (4, .long x), (6, .long y)] → W p l e ({ frames := 0, cells := 0, slots := 0, locals := 0 } : Room) s m [.long a, .long b2].toArray below meth c H [] 0 0 (MQ below (gQp (some (.long (gcdL a b2)))) [.long a, .long b2].toArray s 0 0 (fun _ => False)) (F0 m 17 ls []) := by
      intro n17
      induction n17 with
      | zero => intro x y X Y hn17 hX hY hg; exact absurd hn17 (by omega)
      | succ n17 ih17 =>
        intro x y X Y hn17 hX hY hg ls hl
        refine lv_lload hx hb dX5_common_17 (lv_at hl 3 rfl) ?_
        refine lv_lconst (v := 0) hx hb dX5_common_19 (by decide) ?_
        refine W.lcmp hx hb dX5_common_20 ?_
        refine lv_if_eq (tgt := 42) hx hb dX5_common_21 (by decide) (fun c21 => ?_) (fun c21 => ?_)
        · have c21 := (lg_cmp_eq _ _).mp c21
          refine lv_lload hx hb dX5_common_42 (lv_at hl 2 rfl) ?_
          refine g_retl hC hs ?_ dX5_common_44
          have y0 : Y = 0 := (by rw [c21, i64_20.2.2] at hY; omega)
          rw [y0, Nat.gcd_zero_right] at hg
          exact i64_of (hX.trans (by rw [hg]))
        · have c21 := mt (lg_cmp_eq _ _).mpr c21
          have y0 : 0 < Y := Nat.pos_of_ne_zero (fun e => c21 (by apply Int64.toInt_inj.mp; rw [hY, e, i64_20.2.2]; rfl))
          have m0 := Nat.mod_lt X y0
          refine lv_lload hx hb dX5_common_24 (lv_at hl 2 rfl) ?_
          refine lv_lload hx hb dX5_common_26 (lv_at hl 3 rfl) ?_
          refine lv_lrem hx hb dX5_common_28 (by assumption) ?_
          refine lv_lstore (lv' := [(8, .long (x - x / y * y)), (0, .long a), (2, .long b2), (4, .long x), (6, .long y)]) hx hb dX5_common_29 hl (by decide) rfl (fun ls hl => ?_)
          refine lv_lload hx hb dX5_common_31 (lv_at hl 4 rfl) ?_
          refine lv_lstore (lv' := [(4, .long y), (8, .long (x - x / y * y)), (0, .long a), (2, .long b2), (6, .long y)]) hx hb dX5_common_33 hl (by decide) rfl (fun ls hl => ?_)
          refine lv_lload hx hb dX5_common_35 (lv_at hl 1 rfl) ?_
          refine lv_lstore (lv' := [(6, .long (x - x / y * y)), (4, .long y), (8, .long (x - x / y * y)), (0, .long a), (2, .long b2)]) hx hb dX5_common_37 hl (by decide) rfl (fun ls hl => ?_)
          refine lv_goto (tgt := 17) hx hb dX5_common_39 (by decide) ?_
          exact ih17 y (x - x / y * y) Y (X % Y) (by omega) hY (by rw [rem_I (by omega) (by omega), hX, hY]; rfl) (by rw [gcd_st]; exact hg) ls (lv_sub hl [3, 4, 1, 0] rfl)
    exact L17 (b2.toInt.natAbs + 1) (-a) b2 a.toInt.natAbs b2.toInt.natAbs (by omega) (by first | omega | (have b := i64_b a; rw [Int64.toInt_neg, bm64 (by omega) (by omega)]; omega)) (by omega) rfl ls (lv_sub hl [2, 3, 1, 0] rfl)
set_option maxHeartbeats 4000000 in
set_option maxRecDepth 100000 in
theorem c_X5_meanOf_0 (l : Launch) {G : gG} {T : gTy} {I : gI} {J : gJ} {Q : gR} {O : gO} {H : Heap} (hP : gP G T I J Q O H) {h : Nat} {st : GS} {a b2 fa fb la lb : Nat} (hm : isMo T O h) (hs0 : moS I h st) (hTa : T a = (3, la)) (hTb : T b2 = (3, lb)) (hfa : fa + 4 ≤ la) (hfb : fb + 4 ≤ lb) (hla : la < 2 ^ 31) (hlb : lb < 2 ^ 31) : Met l yX5_meanOf (gw yX5_meanOf cX5_meanOf 10 (some (.long))) ({ frames := 0, cells := 0, slots := 0, locals := 0 } : Room) (gPc G H [.ref h, .int (nI 0), .ref a, .int (nI fa), .ref b2, .int (nI fb)]) (gQp (some (.long (dS (fun i k => J a (fa + i) * J b2 (fb + k) * (gsP0 st (i * 4 + k)).toInt64) (gsn st) (gsm st))))) 0 0 (fun _ => False) := by
  refine g_met [(0, .ref h), (1, .int (nI 0)), (2, .ref a), (3, .int (nI fa)), (4, .ref b2), (5, .int (nI fb))] (by decide) rfl (by exact Nat.le_of_ble_eq_true rfl) ?_
  intro p e s m below meth c hC hs ls hl
  have hx := hC.1.1
  have hb := hC.1.2.1
  have hms := hs0.1
  have hns := hs0.2.1
  refine lv_lconst (v := 0) hx hb dX5_meanOf_0 (by decide) ?_
  refine lv_lstore (lv' := [(6, .long (0 : Int64)), (0, .ref h), (1, .int (nI 0)), (2, .ref a), (3, .int (nI fa)), (4, .ref b2), (5, .int (nI fb))]) hx hb dX5_meanOf_1 hl (by decide) rfl (fun ls hl => ?_)
  refine lv_iconst (v := nI 0) hx hb dX5_meanOf_3 (by decide) ?_
  refine lv_istore (lv' := [(8, .int (nI 0)), (6, .long (0 : Int64)), (0, .ref h), (1, .int (nI 0)), (2, .ref a), (3, .int (nI fa)), (4, .ref b2), (5, .int (nI fb))]) hx hb dX5_meanOf_4 hl (by decide) rfl (fun ls hl => ?_)
  have L6 : ∀ (n6 : Nat) (z : Nat) (sm : Int64), 5 ≤ n6 + z → (z ≤ gsm st) → (sm = dS (fun i k => J a (fa + i) * J b2 (fb + k) * (gsP0 st (i * 4 + k)).toInt64) (gsn st) z) → ∀ ls : Array Slot, lv_has ls 10 [(0, .ref h), (1, .int (nI 0)), (2, .ref a), (3, .int (nI fa)), (4, .ref b2), (5, .int (nI fb)), (6, .long sm), (8, .int (nI z))] → W p l e ({ frames := 0, cells := 0, slots := 0, locals := 0 } : Room) s m [.ref h, .int (nI 0), .ref a, .int (nI fa), .ref b2, .int (nI fb)].toArray below meth c H [] 0 0 (MQ below (gQp (some (.long (dS (fun i k => J a (fa + i) * J b2 (fb + k) * (gsP0 st (i * 4 + k)).toInt64) (gsn st) (gsm st))))) [.ref h, .int (nI 0), .ref a, .int (nI fa), .ref b2, .int (nI fb)].toArray s 0 0 (fun _ => False)) (F0 m 6 ls []) := by
    intro n6
    induction n6 with
    | zero => intro z sm hn6 hz h1; exact absurd hn6 (by omega)
    | succ n6 ih6 =>
      intro z sm hn6 hz h1 ls hl
      refine lv_iload hx hb dX5_meanOf_6 (lv_at hl 7 rfl) ?_
      refine lv_aload_n hx hb dX5_meanOf_8 rfl (lv_at hl 0 rfl) ?_
      refine g_get hC hP hm.1 rfl inX5 0 (by decide) q3_6 hm.2.1.1 dX5_meanOf_9 ?_
      refine lv_iconst (v := nI 0) hx hb dX5_meanOf_12 (by decide) ?_
      refine g_iald hC hP hm.2.1.2 (vp_in_nI (by omega) (by decide)) dX5_meanOf_13 ?_
      refine g_topi (y := nI (gsm st)) hs0.2.2.1 ?_
      refine lv_icmp_ge (tgt := 82) hx hb dX5_meanOf_14 (by decide) (fun c14 => ?_) (fun c14 => ?_)
      · have c14 := (nI_leI (by omega) (by omega)).mp c14
        refine lv_lload hx hb dX5_meanOf_82 (lv_at hl 6 rfl) ?_
        refine g_retl hC hs ?_ dX5_meanOf_84
        rw [h1, show z = gsm st from by omega]
      · have c14 := mt (nI_leI (by omega) (by omega)).mpr c14
        refine lv_iconst (v := nI 0) hx hb dX5_meanOf_17 (by decide) ?_
        refine lv_istore (lv' := [(9, .int (nI 0)), (0, .ref h), (1, .int (nI 0)), (2, .ref a), (3, .int (nI fa)), (4, .ref b2), (5, .int (nI fb)), (6, .long sm), (8, .int (nI z))]) hx hb dX5_meanOf_18 hl (by decide) rfl (fun ls hl => ?_)
        have L20 : ∀ (n20 : Nat) (y : Nat) (s2 : Int64), 5 ≤ n20 + y → (y ≤ gsn st) → (s2 = dS (fun i k => J a (fa + i) * J b2 (fb + k) * (gsP0 st (i * 4 + k)).toInt64) (gsn st) z + rS ((fun i k => J a (fa + i) * J b2 (fb + k) * (gsP0 st (i * 4 + k)).toInt64) z) y) → ∀ ls : Array Slot, lv_has ls 10 [(0, .ref h), (1, .int (nI 0)), (2, .ref a), (3, .int (nI fa)), (4, .ref b2), (5, .int (nI fb)), (6, .long s2), (8, .int (nI z)), (9, .int (nI y))] → W p l e ({ frames := 0, cells := 0, slots := 0, locals := 0 } : Room) s m [.ref h, .int (nI 0), .ref a, .int (nI fa), .ref b2, .int (nI fb)].toArray below meth c H [] 0 0 (MQ below (gQp (some (.long (dS (fun i k => J a (fa + i) * J b2 (fb + k) * (gsP0 st (i * 4 + k)).toInt64) (gsn st) (gsm st))))) [.ref h, .int (nI 0), .ref a, .int (nI fa), .ref b2, .int (nI fb)].toArray s 0 0 (fun _ => False)) (F0 m 20 ls []) := by
          intro n20
          induction n20 with
          | zero => intro y s2 hn20 hy h2; exact absurd hn20 (by omega)
          | succ n20 ih20 =>
            intro y s2 hn20 hy h2 ls hl
            refine lv_iload hx hb dX5_meanOf_20 (lv_at hl 8 rfl) ?_
            refine lv_aload_n hx hb dX5_meanOf_22 rfl (lv_at hl 0 rfl) ?_
            refine g_get hC hP hm.1 rfl inX5 0 (by decide) q3_6 hm.2.1.1 dX5_meanOf_23 ?_
            refine lv_iconst (v := nI 1) hx hb dX5_meanOf_26 (by decide) ?_
            refine g_iald hC hP hm.2.1.2 (vp_in_nI (by omega) (by decide)) dX5_meanOf_27 ?_
            refine g_topi (y := nI (gsn st)) hs0.2.2.2.1 ?_
            refine lv_icmp_ge (tgt := 76) hx hb dX5_meanOf_28 (by decide) (fun c28 => ?_) (fun c28 => ?_)
            · have c28 := (nI_leI (by omega) (by omega)).mp c28
              refine lv_iinc (v := nI (z + 1)) (lv' := [(8, .int (nI (z + 1))), (0, .ref h), (1, .int (nI 0)), (2, .ref a), (3, .int (nI fa)), (4, .ref b2), (5, .int (nI fb)), (6, .long s2), (9, .int (nI y))]) hx hb dX5_meanOf_76 hl (k := 7) rfl (nI_inc _) (by decide) rfl (fun ls hl => ?_)
              refine lv_goto (tgt := 6) hx hb dX5_meanOf_79 (by decide) ?_
              exact ih6 (z + 1) s2 (by omega) (by omega) (by rw [h2, show y = gsn st from by omega]; rfl) ls (lv_sub hl [1, 2, 3, 4, 5, 6, 7, 0] rfl)
            · have c28 := mt (nI_leI (by omega) (by omega)).mpr c28
              refine lv_lload hx hb dX5_meanOf_31 (lv_at hl 6 rfl) ?_
              refine lv_aload_n hx hb dX5_meanOf_33 rfl (lv_at hl 2 rfl) ?_
              refine lv_iload_n hx hb dX5_meanOf_34 rfl (lv_at hl 3 rfl) ?_
              refine lv_iload hx hb dX5_meanOf_35 (lv_at hl 7 rfl) ?_
              refine lv_iadd hx hb dX5_meanOf_37 ?_
              refine g_topi (y := nI (fa + z)) (nI_add _ _) ?_
              refine g_lald hC hP hTa (vp_in_nI (by omega) hla) dX5_meanOf_38 ?_
              refine g_topl (y := J a (fa + z)) (congrArg (J a) (nI_clamp (by omega))) ?_
              refine lv_aload hx hb dX5_meanOf_39 (lv_at hl 4 rfl) ?_
              refine lv_iload hx hb dX5_meanOf_41 (lv_at hl 5 rfl) ?_
              refine lv_iload hx hb dX5_meanOf_43 (lv_at hl 8 rfl) ?_
              refine lv_iadd hx hb dX5_meanOf_45 ?_
              refine g_topi (y := nI (fb + y)) (nI_add _ _) ?_
              refine g_lald hC hP hTb (vp_in_nI (by omega) hlb) dX5_meanOf_46 ?_
              refine g_topl (y := J b2 (fb + y)) (congrArg (J b2) (nI_clamp (by omega))) ?_
              refine lv_lmul hx hb dX5_meanOf_47 ?_
              refine lv_aload_n hx hb dX5_meanOf_48 rfl (lv_at hl 0 rfl) ?_
              refine g_get hC hP hm.1 rfl inX5 1 (by decide) q3_7 hm.2.2.1.1 dX5_meanOf_49 ?_
              refine lv_bipush (v := nI 16) hx hb dX5_meanOf_52 (by decide) ?_
              refine lv_iload_n hx hb dX5_meanOf_54 rfl (lv_at hl 1 rfl) ?_
              refine lv_imul hx hb dX5_meanOf_55 ?_
              refine g_topi (y := nI (16 * 0)) (nI_mul _ _) ?_
              refine lv_iconst (v := nI 4) hx hb dX5_meanOf_56 (by decide) ?_
              refine lv_iload hx hb dX5_meanOf_57 (lv_at hl 7 rfl) ?_
              refine lv_imul hx hb dX5_meanOf_59 ?_
              refine g_topi (y := nI (4 * z)) (nI_mul _ _) ?_
              refine lv_iadd hx hb dX5_meanOf_60 ?_
              refine g_topi (y := nI (16 * 0 + (4 * z))) (nI_add _ _) ?_
              refine lv_iload hx hb dX5_meanOf_61 (lv_at hl 8 rfl) ?_
              refine lv_iadd hx hb dX5_meanOf_63 ?_
              refine g_topi (y := nI (16 * 0 + (4 * z) + y)) (nI_add _ _) ?_
              refine g_iald hC hP hm.2.2.1.2 (vp_in_nI (by omega) (by decide)) dX5_meanOf_64 ?_
              refine g_topi (y := gsP0 st (z * 4 + y)) ((congrArg (I (h + 2)) (nI_clamp (by omega))).trans (by rw [show 16 * 0 + (4 * z) + y = 4 * z + y from by omega]; exact hs0.2.2.2.2.1 z y (by omega) (by omega))) ?_
              refine lv_i2l hx hb dX5_meanOf_65 rfl ?_
              refine lv_lmul hx hb dX5_meanOf_66 ?_
              refine lv_ladd hx hb dX5_meanOf_67 ?_
              refine lv_lstore (lv' := [(6, .long (s2 + (((J a (fa + z)) * (J b2 (fb + y))) * ((gsP0 st (z * 4 + y)).toInt64)))), (0, .ref h), (1, .int (nI 0)), (2, .ref a), (3, .int (nI fa)), (4, .ref b2), (5, .int (nI fb)), (8, .int (nI z)), (9, .int (nI y))]) hx hb dX5_meanOf_68 hl (by decide) rfl (fun ls hl => ?_)
              refine lv_iinc (v := nI (y + 1)) (lv' := [(9, .int (nI (y + 1))), (6, .long (s2 + (((J a (fa + z)) * (J b2 (fb + y))) * ((gsP0 st (z * 4 + y)).toInt64)))), (0, .ref h), (1, .int (nI 0)), (2, .ref a), (3, .int (nI fa)), (4, .ref b2), (5, .int (nI fb)), (8, .int (nI z))]) hx hb dX5_meanOf_70 hl (k := 8) rfl (nI_inc _) (by decide) rfl (fun ls hl => ?_)
              refine lv_goto (tgt := 20) hx hb dX5_meanOf_73 (by decide) ?_
              exact ih20 (y + 1) (s2 + (((J a (fa + z)) * (J b2 (fb + y))) * ((gsP0 st (z * 4 + y)).toInt64))) (by omega) (by omega) (by rw [h2, Int64.add_assoc]; rfl) ls (lv_sub hl [2, 3, 4, 5, 6, 7, 1, 8, 0] rfl)
        exact L20 5 0 sm (by omega) (by omega) (by rw [h1]; exact (Int64.add_zero _).symm) ls (lv_sub hl [1, 2, 3, 4, 5, 6, 7, 8, 0] rfl)
  exact L6 5 0 (0 : Int64) (by omega) (by omega) rfl ls (lv_sub hl [2, 3, 4, 5, 6, 7, 1, 0] rfl)
set_option maxHeartbeats 4000000 in
set_option maxRecDepth 100000 in
theorem c_X5_meanOf_1 (l : Launch) {G : gG} {T : gTy} {I : gI} {J : gJ} {Q : gR} {O : gO} {H : Heap} (hP : gP G T I J Q O H) {h : Nat} {st : GS} {a b2 fa fb la lb : Nat} (hm : isMo T O h) (hs0 : moS I h st) (hTa : T a = (3, la)) (hTb : T b2 = (3, lb)) (hfa : fa + 4 ≤ la) (hfb : fb + 4 ≤ lb) (hla : la < 2 ^ 31) (hlb : lb < 2 ^ 31) : Met l yX5_meanOf (gw yX5_meanOf cX5_meanOf 10 (some (.long))) ({ frames := 0, cells := 0, slots := 0, locals := 0 } : Room) (gPc G H [.ref h, .int (nI 1), .ref a, .int (nI fa), .ref b2, .int (nI fb)]) (gQp (some (.long (dS (fun i k => J a (fa + i) * J b2 (fb + k) * (gsP1 st (k * 4 + i)).toInt64) (gsn st) (gsm st))))) 0 0 (fun _ => False) := by
  refine g_met [(0, .ref h), (1, .int (nI 1)), (2, .ref a), (3, .int (nI fa)), (4, .ref b2), (5, .int (nI fb))] (by decide) rfl (by exact Nat.le_of_ble_eq_true rfl) ?_
  intro p e s m below meth c hC hs ls hl
  have hx := hC.1.1
  have hb := hC.1.2.1
  have hms := hs0.1
  have hns := hs0.2.1
  refine lv_lconst (v := 0) hx hb dX5_meanOf_0 (by decide) ?_
  refine lv_lstore (lv' := [(6, .long (0 : Int64)), (0, .ref h), (1, .int (nI 1)), (2, .ref a), (3, .int (nI fa)), (4, .ref b2), (5, .int (nI fb))]) hx hb dX5_meanOf_1 hl (by decide) rfl (fun ls hl => ?_)
  refine lv_iconst (v := nI 0) hx hb dX5_meanOf_3 (by decide) ?_
  refine lv_istore (lv' := [(8, .int (nI 0)), (6, .long (0 : Int64)), (0, .ref h), (1, .int (nI 1)), (2, .ref a), (3, .int (nI fa)), (4, .ref b2), (5, .int (nI fb))]) hx hb dX5_meanOf_4 hl (by decide) rfl (fun ls hl => ?_)
  have L6 : ∀ (n6 : Nat) (z : Nat) (sm : Int64), 5 ≤ n6 + z → (z ≤ gsm st) → (sm = dS (fun i k => J a (fa + i) * J b2 (fb + k) * (gsP1 st (k * 4 + i)).toInt64) (gsn st) z) → ∀ ls : Array Slot, lv_has ls 10 [(0, .ref h), (1, .int (nI 1)), (2, .ref a), (3, .int (nI fa)), (4, .ref b2), (5, .int (nI fb)), (6, .long sm), (8, .int (nI z))] → W p l e ({ frames := 0, cells := 0, slots := 0, locals := 0 } : Room) s m [.ref h, .int (nI 1), .ref a, .int (nI fa), .ref b2, .int (nI fb)].toArray below meth c H [] 0 0 (MQ below (gQp (some (.long (dS (fun i k => J a (fa + i) * J b2 (fb + k) * (gsP1 st (k * 4 + i)).toInt64) (gsn st) (gsm st))))) [.ref h, .int (nI 1), .ref a, .int (nI fa), .ref b2, .int (nI fb)].toArray s 0 0 (fun _ => False)) (F0 m 6 ls []) := by
    intro n6
    induction n6 with
    | zero => intro z sm hn6 hz h1; exact absurd hn6 (by omega)
    | succ n6 ih6 =>
      intro z sm hn6 hz h1 ls hl
      refine lv_iload hx hb dX5_meanOf_6 (lv_at hl 7 rfl) ?_
      refine lv_aload_n hx hb dX5_meanOf_8 rfl (lv_at hl 0 rfl) ?_
      refine g_get hC hP hm.1 rfl inX5 0 (by decide) q3_6 hm.2.1.1 dX5_meanOf_9 ?_
      refine lv_iconst (v := nI 0) hx hb dX5_meanOf_12 (by decide) ?_
      refine g_iald hC hP hm.2.1.2 (vp_in_nI (by omega) (by decide)) dX5_meanOf_13 ?_
      refine g_topi (y := nI (gsm st)) hs0.2.2.1 ?_
      refine lv_icmp_ge (tgt := 82) hx hb dX5_meanOf_14 (by decide) (fun c14 => ?_) (fun c14 => ?_)
      · have c14 := (nI_leI (by omega) (by omega)).mp c14
        refine lv_lload hx hb dX5_meanOf_82 (lv_at hl 6 rfl) ?_
        refine g_retl hC hs ?_ dX5_meanOf_84
        rw [h1, show z = gsm st from by omega]
      · have c14 := mt (nI_leI (by omega) (by omega)).mpr c14
        refine lv_iconst (v := nI 0) hx hb dX5_meanOf_17 (by decide) ?_
        refine lv_istore (lv' := [(9, .int (nI 0)), (0, .ref h), (1, .int (nI 1)), (2, .ref a), (3, .int (nI fa)), (4, .ref b2), (5, .int (nI fb)), (6, .long sm), (8, .int (nI z))]) hx hb dX5_meanOf_18 hl (by decide) rfl (fun ls hl => ?_)
        have L20 : ∀ (n20 : Nat) (y : Nat) (s2 : Int64), 5 ≤ n20 + y → (y ≤ gsn st) → (s2 = dS (fun i k => J a (fa + i) * J b2 (fb + k) * (gsP1 st (k * 4 + i)).toInt64) (gsn st) z + rS ((fun i k => J a (fa + i) * J b2 (fb + k) * (gsP1 st (k * 4 + i)).toInt64) z) y) → ∀ ls : Array Slot, lv_has ls 10 [(0, .ref h), (1, .int (nI 1)), (2, .ref a), (3, .int (nI fa)), (4, .ref b2), (5, .int (nI fb)), (6, .long s2), (8, .int (nI z)), (9, .int (nI y))] → W p l e ({ frames := 0, cells := 0, slots := 0, locals := 0 } : Room) s m [.ref h, .int (nI 1), .ref a, .int (nI fa), .ref b2, .int (nI fb)].toArray below meth c H [] 0 0 (MQ below (gQp (some (.long (dS (fun i k => J a (fa + i) * J b2 (fb + k) * (gsP1 st (k * 4 + i)).toInt64) (gsn st) (gsm st))))) [.ref h, .int (nI 1), .ref a, .int (nI fa), .ref b2, .int (nI fb)].toArray s 0 0 (fun _ => False)) (F0 m 20 ls []) := by
          intro n20
          induction n20 with
          | zero => intro y s2 hn20 hy h2; exact absurd hn20 (by omega)
          | succ n20 ih20 =>
            intro y s2 hn20 hy h2 ls hl
            refine lv_iload hx hb dX5_meanOf_20 (lv_at hl 8 rfl) ?_
            refine lv_aload_n hx hb dX5_meanOf_22 rfl (lv_at hl 0 rfl) ?_
            refine g_get hC hP hm.1 rfl inX5 0 (by decide) q3_6 hm.2.1.1 dX5_meanOf_23 ?_
            refine lv_iconst (v := nI 1) hx hb dX5_meanOf_26 (by decide) ?_
            refine g_iald hC hP hm.2.1.2 (vp_in_nI (by omega) (by decide)) dX5_meanOf_27 ?_
            refine g_topi (y := nI (gsn st)) hs0.2.2.2.1 ?_
            refine lv_icmp_ge (tgt := 76) hx hb dX5_meanOf_28 (by decide) (fun c28 => ?_) (fun c28 => ?_)
            · have c28 := (nI_leI (by omega) (by omega)).mp c28
              refine lv_iinc (v := nI (z + 1)) (lv' := [(8, .int (nI (z + 1))), (0, .ref h), (1, .int (nI 1)), (2, .ref a), (3, .int (nI fa)), (4, .ref b2), (5, .int (nI fb)), (6, .long s2), (9, .int (nI y))]) hx hb dX5_meanOf_76 hl (k := 7) rfl (nI_inc _) (by decide) rfl (fun ls hl => ?_)
              refine lv_goto (tgt := 6) hx hb dX5_meanOf_79 (by decide) ?_
              exact ih6 (z + 1) s2 (by omega) (by omega) (by rw [h2, show y = gsn st from by omega]; rfl) ls (lv_sub hl [1, 2, 3, 4, 5, 6, 7, 0] rfl)
            · have c28 := mt (nI_leI (by omega) (by omega)).mpr c28
              refine lv_lload hx hb dX5_meanOf_31 (lv_at hl 6 rfl) ?_
              refine lv_aload_n hx hb dX5_meanOf_33 rfl (lv_at hl 2 rfl) ?_
              refine lv_iload_n hx hb dX5_meanOf_34 rfl (lv_at hl 3 rfl) ?_
              refine lv_iload hx hb dX5_meanOf_35 (lv_at hl 7 rfl) ?_
              refine lv_iadd hx hb dX5_meanOf_37 ?_
              refine g_topi (y := nI (fa + z)) (nI_add _ _) ?_
              refine g_lald hC hP hTa (vp_in_nI (by omega) hla) dX5_meanOf_38 ?_
              refine g_topl (y := J a (fa + z)) (congrArg (J a) (nI_clamp (by omega))) ?_
              refine lv_aload hx hb dX5_meanOf_39 (lv_at hl 4 rfl) ?_
              refine lv_iload hx hb dX5_meanOf_41 (lv_at hl 5 rfl) ?_
              refine lv_iload hx hb dX5_meanOf_43 (lv_at hl 8 rfl) ?_
              refine lv_iadd hx hb dX5_meanOf_45 ?_
              refine g_topi (y := nI (fb + y)) (nI_add _ _) ?_
              refine g_lald hC hP hTb (vp_in_nI (by omega) hlb) dX5_meanOf_46 ?_
              refine g_topl (y := J b2 (fb + y)) (congrArg (J b2) (nI_clamp (by omega))) ?_
              refine lv_lmul hx hb dX5_meanOf_47 ?_
              refine lv_aload_n hx hb dX5_meanOf_48 rfl (lv_at hl 0 rfl) ?_
              refine g_get hC hP hm.1 rfl inX5 1 (by decide) q3_7 hm.2.2.1.1 dX5_meanOf_49 ?_
              refine lv_bipush (v := nI 16) hx hb dX5_meanOf_52 (by decide) ?_
              refine lv_iload_n hx hb dX5_meanOf_54 rfl (lv_at hl 1 rfl) ?_
              refine lv_imul hx hb dX5_meanOf_55 ?_
              refine g_topi (y := nI (16 * 1)) (nI_mul _ _) ?_
              refine lv_iconst (v := nI 4) hx hb dX5_meanOf_56 (by decide) ?_
              refine lv_iload hx hb dX5_meanOf_57 (lv_at hl 7 rfl) ?_
              refine lv_imul hx hb dX5_meanOf_59 ?_
              refine g_topi (y := nI (4 * z)) (nI_mul _ _) ?_
              refine lv_iadd hx hb dX5_meanOf_60 ?_
              refine g_topi (y := nI (16 * 1 + (4 * z))) (nI_add _ _) ?_
              refine lv_iload hx hb dX5_meanOf_61 (lv_at hl 8 rfl) ?_
              refine lv_iadd hx hb dX5_meanOf_63 ?_
              refine g_topi (y := nI (16 * 1 + (4 * z) + y)) (nI_add _ _) ?_
              refine g_iald hC hP hm.2.2.1.2 (vp_in_nI (by omega) (by decide)) dX5_meanOf_64 ?_
              refine g_topi (y := gsP1 st (y * 4 + z)) ((congrArg (I (h + 2)) (nI_clamp (by omega))).trans (by exact hs0.2.2.2.2.2.1 z y (by omega) (by omega))) ?_
              refine lv_i2l hx hb dX5_meanOf_65 rfl ?_
              refine lv_lmul hx hb dX5_meanOf_66 ?_
              refine lv_ladd hx hb dX5_meanOf_67 ?_
              refine lv_lstore (lv' := [(6, .long (s2 + (((J a (fa + z)) * (J b2 (fb + y))) * ((gsP1 st (y * 4 + z)).toInt64)))), (0, .ref h), (1, .int (nI 1)), (2, .ref a), (3, .int (nI fa)), (4, .ref b2), (5, .int (nI fb)), (8, .int (nI z)), (9, .int (nI y))]) hx hb dX5_meanOf_68 hl (by decide) rfl (fun ls hl => ?_)
              refine lv_iinc (v := nI (y + 1)) (lv' := [(9, .int (nI (y + 1))), (6, .long (s2 + (((J a (fa + z)) * (J b2 (fb + y))) * ((gsP1 st (y * 4 + z)).toInt64)))), (0, .ref h), (1, .int (nI 1)), (2, .ref a), (3, .int (nI fa)), (4, .ref b2), (5, .int (nI fb)), (8, .int (nI z))]) hx hb dX5_meanOf_70 hl (k := 8) rfl (nI_inc _) (by decide) rfl (fun ls hl => ?_)
              refine lv_goto (tgt := 20) hx hb dX5_meanOf_73 (by decide) ?_
              exact ih20 (y + 1) (s2 + (((J a (fa + z)) * (J b2 (fb + y))) * ((gsP1 st (y * 4 + z)).toInt64))) (by omega) (by omega) (by rw [h2, Int64.add_assoc]; rfl) ls (lv_sub hl [2, 3, 4, 5, 6, 7, 1, 8, 0] rfl)
        exact L20 5 0 sm (by omega) (by omega) (by rw [h1]; exact (Int64.add_zero _).symm) ls (lv_sub hl [1, 2, 3, 4, 5, 6, 7, 8, 0] rfl)
  exact L6 5 0 (0 : Int64) (by omega) (by omega) rfl ls (lv_sub hl [2, 3, 4, 5, 6, 7, 1, 0] rfl)
theorem mn_low {t b t' b' : Int64} {f : Int32} (e1 : t' = t) (e2 : b' = b) (hb : 0 < b.toInt ∧ b.toInt ≤ 156816) (ht : -3136320 ≤ t.toInt ∧ t.toInt ≤ 3136320) : lowS t' b' f = if f = 0 then t / gcdL t b else b / gcdL t b := by
  subst e1 e2
  refine low_gcd hb.1 (by omega) ?_
  have h1 : t'.toInt.natAbs ≤ 3136320 := by omega
  have h2 : b'.toInt.natAbs ≤ 156816 := by omega
  exact Nat.lt_of_le_of_lt (Nat.mul_le_mul h1 h2) (by decide)
theorem tw_b {w : Nat → Int32} {ch : Nat} (hw : wOK w) : ∀ i, i < 4 → 0 ≤ (twS w ch i).toInt ∧ (twS w ch i).toInt ≤ 99 := fun i hi => by
  unfold twS
  split
  · rw [Int32.toInt_toInt64]; exact hw i hi
  · decide
theorem tw_z {w : Nat → Int32} {ch : Nat} : ∀ j, ch ≤ j → j < 4 → twS w ch j = 0 := fun j h1 h2 => by
  unfold twS
  rw [if_neg (by omega)]
theorem sw_b {w : Nat → Int32} {ch : Nat} (hw : wOK w) (hc : ch ≤ 4) (h : ¬ sWm w ch = 0) : 0 < (sWm w ch).toInt64.toInt ∧ (sWm w ch).toInt64.toInt ≤ 396 := by
  have a := wSI_b hw ch hc
  have e := sWm_I hw ch hc
  have n0 : ¬ (sWm w ch).toInt = 0 := fun z => h (by apply Int32.toInt_inj.mp; rw [z, i32_20.2.2.1])
  rw [Int32.toInt_toInt64]
  omega
theorem low_b {a b : Int64} (ha : 0 < a.toInt ∧ a.toInt ≤ 396) (hb : 0 < b.toInt ∧ b.toInt ≤ 396) : 0 < (a * b).toInt ∧ (a * b).toInt ≤ 156816 := by
  have h1 : 0 < a.toInt * b.toInt := Int.mul_pos ha.1 hb.1
  have h2 : a.toInt * b.toInt ≤ 396 * 396 := Int.mul_le_mul ha.2 hb.2 (by omega) (by omega)
  rw [mul_I (by omega) (by omega)]
  omega
/-- the numbers of a mean of the tray -/
def mnTr (w : Nat) (X Y : Nat → Int64) (st : GS) : Int64 := dS (fun i k => X i * Y k * (if w = 0 then gsP0 st (i * 4 + k) else gsP1 st (k * 4 + i)).toInt64) (gsn st) (gsm st)
theorem mn_tray {X Y : Nat → Int64} {st : GS} {w : Nat} (hw : w < 2) (hms : 1 ≤ gsm st ∧ gsm st ≤ 4) (hns : 1 ≤ gsn st ∧ gsn st ≤ 4) (hbd0 : bdP (gsP0 st)) (hbd1 : bdP (gsP1 st)) (hw0 : wOK (gsw0 st)) (hw1 : wOK (gsw1 st)) (h0 : ¬ sWm (gsw0 st) (gsm st) = 0) (h1 : ¬ sWm (gsw1 st) (gsn st) = 0) (hX : ∀ j, j < 4 → X j = twS (gsw0 st) (gsm st) j) (hY : ∀ j, j < 4 → Y j = twS (gsw1 st) (gsn st) j) :
    -4611686018427387904 ≤ (mnTr w X Y st).toInt ∧ 0 < ((sWm (gsw0 st) (gsm st)).toInt64 * (sWm (gsw1 st) (gsn st)).toInt64).toInt ∧ ∀ f, (if w = 0 then mnV (gsP0 st) (gsm st) (gsT0 st) (gsT1 st) f else mnV (gsP1 st) (gsn st) (gsT1 st) (gsT0 st) f) = if f = 0 then mnTr w X Y st / gcdL (mnTr w X Y st) ((sWm (gsw0 st) (gsm st)).toInt64 * (sWm (gsw1 st) (gsn st)).toInt64) else ((sWm (gsw0 st) (gsm st)).toInt64 * (sWm (gsw1 st) (gsn st)).toInt64) / gcdL (mnTr w X Y st) ((sWm (gsw0 st) (gsm st)).toInt64 * (sWm (gsw1 st) (gsn st)).toInt64) := by
  have eT : mnTr w X Y st = mnTr w (twS (gsw0 st) (gsm st)) (twS (gsw1 st) (gsn st)) st := dS_congr _ (fun i k hi hk => by rw [hX i (by omega), hY k (by omega)])
  have lb := low_b (sw_b hw0 hms.2 h0) (sw_b hw1 hns.2 h1)
  have tb := (dm_I (X := twS (gsw0 st) (gsm st)) (Y := twS (gsw1 st) (gsn st)) (p := fun i k => if w = 0 then gsP0 st (i * 4 + k) else gsP1 st (k * 4 + i)) (A := 99) (B := 99) (m := gsm st) (n := gsn st) (by decide) (by decide) hms.2 hns.2 (tw_b hw0) (tw_b hw1) (fun i k hi hk => by
    show -20 ≤ (if w = 0 then gsP0 st (i * 4 + k) else gsP1 st (k * 4 + i)).toInt ∧ _
    split
    · exact bd_int (hbd0 _ (by omega))
    · exact bd_int (hbd1 _ (by omega))) (by decide)).2
  rw [eT]
  have tb' : -3136320 ≤ (mnTr w (twS (gsw0 st) (gsm st)) (twS (gsw1 st) (gsn st)) st).toInt ∧ (mnTr w (twS (gsw0 st) (gsm st)) (twS (gsw1 st) (gsn st)) st).toInt ≤ 3136320 := ⟨by have := tb.1; unfold mnTr; omega, by have := tb.2; unfold mnTr; omega⟩
  refine ⟨by omega, lb.1, fun f => ?_⟩
  rcases (show w = 0 ∨ w = 1 by omega) with rfl | rfl
  · rw [if_pos rfl]
    refine mn_low ?_ ?_ lb tb'
    · exact ms_row hns.2 tw_z
    · show tsum _ 4 * tsum _ 4 = _
      rw [tot_eq hw0 hms.2, tot_eq hw1 hns.2]
  · rw [if_neg (by decide)]
    refine mn_low ?_ ?_ lb tb'
    · exact ms_col hms.2 tw_z
    · show tsum _ 4 * tsum _ 4 = _
      rw [tot_eq hw0 hms.2, tot_eq hw1 hns.2, Int64.mul_comm]
theorem inL_rng {x : Int32} {n : Nat} (hn : n < 2 ^ 31) : inL x.toInt64 0 (nI n).toInt64 = true ↔ ¬ x < nI 0 ∧ ¬ nI n < x := by
  have e0 : (nI 0).toInt = 0 := by decide
  have e1 := nI_toInt hn
  unfold inL
  simp only [Bool.and_eq_true, decide_eq_true_eq, Int64.le_iff_toInt_le, Int32.lt_iff_toInt_lt, Int32.toInt_toInt64, i64_20.2.2, e0, e1]
  omega
theorem inL_out {x : Int32} {n : Nat} (hn : n < 2 ^ 31) (h : inL x.toInt64 0 (nI n).toInt64 = false) : x < nI 0 ∨ nI n < x := by
  by_cases a : x < nI 0
  · exact Or.inl a
  · by_cases b : nI n < x
    · exact Or.inr b
    · rw [(inL_rng hn).mpr ⟨a, b⟩] at h
      cases h
set_option maxHeartbeats 4000000 in
set_option maxRecDepth 100000 in
theorem c_X5_mean (l : Launch) {G : gG} {T : gTy} {I : gI} {J : gJ} {Q : gR} {O : gO} {H : Heap} (hP : gP G T I J Q O H) {h : Nat} {st : GS} {q f : Int32} (hm : isMo T O h) (hs0 : moS I h st) (hbd0 : bdP (gsP0 st)) (hbd1 : bdP (gsP1 st)) (hw0 : wOK (gsw0 st)) (hw1 : wOK (gsw1 st)) : Met l yX5_mean (gw yX5_mean cX5_mean 9 (some (.long))) ({ frames := 1, cells := 0, slots := 0, locals := 29 } : Room) (gPc G H [.ref h, .int q, .int f]) (gQc (gF T H) (fun x H1 => rMean st (fun x1 s1 => x = some (.long x1) ∧ moR G T h s1 H1) q f)) 0 0 (gF T H) := by
  refine g_met [(0, .ref h), (1, .int q), (2, .int f)] (by decide) rfl (by exact Nat.le_of_ble_eq_true rfl) ?_
  intro p e s m below meth c hC hs ls hl
  have hx := hC.1.1
  have hb := hC.1.2.1
  have hS : va_S (gF T H) s.heap H [] := hs ▸ va_S.rf
  have hTA : ∀ q, (T q).1 ≠ 0 → gF T H q := fun q h => Or.inl h
  have hA : ∀ q, s.heap.size ≤ q → gF T H q := fun q h => Or.inr (hs ▸ h)
  generalize hAe : gF T H = A at hS hTA hA ⊢
  have hms := hs0.1
  have hns := hs0.2.1
  refine lv_iload_n hx hb dX5_mean_0 rfl (lv_at hl 1 rfl) ?_
  refine g_cp (g_rS (As := [.int q]) hC (c_X5_isWho l (q := q)) ⟨q3_78, q3_76, q3_77, q1_6⟩ dd_X5_isWho ⟨Nat.le_of_ble_eq_true rfl, Nat.le_of_ble_eq_true rfl, rfl, rfl⟩ hl.1 rfl (Nat.le_of_ble_eq_true rfl) dX5_mean_1 ⟨Nat.le_of_ble_eq_true rfl, Nat.le_of_ble_eq_true rfl⟩) ?_
  refine W.eq (g2 := F0 m 4 ls [.int (gb (isW q))]) rfl ?_
  refine lv_if_ne (tgt := 13) hx hb dX5_mean_4 (by decide) (fun c4 => ?_) (fun c4 => ?_)
  · have c4 := gb_t c4
    refine lv_iload_n hx hb dX5_mean_13 rfl (lv_at hl 2 rfl) ?_
    refine lv_i2l hx hb dX5_mean_14 rfl ?_
    refine lv_lconst (v := 0) hx hb dX5_mean_15 (by decide) ?_
    refine lv_lconst (v := 1) hx hb dX5_mean_16 (by decide) ?_
    refine g_cp (g_rS (As := [.long f.toInt64, .long (0 : Int64), .long (1 : Int64)]) hC (c_X5_in l (a := f.toInt64) (b2 := (0 : Int64)) (d2 := (1 : Int64))) ⟨q3_85, q3_83, q3_84, q1_6⟩ dd_X5_in ⟨Nat.le_of_ble_eq_true rfl, Nat.le_of_ble_eq_true rfl, rfl, rfl⟩ hl.1 rfl (Nat.le_of_ble_eq_true rfl) dX5_mean_17 ⟨Nat.le_of_ble_eq_true rfl, Nat.le_of_ble_eq_true rfl⟩) ?_
    refine W.eq (g2 := F0 m 20 ls [.int (gb (inL f.toInt64 (0 : Int64) (1 : Int64)))]) rfl ?_
    refine lv_if_ne (tgt := 30) hx hb dX5_mean_20 (by decide) (fun c20 => ?_) (fun c20 => ?_)
    · have c20 := gb_t c20
      have c20 := (inL_rng (n := 1) (by decide)).mp c20
      refine lv_aload_n hx hb dX5_mean_30 rfl (lv_at hl 0 rfl) ?_
      refine lv_iconst (v := nI 0) hx hb dX5_mean_31 (by decide) ?_
      refine g_cp (g_rV (As := [.int (nI 0)]) hC hP (c_X5_sumOf_0 l hP (h := h) (by first | assumption | omega) (by first | assumption | omega)) hm.1 rfl ⟨q3_112, q3_109, q3_111, qs_29, q1_6⟩ dd_X5_sumOf ⟨Nat.le_of_ble_eq_true rfl, Nat.le_of_ble_eq_true rfl, rfl, rfl⟩ hl.1 rfl (Nat.le_of_ble_eq_true rfl) dX5_mean_32 ⟨Nat.le_of_ble_eq_true rfl, Nat.le_of_ble_eq_true rfl⟩) ?_
      refine W.eq (g2 := F0 m 35 ls [.int (sWm (gsw0 st) (gsm st))]) rfl ?_
      refine lv_if_eq (tgt := 46) hx hb dX5_mean_35 (by decide) (fun c35 => ?_) (fun c35 => ?_)
      · refine lv_aload_n hx hb dX5_mean_46 rfl (lv_at hl 0 rfl) ?_
        refine lv_bipush (v := (-5)) hx hb dX5_mean_47 (by decide) ?_
        refine g_cc (g_rV (As := [.int (-5 : Int32)]) hC hP (c_X5_refuseGreat l hP (h := h) (q := (-5 : Int32)) (j := 5) (by first | assumption | omega) (by decide) (by omega)) hm.1 rfl ⟨q3_107, q3_104, q3_106, qs_28, q1_6⟩ dd_X5_refuseGreat ⟨Nat.le_of_ble_eq_true rfl, Nat.le_of_ble_eq_true rfl, rfl, rfl⟩ hl.1 rfl (Nat.le_of_ble_eq_true rfl) dX5_mean_49 ⟨Nat.le_of_ble_eq_true rfl, Nat.le_of_ble_eq_true rfl⟩) hS (fun q h => h.elim (hTA q) (fun z => hA q (Nat.le_trans hS.1 z))) (fun r5 H1 locs2 hq6 hS hz3 hfr4 => ?_)
        obtain ⟨rfl, hP⟩ := hq6
        obtain ⟨I7, hI7, hP⟩ : ∃ I7 : gI, I7 = au I (h + 4) 5 (I (h + 4) 5 + 1) ∧ gP G T I7 J Q O H1 := ⟨_, rfl, hP⟩
        refine W.eq (g2 := F0 m 52 ls [.long (4000000000000000000 - (-5 : Int32).toInt64)]) rfl ?_
        refine g_retcl hC hS ?_ dX5_mean_52
        exact Or.inr (Or.inr (Or.inl ⟨c20.1, c20.2, c4, (by first | exact Or.inl ((tot_0 hw0 (by omega)).mpr c35) | exact Or.inr ((tot_0 hw1 (by omega)).mpr c43)), rfl, mo_ref hm hs0 (j := 5) (by decide) hI7 hP⟩))
      · refine lv_aload_n hx hb dX5_mean_38 rfl (lv_at hl 0 rfl) ?_
        refine lv_iconst (v := nI 1) hx hb dX5_mean_39 (by decide) ?_
        refine g_cp (g_rV (As := [.int (nI 1)]) hC hP (c_X5_sumOf_1 l hP (h := h) (by first | assumption | omega) (by first | assumption | omega)) hm.1 rfl ⟨q3_112, q3_109, q3_111, qs_29, q1_6⟩ dd_X5_sumOf ⟨Nat.le_of_ble_eq_true rfl, Nat.le_of_ble_eq_true rfl, rfl, rfl⟩ hl.1 rfl (Nat.le_of_ble_eq_true rfl) dX5_mean_40 ⟨Nat.le_of_ble_eq_true rfl, Nat.le_of_ble_eq_true rfl⟩) ?_
        refine W.eq (g2 := F0 m 43 ls [.int (sWm (gsw1 st) (gsn st))]) rfl ?_
        refine lv_if_ne (tgt := 53) hx hb dX5_mean_43 (by decide) (fun c43 => ?_) (fun c43 => ?_)
        · refine lv_aload_n hx hb dX5_mean_53 rfl (lv_at hl 0 rfl) ?_
          refine g_cc (g_rV (As := []) hC hP (c_X5_showTray l hP (h := h) (by first | assumption | omega) (by first | assumption | omega)) hm.1 rfl ⟨q3_116, q3_113, q3_115, qs_30, q1_6⟩ dd_X5_showTray ⟨Nat.le_of_ble_eq_true rfl, Nat.le_of_ble_eq_true rfl, rfl, rfl⟩ hl.1 rfl (Nat.le_of_ble_eq_true rfl) dX5_mean_54 ⟨Nat.le_of_ble_eq_true rfl, Nat.le_of_ble_eq_true rfl⟩) hS (fun q h => h.elim (hTA q) (fun z => hA q (Nat.le_trans hS.1 z))) (fun r12 H8 locs9 hq13 hS hz10 hfr11 => ?_)
          obtain ⟨rfl, hP⟩ := hq13
          obtain ⟨J14, hJ14, hP⟩ : ∃ X : gJ, X = gu (gu J (h + 5) (trayX (J (h + 5)) (gsw0 st) (gsm st) 4)) (h + 6) (trayX (J (h + 6)) (gsw1 st) (gsn st) 4) ∧ gP G T I X Q O H8 := ⟨_, rfl, hP⟩
          refine W.eq (g2 := F0 m 57 ls []) rfl ?_
          rcases isW_c c4 with rfl | rfl
          · refine lv_aload_n hx hb dX5_mean_57 rfl (lv_at hl 0 rfl) ?_
            refine lv_iload_n hx hb dX5_mean_58 rfl (lv_at hl 1 rfl) ?_
            refine lv_aload_n hx hb dX5_mean_59 rfl (lv_at hl 0 rfl) ?_
            refine g_get hC hP hm.1 rfl inX5 4 (by decide) q3_10 hm.2.2.2.2.2.1.1 dX5_mean_60 ?_
            refine lv_iconst (v := nI 0) hx hb dX5_mean_63 (by decide) ?_
            refine lv_aload_n hx hb dX5_mean_64 rfl (lv_at hl 0 rfl) ?_
            refine g_get hC hP hm.1 rfl inX5 5 (by decide) q3_11 hm.2.2.2.2.2.2.1.1 dX5_mean_65 ?_
            refine lv_iconst (v := nI 0) hx hb dX5_mean_68 (by decide) ?_
            refine g_cp (g_rV (As := [.int (nI 0), .ref (h + 5), .int (nI 0), .ref (h + 6), .int (nI 0)]) hC hP (c_X5_meanOf_0 l hP (h := h) (a := h + 5) (b2 := h + 6) (fa := 0) (fb := 0) (la := 4) (lb := 4) (by first | assumption | omega) (by first | assumption | omega) hm.2.2.2.2.2.1.2 hm.2.2.2.2.2.2.1.2 (by first | assumption | omega) (by first | assumption | omega) (by first | assumption | omega) (by first | assumption | omega)) hm.1 rfl ⟨q3_120, q3_117, q3_119, qs_31, q1_6⟩ dd_X5_meanOf ⟨Nat.le_of_ble_eq_true rfl, Nat.le_of_ble_eq_true rfl, rfl, rfl⟩ hl.1 rfl (Nat.le_of_ble_eq_true rfl) dX5_mean_69 ⟨Nat.le_of_ble_eq_true rfl, Nat.le_of_ble_eq_true rfl⟩) ?_
            refine W.eq (g2 := F0 m 72 ls [.long (dS (fun i k => J14 (h + 5) (0 + i) * J14 (h + 6) (0 + k) * (gsP0 st (i * 4 + k)).toInt64) (gsn st) (gsm st))]) rfl ?_
            refine lv_lstore_n (lv' := [(3, .long (dS (fun i k => J14 (h + 5) (0 + i) * J14 (h + 6) (0 + k) * (gsP0 st (i * 4 + k)).toInt64) (gsn st) (gsm st))), (0, .ref h), (1, .int (nI 0)), (2, .int f)]) hx hb dX5_mean_72 rfl hl (by decide) rfl (fun ls hl => ?_)
            refine lv_aload_n hx hb dX5_mean_73 rfl (lv_at hl 1 rfl) ?_
            refine lv_iconst (v := nI 0) hx hb dX5_mean_74 (by decide) ?_
            refine g_cp (g_rV (As := [.int (nI 0)]) hC hP (c_X5_sumOf_0 l hP (h := h) (by first | assumption | omega) (by first | assumption | omega)) hm.1 rfl ⟨q3_112, q3_109, q3_111, qs_29, q1_6⟩ dd_X5_sumOf ⟨Nat.le_of_ble_eq_true rfl, Nat.le_of_ble_eq_true rfl, rfl, rfl⟩ hl.1 rfl (Nat.le_of_ble_eq_true rfl) dX5_mean_75 ⟨Nat.le_of_ble_eq_true rfl, Nat.le_of_ble_eq_true rfl⟩) ?_
            refine W.eq (g2 := F0 m 78 ls [.int (sWm (gsw0 st) (gsm st))]) rfl ?_
            refine lv_i2l hx hb dX5_mean_78 rfl ?_
            refine lv_aload_n hx hb dX5_mean_79 rfl (lv_at hl 1 rfl) ?_
            refine lv_iconst (v := nI 1) hx hb dX5_mean_80 (by decide) ?_
            refine g_cp (g_rV (As := [.int (nI 1)]) hC hP (c_X5_sumOf_1 l hP (h := h) (by first | assumption | omega) (by first | assumption | omega)) hm.1 rfl ⟨q3_112, q3_109, q3_111, qs_29, q1_6⟩ dd_X5_sumOf ⟨Nat.le_of_ble_eq_true rfl, Nat.le_of_ble_eq_true rfl, rfl, rfl⟩ hl.1 rfl (Nat.le_of_ble_eq_true rfl) dX5_mean_81 ⟨Nat.le_of_ble_eq_true rfl, Nat.le_of_ble_eq_true rfl⟩) ?_
            refine W.eq (g2 := F0 m 84 ls [.int (sWm (gsw1 st) (gsn st)), .long ((sWm (gsw0 st) (gsm st)).toInt64)]) rfl ?_
            refine lv_i2l hx hb dX5_mean_84 rfl ?_
            refine lv_lmul hx hb dX5_mean_85 ?_
            refine lv_lstore (lv' := [(5, .long (((sWm (gsw0 st) (gsm st)).toInt64) * ((sWm (gsw1 st) (gsn st)).toInt64))), (3, .long (dS (fun i k => J14 (h + 5) (0 + i) * J14 (h + 6) (0 + k) * (gsP0 st (i * 4 + k)).toInt64) (gsn st) (gsm st))), (0, .ref h), (1, .int (nI 0)), (2, .int f)]) hx hb dX5_mean_86 hl (by decide) rfl (fun ls hl => ?_)
            have hX : ∀ j, j < 4 → J14 (h + 5) (0 + j) = twS (gsw0 st) (gsm st) j := fun j hj => by rw [Nat.zero_add, hJ14, gu_ne _ _ (by omega), gu_eq]; exact tr_tw j hj
            have hY : ∀ j, j < 4 → J14 (h + 6) (0 + j) = twS (gsw1 st) (gsn st) j := fun j hj => by rw [Nat.zero_add, hJ14, gu_eq]; exact tr_tw j hj
            obtain ⟨k1, k2, k3⟩ := mn_tray (w := 0) (X := fun j => J14 (h + 5) (0 + j)) (Y := fun j => J14 (h + 6) (0 + j)) (by decide) hms hns hbd0 hbd1 hw0 hw1 c35 c43 hX hY
            refine lv_lload_n hx hb dX5_mean_88 rfl (lv_at hl 1 rfl) ?_
            refine lv_lload hx hb dX5_mean_89 (lv_at hl 0 rfl) ?_
            refine g_cp (g_rS (As := [.long (dS (fun i k => J14 (h + 5) (0 + i) * J14 (h + 6) (0 + k) * (gsP0 st (i * 4 + k)).toInt64) (gsn st) (gsm st)), .long (((sWm (gsw0 st) (gsm st)).toInt64) * ((sWm (gsw1 st) (gsn st)).toInt64))]) hC (c_X5_common l (a := dS (fun i k => J14 (h + 5) (0 + i) * J14 (h + 6) (0 + k) * (gsP0 st (i * 4 + k)).toInt64) (gsn st) (gsm st)) (b2 := ((sWm (gsw0 st) (gsm st)).toInt64) * ((sWm (gsw1 st) (gsn st)).toInt64)) k1 (Int.le_of_lt k2)) ⟨q3_123, q3_121, q3_122, q1_6⟩ dd_X5_common ⟨Nat.le_of_ble_eq_true rfl, Nat.le_of_ble_eq_true rfl, rfl, rfl⟩ hl.1 rfl (Nat.le_of_ble_eq_true rfl) dX5_mean_91 ⟨Nat.le_of_ble_eq_true rfl, Nat.le_of_ble_eq_true rfl⟩) ?_
            refine W.eq (g2 := F0 m 94 ls [.long (gcdL (dS (fun i k => J14 (h + 5) (0 + i) * J14 (h + 6) (0 + k) * (gsP0 st (i * 4 + k)).toInt64) (gsn st) (gsm st)) (((sWm (gsw0 st) (gsm st)).toInt64) * ((sWm (gsw1 st) (gsn st)).toInt64)))]) rfl ?_
            refine lv_lstore (lv' := [(7, .long (gcdL (dS (fun i k => J14 (h + 5) (0 + i) * J14 (h + 6) (0 + k) * (gsP0 st (i * 4 + k)).toInt64) (gsn st) (gsm st)) (((sWm (gsw0 st) (gsm st)).toInt64) * ((sWm (gsw1 st) (gsn st)).toInt64)))), (5, .long (((sWm (gsw0 st) (gsm st)).toInt64) * ((sWm (gsw1 st) (gsn st)).toInt64))), (3, .long (dS (fun i k => J14 (h + 5) (0 + i) * J14 (h + 6) (0 + k) * (gsP0 st (i * 4 + k)).toInt64) (gsn st) (gsm st))), (0, .ref h), (1, .int (nI 0)), (2, .int f)]) hx hb dX5_mean_94 hl (by decide) rfl (fun ls hl => ?_)
            refine lv_iload_n hx hb dX5_mean_96 rfl (lv_at hl 5 rfl) ?_
            refine lv_if_ne (tgt := 107) hx hb dX5_mean_97 (by decide) (fun c97 => ?_) (fun c97 => ?_)
            · refine lv_lload hx hb dX5_mean_107 (lv_at hl 1 rfl) ?_
              refine lv_lload hx hb dX5_mean_109 (lv_at hl 0 rfl) ?_
              refine lv_ldiv hx hb dX5_mean_111 (gcdL_ne k2) ?_
              refine g_retcl hC hS ?_ dX5_mean_112
              refine Or.inr (Or.inr (Or.inr ⟨c20.1, c20.2, mt (tot_0 hw0 (by omega)).mp c35, mt (tot_0 hw1 (by omega)).mp c43, Or.inl ⟨rfl, ?_, mo_same hm hs0 hP⟩⟩))
              have k4 := k3 f
              first | rw [if_pos c97] at k4 | rw [if_neg c97] at k4
              exact congrArg (fun x => some (Value.long x)) k4.symm
            · refine lv_lload_n hx hb dX5_mean_100 rfl (lv_at hl 2 rfl) ?_
              refine lv_lload hx hb dX5_mean_101 (lv_at hl 0 rfl) ?_
              refine lv_ldiv hx hb dX5_mean_103 (gcdL_ne k2) ?_
              refine lv_goto (tgt := 112) hx hb dX5_mean_104 (by decide) ?_
              refine g_retcl hC hS ?_ dX5_mean_112
              refine Or.inr (Or.inr (Or.inr ⟨c20.1, c20.2, mt (tot_0 hw0 (by omega)).mp c35, mt (tot_0 hw1 (by omega)).mp c43, Or.inl ⟨rfl, ?_, mo_same hm hs0 hP⟩⟩))
              have k4 := k3 f
              first | rw [if_pos c97] at k4 | rw [if_neg c97] at k4
              exact congrArg (fun x => some (Value.long x)) k4.symm
          · refine lv_aload_n hx hb dX5_mean_57 rfl (lv_at hl 0 rfl) ?_
            refine lv_iload_n hx hb dX5_mean_58 rfl (lv_at hl 1 rfl) ?_
            refine lv_aload_n hx hb dX5_mean_59 rfl (lv_at hl 0 rfl) ?_
            refine g_get hC hP hm.1 rfl inX5 4 (by decide) q3_10 hm.2.2.2.2.2.1.1 dX5_mean_60 ?_
            refine lv_iconst (v := nI 0) hx hb dX5_mean_63 (by decide) ?_
            refine lv_aload_n hx hb dX5_mean_64 rfl (lv_at hl 0 rfl) ?_
            refine g_get hC hP hm.1 rfl inX5 5 (by decide) q3_11 hm.2.2.2.2.2.2.1.1 dX5_mean_65 ?_
            refine lv_iconst (v := nI 0) hx hb dX5_mean_68 (by decide) ?_
            refine g_cp (g_rV (As := [.int (nI 1), .ref (h + 5), .int (nI 0), .ref (h + 6), .int (nI 0)]) hC hP (c_X5_meanOf_1 l hP (h := h) (a := h + 5) (b2 := h + 6) (fa := 0) (fb := 0) (la := 4) (lb := 4) (by first | assumption | omega) (by first | assumption | omega) hm.2.2.2.2.2.1.2 hm.2.2.2.2.2.2.1.2 (by first | assumption | omega) (by first | assumption | omega) (by first | assumption | omega) (by first | assumption | omega)) hm.1 rfl ⟨q3_120, q3_117, q3_119, qs_31, q1_6⟩ dd_X5_meanOf ⟨Nat.le_of_ble_eq_true rfl, Nat.le_of_ble_eq_true rfl, rfl, rfl⟩ hl.1 rfl (Nat.le_of_ble_eq_true rfl) dX5_mean_69 ⟨Nat.le_of_ble_eq_true rfl, Nat.le_of_ble_eq_true rfl⟩) ?_
            refine W.eq (g2 := F0 m 72 ls [.long (dS (fun i k => J14 (h + 5) (0 + i) * J14 (h + 6) (0 + k) * (gsP1 st (k * 4 + i)).toInt64) (gsn st) (gsm st))]) rfl ?_
            refine lv_lstore_n (lv' := [(3, .long (dS (fun i k => J14 (h + 5) (0 + i) * J14 (h + 6) (0 + k) * (gsP1 st (k * 4 + i)).toInt64) (gsn st) (gsm st))), (0, .ref h), (1, .int (nI 1)), (2, .int f)]) hx hb dX5_mean_72 rfl hl (by decide) rfl (fun ls hl => ?_)
            refine lv_aload_n hx hb dX5_mean_73 rfl (lv_at hl 1 rfl) ?_
            refine lv_iconst (v := nI 0) hx hb dX5_mean_74 (by decide) ?_
            refine g_cp (g_rV (As := [.int (nI 0)]) hC hP (c_X5_sumOf_0 l hP (h := h) (by first | assumption | omega) (by first | assumption | omega)) hm.1 rfl ⟨q3_112, q3_109, q3_111, qs_29, q1_6⟩ dd_X5_sumOf ⟨Nat.le_of_ble_eq_true rfl, Nat.le_of_ble_eq_true rfl, rfl, rfl⟩ hl.1 rfl (Nat.le_of_ble_eq_true rfl) dX5_mean_75 ⟨Nat.le_of_ble_eq_true rfl, Nat.le_of_ble_eq_true rfl⟩) ?_
            refine W.eq (g2 := F0 m 78 ls [.int (sWm (gsw0 st) (gsm st))]) rfl ?_
            refine lv_i2l hx hb dX5_mean_78 rfl ?_
            refine lv_aload_n hx hb dX5_mean_79 rfl (lv_at hl 1 rfl) ?_
            refine lv_iconst (v := nI 1) hx hb dX5_mean_80 (by decide) ?_
            refine g_cp (g_rV (As := [.int (nI 1)]) hC hP (c_X5_sumOf_1 l hP (h := h) (by first | assumption | omega) (by first | assumption | omega)) hm.1 rfl ⟨q3_112, q3_109, q3_111, qs_29, q1_6⟩ dd_X5_sumOf ⟨Nat.le_of_ble_eq_true rfl, Nat.le_of_ble_eq_true rfl, rfl, rfl⟩ hl.1 rfl (Nat.le_of_ble_eq_true rfl) dX5_mean_81 ⟨Nat.le_of_ble_eq_true rfl, Nat.le_of_ble_eq_true rfl⟩) ?_
            refine W.eq (g2 := F0 m 84 ls [.int (sWm (gsw1 st) (gsn st)), .long ((sWm (gsw0 st) (gsm st)).toInt64)]) rfl ?_
            refine lv_i2l hx hb dX5_mean_84 rfl ?_
            refine lv_lmul hx hb dX5_mean_85 ?_
            refine lv_lstore (lv' := [(5, .long (((sWm (gsw0 st) (gsm st)).toInt64) * ((sWm (gsw1 st) (gsn st)).toInt64))), (3, .long (dS (fun i k => J14 (h + 5) (0 + i) * J14 (h + 6) (0 + k) * (gsP1 st (k * 4 + i)).toInt64) (gsn st) (gsm st))), (0, .ref h), (1, .int (nI 1)), (2, .int f)]) hx hb dX5_mean_86 hl (by decide) rfl (fun ls hl => ?_)
            have hX : ∀ j, j < 4 → J14 (h + 5) (0 + j) = twS (gsw0 st) (gsm st) j := fun j hj => by rw [Nat.zero_add, hJ14, gu_ne _ _ (by omega), gu_eq]; exact tr_tw j hj
            have hY : ∀ j, j < 4 → J14 (h + 6) (0 + j) = twS (gsw1 st) (gsn st) j := fun j hj => by rw [Nat.zero_add, hJ14, gu_eq]; exact tr_tw j hj
            obtain ⟨k1, k2, k3⟩ := mn_tray (w := 1) (X := fun j => J14 (h + 5) (0 + j)) (Y := fun j => J14 (h + 6) (0 + j)) (by decide) hms hns hbd0 hbd1 hw0 hw1 c35 c43 hX hY
            refine lv_lload_n hx hb dX5_mean_88 rfl (lv_at hl 1 rfl) ?_
            refine lv_lload hx hb dX5_mean_89 (lv_at hl 0 rfl) ?_
            refine g_cp (g_rS (As := [.long (dS (fun i k => J14 (h + 5) (0 + i) * J14 (h + 6) (0 + k) * (gsP1 st (k * 4 + i)).toInt64) (gsn st) (gsm st)), .long (((sWm (gsw0 st) (gsm st)).toInt64) * ((sWm (gsw1 st) (gsn st)).toInt64))]) hC (c_X5_common l (a := dS (fun i k => J14 (h + 5) (0 + i) * J14 (h + 6) (0 + k) * (gsP1 st (k * 4 + i)).toInt64) (gsn st) (gsm st)) (b2 := ((sWm (gsw0 st) (gsm st)).toInt64) * ((sWm (gsw1 st) (gsn st)).toInt64)) k1 (Int.le_of_lt k2)) ⟨q3_123, q3_121, q3_122, q1_6⟩ dd_X5_common ⟨Nat.le_of_ble_eq_true rfl, Nat.le_of_ble_eq_true rfl, rfl, rfl⟩ hl.1 rfl (Nat.le_of_ble_eq_true rfl) dX5_mean_91 ⟨Nat.le_of_ble_eq_true rfl, Nat.le_of_ble_eq_true rfl⟩) ?_
            refine W.eq (g2 := F0 m 94 ls [.long (gcdL (dS (fun i k => J14 (h + 5) (0 + i) * J14 (h + 6) (0 + k) * (gsP1 st (k * 4 + i)).toInt64) (gsn st) (gsm st)) (((sWm (gsw0 st) (gsm st)).toInt64) * ((sWm (gsw1 st) (gsn st)).toInt64)))]) rfl ?_
            refine lv_lstore (lv' := [(7, .long (gcdL (dS (fun i k => J14 (h + 5) (0 + i) * J14 (h + 6) (0 + k) * (gsP1 st (k * 4 + i)).toInt64) (gsn st) (gsm st)) (((sWm (gsw0 st) (gsm st)).toInt64) * ((sWm (gsw1 st) (gsn st)).toInt64)))), (5, .long (((sWm (gsw0 st) (gsm st)).toInt64) * ((sWm (gsw1 st) (gsn st)).toInt64))), (3, .long (dS (fun i k => J14 (h + 5) (0 + i) * J14 (h + 6) (0 + k) * (gsP1 st (k * 4 + i)).toInt64) (gsn st) (gsm st))), (0, .ref h), (1, .int (nI 1)), (2, .int f)]) hx hb dX5_mean_94 hl (by decide) rfl (fun ls hl => ?_)
            refine lv_iload_n hx hb dX5_mean_96 rfl (lv_at hl 5 rfl) ?_
            refine lv_if_ne (tgt := 107) hx hb dX5_mean_97 (by decide) (fun c97 => ?_) (fun c97 => ?_)
            · refine lv_lload hx hb dX5_mean_107 (lv_at hl 1 rfl) ?_
              refine lv_lload hx hb dX5_mean_109 (lv_at hl 0 rfl) ?_
              refine lv_ldiv hx hb dX5_mean_111 (gcdL_ne k2) ?_
              refine g_retcl hC hS ?_ dX5_mean_112
              refine Or.inr (Or.inr (Or.inr ⟨c20.1, c20.2, mt (tot_0 hw0 (by omega)).mp c35, mt (tot_0 hw1 (by omega)).mp c43, Or.inr ⟨rfl, ?_, mo_same hm hs0 hP⟩⟩))
              have k4 := k3 f
              first | rw [if_pos c97] at k4 | rw [if_neg c97] at k4
              exact congrArg (fun x => some (Value.long x)) k4.symm
            · refine lv_lload_n hx hb dX5_mean_100 rfl (lv_at hl 2 rfl) ?_
              refine lv_lload hx hb dX5_mean_101 (lv_at hl 0 rfl) ?_
              refine lv_ldiv hx hb dX5_mean_103 (gcdL_ne k2) ?_
              refine lv_goto (tgt := 112) hx hb dX5_mean_104 (by decide) ?_
              refine g_retcl hC hS ?_ dX5_mean_112
              refine Or.inr (Or.inr (Or.inr ⟨c20.1, c20.2, mt (tot_0 hw0 (by omega)).mp c35, mt (tot_0 hw1 (by omega)).mp c43, Or.inr ⟨rfl, ?_, mo_same hm hs0 hP⟩⟩))
              have k4 := k3 f
              first | rw [if_pos c97] at k4 | rw [if_neg c97] at k4
              exact congrArg (fun x => some (Value.long x)) k4.symm
        · refine lv_aload_n hx hb dX5_mean_46 rfl (lv_at hl 0 rfl) ?_
          refine lv_bipush (v := (-5)) hx hb dX5_mean_47 (by decide) ?_
          refine g_cc (g_rV (As := [.int (-5 : Int32)]) hC hP (c_X5_refuseGreat l hP (h := h) (q := (-5 : Int32)) (j := 5) (by first | assumption | omega) (by decide) (by omega)) hm.1 rfl ⟨q3_107, q3_104, q3_106, qs_28, q1_6⟩ dd_X5_refuseGreat ⟨Nat.le_of_ble_eq_true rfl, Nat.le_of_ble_eq_true rfl, rfl, rfl⟩ hl.1 rfl (Nat.le_of_ble_eq_true rfl) dX5_mean_49 ⟨Nat.le_of_ble_eq_true rfl, Nat.le_of_ble_eq_true rfl⟩) hS (fun q h => h.elim (hTA q) (fun z => hA q (Nat.le_trans hS.1 z))) (fun r19 H15 locs16 hq20 hS hz17 hfr18 => ?_)
          obtain ⟨rfl, hP⟩ := hq20
          obtain ⟨I21, hI21, hP⟩ : ∃ I21 : gI, I21 = au I (h + 4) 5 (I (h + 4) 5 + 1) ∧ gP G T I21 J Q O H15 := ⟨_, rfl, hP⟩
          refine W.eq (g2 := F0 m 52 ls [.long (4000000000000000000 - (-5 : Int32).toInt64)]) rfl ?_
          refine g_retcl hC hS ?_ dX5_mean_52
          exact Or.inr (Or.inr (Or.inl ⟨c20.1, c20.2, c4, (by first | exact Or.inl ((tot_0 hw0 (by omega)).mpr c35) | exact Or.inr ((tot_0 hw1 (by omega)).mpr c43)), rfl, mo_ref hm hs0 (j := 5) (by decide) hI21 hP⟩))
    · have c20 := gb_f c20
      have c20 := inL_out (n := 1) (by decide) c20
      refine lv_aload_n hx hb dX5_mean_23 rfl (lv_at hl 0 rfl) ?_
      refine lv_bipush (v := (-2)) hx hb dX5_mean_24 (by decide) ?_
      refine g_cc (g_rV (As := [.int (-2 : Int32)]) hC hP (c_X5_refuseGreat l hP (h := h) (q := (-2 : Int32)) (j := 2) (by first | assumption | omega) (by decide) (by omega)) hm.1 rfl ⟨q3_107, q3_104, q3_106, qs_28, q1_6⟩ dd_X5_refuseGreat ⟨Nat.le_of_ble_eq_true rfl, Nat.le_of_ble_eq_true rfl, rfl, rfl⟩ hl.1 rfl (Nat.le_of_ble_eq_true rfl) dX5_mean_26 ⟨Nat.le_of_ble_eq_true rfl, Nat.le_of_ble_eq_true rfl⟩) hS (fun q h => h.elim (hTA q) (fun z => hA q (Nat.le_trans hS.1 z))) (fun r26 H22 locs23 hq27 hS hz24 hfr25 => ?_)
      obtain ⟨rfl, hP⟩ := hq27
      obtain ⟨I28, hI28, hP⟩ : ∃ I28 : gI, I28 = au I (h + 4) 2 (I (h + 4) 2 + 1) ∧ gP G T I28 J Q O H22 := ⟨_, rfl, hP⟩
      refine W.eq (g2 := F0 m 29 ls [.long (4000000000000000000 - (-2 : Int32).toInt64)]) rfl ?_
      refine g_retcl hC hS ?_ dX5_mean_29
      exact Or.inr (Or.inl ⟨c4, c20, rfl, mo_ref hm hs0 (j := 2) (by decide) hI28 hP⟩)
  · have c4 := gb_f c4
    refine lv_aload_n hx hb dX5_mean_7 rfl (lv_at hl 0 rfl) ?_
    refine lv_iconst (v := (-1)) hx hb dX5_mean_8 (by decide) ?_
    refine g_cc (g_rV (As := [.int (-1 : Int32)]) hC hP (c_X5_refuseGreat l hP (h := h) (q := (-1 : Int32)) (j := 1) (by first | assumption | omega) (by decide) (by omega)) hm.1 rfl ⟨q3_107, q3_104, q3_106, qs_28, q1_6⟩ dd_X5_refuseGreat ⟨Nat.le_of_ble_eq_true rfl, Nat.le_of_ble_eq_true rfl, rfl, rfl⟩ hl.1 rfl (Nat.le_of_ble_eq_true rfl) dX5_mean_9 ⟨Nat.le_of_ble_eq_true rfl, Nat.le_of_ble_eq_true rfl⟩) hS (fun q h => h.elim (hTA q) (fun z => hA q (Nat.le_trans hS.1 z))) (fun r33 H29 locs30 hq34 hS hz31 hfr32 => ?_)
    obtain ⟨rfl, hP⟩ := hq34
    obtain ⟨I35, hI35, hP⟩ : ∃ I35 : gI, I35 = au I (h + 4) 1 (I (h + 4) 1 + 1) ∧ gP G T I35 J Q O H29 := ⟨_, rfl, hP⟩
    refine W.eq (g2 := F0 m 12 ls [.long (4000000000000000000 - (-1 : Int32).toInt64)]) rfl ?_
    refine g_retcl hC hS ?_ dX5_mean_12
    exact Or.inl ⟨c4, rfl, mo_ref hm hs0 (j := 1) (by decide) hI35 hP⟩
