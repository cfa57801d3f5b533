/-! ===== the reference: kindOf, told, balance ===== -/
theorem popc_4 {u : Nat} (hu : u < 16) : popc u ≤ 4 := by
  have q : ∀ u, u < 16 → popc u ≤ 4 := by decide +kernel
  exact q u hu
theorem g_rem2b {k : Nat} (h : k < 7) : (nI k - nI k / nI 2 * nI 2) = nI (k % 2) := by
  have q : ∀ k, k < 7 → (nI k - nI k / nI 2 * nI 2) = nI (k % 2) := by decide +kernel
  exact q k h
def tolV (st : GS) (v w : MixV) (j l k : Nat) : Int64 := if k = 0 then (nI j).toInt64 else if k = 1 then (nI l).toInt64 else if k = 2 then (nI (kindV (gsm st) (gsn st) v w)).toInt64 else if k < 5 then mnV (gsP0 st) (gsm st) v w (nI (k - 3)) else mnV (gsP1 st) (gsn st) w v (nI (k - 5))
theorem rSI_sc {u v : Nat → Int} {D : Int} : ∀ n, (∀ k, k < n → u k = D * v k) → rSI u n = D * rSI v n
  | 0, _ => by show (0 : Int) = D * 0; rw [Int.mul_zero]
  | n + 1, h => by
    show rSI u n + u n = D * (rSI v n + v n)
    rw [rSI_sc n (fun k hk => h k (by omega)), h n (by omega), Int.mul_add]
theorem dSI_sc {u v : Nat → Nat → Int} {D : Int} {n : Nat} : ∀ m, (∀ i k, i < m → k < n → u i k = D * v i k) → dSI u n m = D * dSI v n m
  | 0, _ => by show (0 : Int) = D * 0; rw [Int.mul_zero]
  | m + 1, h => by
    show dSI u n m + rSI (u m) n = D * (dSI v n m + rSI (v m) n)
    rw [dSI_sc m (fun i k hi hk => h i k (by omega) hk), rSI_sc n (fun k hk => h m k (by omega) hk), Int.mul_add]
/-- a mean of two corners out of reduced shares -/
theorem mn_bal {v w : MixV} {X Y : Nat → Int64} {a b : Int64} {p : Nat → Nat → Int32} {m n : Nat} {f : Int32} {t' l' : Int64} (hv : vG v) (hw : vG w) (hx : rdV v X a) (hy : rdV w Y b) (hp : ∀ i k, i < 4 → k < 4 → -20 ≤ (p i k).toInt ∧ (p i k).toInt ≤ 20) (hm : m ≤ 4) (hn : n ≤ 4) (e1 : t' = dS (fun i k => v.1 i * w.1 k * (p i k).toInt64) n m) (e2 : l' = v.2.1 * w.2.1) :
    -4611686018427387904 ≤ (dS (fun i k => X i * Y k * (p i k).toInt64) n m).toInt ∧ 0 < (a * b).toInt ∧ lowS t' l' f = if f = 0 then dS (fun i k => X i * Y k * (p i k).toInt64) n m / gcdL (dS (fun i k => X i * Y k * (p i k).toInt64) n m) (a * b) else (a * b) / gcdL (dS (fun i k => X i * Y k * (p i k).toInt64) n m) (a * b) := by
  have tv := vG_t hv
  have tw := vG_t hw
  have bx := rd_b hv hx
  have by9 := rd_b hw hy
  obtain ⟨d1, d2, d3⟩ := dm_I (A := 384000) (B := 384000) (m := m) (n := n) (by decide) (by decide) hm hn hv.1 hw.1 hp (by decide)
  obtain ⟨g1, g2, g3⟩ := dm_I (A := 384000) (B := 384000) (m := m) (n := n) (by decide) (by decide) hm hn bx.1 by9.1 hp (by decide)
  have pm : ∀ x y : Int64, (0 < x.toInt ∧ x.toInt ≤ 1536000) → (0 < y.toInt ∧ y.toInt ≤ 1536000) → (x * y).toInt = x.toInt * y.toInt ∧ 0 < (x * y).toInt ∧ (x * y).toInt ≤ 2359296000000 := fun x y h1 h2 => by
    have q1 : 0 < x.toInt * y.toInt := Int.mul_pos h1.1 h2.1
    have q2 : x.toInt * y.toInt ≤ 1536000 * 1536000 := Int.mul_le_mul h1.2 h2.2 (by omega) (by decide)
    rw [mul_I (by omega) (by omega)]
    exact ⟨rfl, q1, by omega⟩
  have l1 := pm _ _ tv tw
  have l2 := pm _ _ bx.2 by9.2
  refine ⟨by omega, l2.2.1, ?_⟩
  obtain ⟨D, hD, h1, h2⟩ := hx
  obtain ⟨E, hE, h3, h4⟩ := hy
  subst e1 e2
  refine low_sc (D := D * E) (Int.mul_pos hD hE) ?_ ?_ l2.2.1 (by omega) ?_
  · rw [d1, g1]
    refine dSI_sc m (fun i k hi hk => ?_)
    rw [h1 i (by omega), h3 k (by omega)]
    ac_rfl
  · rw [l1.1, l2.1, h2, h4, Int.mul_assoc D, Int.mul_left_comm a.toInt E, Int.mul_assoc D E]
  · have q1 : (dS (fun i k => v.1 i * w.1 k * (p i k).toInt64) n m).toInt.natAbs ≤ 320 * (384000 * 384000) := by omega
    have q2 : (v.2.1 * w.2.1).toInt.natAbs ≤ 2359296000000 := by omega
    exact Nat.lt_of_le_of_lt (Nat.mul_le_mul q1 q2) (by decide)
theorem mn_bal0 {st : GS} {v w : MixV} {X Y : Nat → Int64} {a b : Int64} {k : Nat} (hv : vG v) (hw : vG w) (hz : ∀ j, gsn st ≤ j → j < 4 → w.1 j = 0) (hx : rdV v X a) (hy : rdV w Y b) (hb : bdP (gsP0 st)) (hm : 1 ≤ gsm st ∧ gsm st ≤ 4) (hn : 1 ≤ gsn st ∧ gsn st ≤ 4) : -4611686018427387904 ≤ (dS (fun i k => X i * Y k * (gsP0 st (i * 4 + k)).toInt64) (gsn st) (gsm st)).toInt ∧ 0 < (a * b).toInt ∧ mnV (gsP0 st) (gsm st) v w (nI k) = if nI k = 0 then dS (fun i k => X i * Y k * (gsP0 st (i * 4 + k)).toInt64) (gsn st) (gsm st) / gcdL (dS (fun i k => X i * Y k * (gsP0 st (i * 4 + k)).toInt64) (gsn st) (gsm st)) (a * b) else (a * b) / gcdL (dS (fun i k => X i * Y k * (gsP0 st (i * 4 + k)).toInt64) (gsn st) (gsm st)) (a * b) :=
  mn_bal hv hw hx hy (p := fun i k => gsP0 st (i * 4 + k)) (fun i k hi hk => bd_int (hb _ (by omega))) hm.2 hn.2 (ms_row hn.2 hz) rfl
theorem mn_bal1 {st : GS} {v w : MixV} {X Y : Nat → Int64} {a b : Int64} {k : Nat} (hv : vG v) (hw : vG w) (hz : ∀ j, gsm st ≤ j → j < 4 → v.1 j = 0) (hx : rdV v X a) (hy : rdV w Y b) (hb : bdP (gsP1 st)) (hm : 1 ≤ gsm st ∧ gsm st ≤ 4) (hn : 1 ≤ gsn st ∧ gsn st ≤ 4) : -4611686018427387904 ≤ (dS (fun i k => X i * Y k * (gsP1 st (k * 4 + i)).toInt64) (gsn st) (gsm st)).toInt ∧ 0 < (a * b).toInt ∧ mnV (gsP1 st) (gsn st) w v (nI k) = if nI k = 0 then dS (fun i k => X i * Y k * (gsP1 st (k * 4 + i)).toInt64) (gsn st) (gsm st) / gcdL (dS (fun i k => X i * Y k * (gsP1 st (k * 4 + i)).toInt64) (gsn st) (gsm st)) (a * b) else (a * b) / gcdL (dS (fun i k => X i * Y k * (gsP1 st (k * 4 + i)).toInt64) (gsn st) (gsm st)) (a * b) :=
  mn_bal hv hw hx hy (p := fun i k => gsP1 st (k * 4 + i)) (fun i k hi hk => bd_int (hb _ (by omega))) hm.2 hn.2 (ms_col hm.2 hz) (Int64.mul_comm _ _)
theorem bal_end {s : GS} {L : Int64 → GS → Prop} {v w : MixV} {j l k : Nat} (hk : k ≤ 6) (h : L (tolV s v w j l k) s) : rBal1 s L v w j l (nI k) := by
  rcases (show k = 0 ∨ k = 1 ∨ k = 2 ∨ k = 3 ∨ k = 4 ∨ k = 5 ∨ k = 6 by omega) with rfl | rfl | rfl | rfl | rfl | rfl | rfl
  · exact Or.inr (Or.inl ⟨rfl, h⟩)
  · exact Or.inr (Or.inr (Or.inl ⟨rfl, h⟩))
  · exact Or.inr (Or.inr (Or.inr (Or.inl ⟨rfl, h⟩)))
  · exact Or.inr (Or.inr (Or.inr (Or.inr (Or.inl ⟨Or.inl rfl, h⟩))))
  · exact Or.inr (Or.inr (Or.inr (Or.inr (Or.inl ⟨Or.inr rfl, h⟩))))
  · exact Or.inr (Or.inr (Or.inr (Or.inr (Or.inr ⟨by decide, h⟩))))
  · exact Or.inr (Or.inr (Or.inr (Or.inr (Or.inr ⟨by decide, h⟩))))
set_option maxHeartbeats 4000000 in
set_option maxRecDepth 100000 in
theorem c_X5_kindOf (l : Launch) {G : gG} {T : gTy} {I : gI} {J : gJ} {Q : gR} {O : gO} {H : Heap} (hP : gP G T I J Q O H) {h : Nat} {st : GS} {a9 b9 : Nat} {Cr Cd : CL} (hm : isMo T O h) (hs0 : moS I h st) (hcr0 : crR I J h 0 Cr) (hcr1 : crR I J h 1 Cd) (hk0 : cOK Cr) (hk1 : cOK Cd) (h690 : Cr.1 ≤ 69) (h691 : Cd.1 ≤ 69) (ha9 : a9 < Cr.1) (hb9 : b9 < Cd.1) : Met l yX5_kindOf (gw yX5_kindOf cX5_kindOf 5 (some (.int))) ({ frames := 1, cells := 0, slots := 0, locals := 20 } : Room) (gPc G H [.ref h, .int (nI a9), .int (nI b9)]) (gQp (some (.int (nI (kindV (gsm st) (gsn st) (Cr.2 a9) (Cd.2 b9)))))) 0 0 (fun _ => False) := by
  refine g_met [(0, .ref h), (1, .int (nI a9)), (2, .int (nI b9))] (by decide) rfl (by exact Nat.le_of_ble_eq_true rfl) ?_
  intro p e s m below meth c hC hs ls hl
  have hx := hC.1.1
  have hb := hC.1.2.1
  have hms := hs0.1
  have hns := hs0.2.1
  have v0 := hk0 a9 ha9
  have v1 := hk1 b9 hb9
  have b1 := v0.1
  have b2 := v0.2
  have b3 := v1.1
  have b4 := v1.2
  have l1 := Nat.and_le_left (n := (Cr.2 a9).2.2.1) (m := (Cd.2 b9).2.2.2)
  have l2 := Nat.and_le_left (n := (Cd.2 b9).2.2.1) (m := (Cr.2 a9).2.2.2)
  have pp1 := popc_4 b1
  have pp2 := popc_4 b3
  refine lv_aload_n hx hb dX5_kindOf_0 rfl (lv_at hl 0 rfl) ?_
  refine g_get hC hP hm.1 rfl inX5 12 (by decide) q3_18 hm.2.2.2.2.2.2.2.2.2.2.1.1 dX5_kindOf_1 ?_
  refine lv_iload_n hx hb dX5_kindOf_4 rfl (lv_at hl 1 rfl) ?_
  refine g_iald hC hP hm.2.2.2.2.2.2.2.2.2.2.1.2 (vp_in_nI (by omega) (by decide)) dX5_kindOf_5 ?_
  refine g_topi (y := nI ((Cr.2 a9).2.2.1)) ((congrArg (I (h + 10)) (nI_clamp (by omega))).trans (by have q := (hcr0.2 a9 ha9).2.1; rw [show 80 * 0 + a9 = a9 from by omega] at q; exact q)) ?_
  refine lv_istore_n (lv' := [(3, .int (nI ((Cr.2 a9).2.2.1))), (0, .ref h), (1, .int (nI a9)), (2, .int (nI b9))]) hx hb dX5_kindOf_6 rfl hl (by decide) rfl (fun ls hl => ?_)
  refine lv_aload_n hx hb dX5_kindOf_7 rfl (lv_at hl 1 rfl) ?_
  refine g_get hC hP hm.1 rfl inX5 12 (by decide) q3_18 hm.2.2.2.2.2.2.2.2.2.2.1.1 dX5_kindOf_8 ?_
  refine lv_bipush (v := nI 80) hx hb dX5_kindOf_11 (by decide) ?_
  refine lv_iload_n hx hb dX5_kindOf_13 rfl (lv_at hl 3 rfl) ?_
  refine lv_iadd hx hb dX5_kindOf_14 ?_
  refine g_topi (y := nI (80 + b9)) (nI_add _ _) ?_
  refine g_iald hC hP hm.2.2.2.2.2.2.2.2.2.2.1.2 (vp_in_nI (by omega) (by decide)) dX5_kindOf_15 ?_
  refine g_topi (y := nI ((Cd.2 b9).2.2.1)) ((congrArg (I (h + 10)) (nI_clamp (by omega))).trans ((hcr1.2 b9 hb9).2.1)) ?_
  refine lv_istore (lv' := [(4, .int (nI ((Cd.2 b9).2.2.1))), (3, .int (nI ((Cr.2 a9).2.2.1))), (0, .ref h), (1, .int (nI a9)), (2, .int (nI b9))]) hx hb dX5_kindOf_16 hl (by decide) rfl (fun ls hl => ?_)
  refine lv_iload_n hx hb dX5_kindOf_18 rfl (lv_at hl 1 rfl) ?_
  refine g_cp (g_rS (As := [.int (nI ((Cr.2 a9).2.2.1))]) hC (c_X5_manyIn l (u := (Cr.2 a9).2.2.1) (by first | assumption | omega)) ⟨q3_190, q3_188, q3_189, q1_6⟩ dd_X5_manyIn ⟨Nat.le_of_ble_eq_true rfl, Nat.le_of_ble_eq_true rfl, rfl, rfl⟩ hl.1 rfl (Nat.le_of_ble_eq_true rfl) dX5_kindOf_19 ⟨Nat.le_of_ble_eq_true rfl, Nat.le_of_ble_eq_true rfl⟩) ?_
  refine W.eq (g2 := F0 m 22 ls [.int (nI (popc ((Cr.2 a9).2.2.1)))]) rfl ?_
  refine lv_iconst (v := nI 1) hx hb dX5_kindOf_22 (by decide) ?_
  refine lv_icmp_ne (tgt := 65) hx hb dX5_kindOf_23 (by decide) (fun c23 => ?_) (fun c23 => ?_)
  · have c23 := mt (nI_eq (by omega) (by omega)).mpr c23
    refine lv_iload_n hx hb dX5_kindOf_65 rfl (lv_at hl 1 rfl) ?_
    refine g_cp (g_rS (As := [.int (nI ((Cr.2 a9).2.2.1))]) hC (c_X5_manyIn l (u := (Cr.2 a9).2.2.1) (by first | assumption | omega)) ⟨q3_190, q3_188, q3_189, q1_6⟩ dd_X5_manyIn ⟨Nat.le_of_ble_eq_true rfl, Nat.le_of_ble_eq_true rfl, rfl, rfl⟩ hl.1 rfl (Nat.le_of_ble_eq_true rfl) dX5_kindOf_66 ⟨Nat.le_of_ble_eq_true rfl, Nat.le_of_ble_eq_true rfl⟩) ?_
    refine W.eq (g2 := F0 m 69 ls [.int (nI (popc ((Cr.2 a9).2.2.1)))]) rfl ?_
    refine lv_aload_n hx hb dX5_kindOf_69 rfl (lv_at hl 2 rfl) ?_
    refine g_get hC hP hm.1 rfl inX5 0 (by decide) q3_6 hm.2.1.1 dX5_kindOf_70 ?_
    refine lv_iconst (v := nI 0) hx hb dX5_kindOf_73 (by decide) ?_
    refine g_iald hC hP hm.2.1.2 (vp_in_nI (by omega) (by decide)) dX5_kindOf_74 ?_
    refine g_topi (y := nI (gsm st)) hs0.2.2.1 ?_
    refine lv_icmp_ne (tgt := 94) hx hb dX5_kindOf_75 (by decide) (fun c75 => ?_) (fun c75 => ?_)
    · have c75 := mt (nI_eq (by omega) (by omega)).mpr c75
      refine lv_iload_n hx hb dX5_kindOf_94 rfl (lv_at hl 1 rfl) ?_
      refine g_cp (g_rS (As := [.int (nI ((Cr.2 a9).2.2.1))]) hC (c_X5_manyIn l (u := (Cr.2 a9).2.2.1) (by first | assumption | omega)) ⟨q3_190, q3_188, q3_189, q1_6⟩ dd_X5_manyIn ⟨Nat.le_of_ble_eq_true rfl, Nat.le_of_ble_eq_true rfl, rfl, rfl⟩ hl.1 rfl (Nat.le_of_ble_eq_true rfl) dX5_kindOf_95 ⟨Nat.le_of_ble_eq_true rfl, Nat.le_of_ble_eq_true rfl⟩) ?_
      refine W.eq (g2 := F0 m 98 ls [.int (nI (popc ((Cr.2 a9).2.2.1)))]) rfl ?_
      refine lv_iload hx hb dX5_kindOf_98 (lv_at hl 0 rfl) ?_
      refine g_cp (g_rS (As := [.int (nI ((Cd.2 b9).2.2.1))]) hC (c_X5_manyIn l (u := (Cd.2 b9).2.2.1) (by first | assumption | omega)) ⟨q3_190, q3_188, q3_189, q1_6⟩ dd_X5_manyIn ⟨Nat.le_of_ble_eq_true rfl, Nat.le_of_ble_eq_true rfl, rfl, rfl⟩ hl.1 rfl (Nat.le_of_ble_eq_true rfl) dX5_kindOf_100 ⟨Nat.le_of_ble_eq_true rfl, Nat.le_of_ble_eq_true rfl⟩) ?_
      refine W.eq (g2 := F0 m 103 ls [.int (nI (popc ((Cd.2 b9).2.2.1))), .int (nI (popc ((Cr.2 a9).2.2.1)))]) rfl ?_
      refine lv_icmp_ne (tgt := 110) hx hb dX5_kindOf_103 (by decide) (fun c103 => ?_) (fun c103 => ?_)
      · have c103 := mt (nI_eq (by omega) (by omega)).mpr c103
        refine lv_iconst (v := nI 0) hx hb dX5_kindOf_110 (by decide) ?_
        refine g_reti hC hs ?_ dX5_kindOf_111
        show nI 0 = nI (kindV (gsm st) (gsn st) (Cr.2 a9) (Cd.2 b9)); unfold kindV; rw [if_neg (fun e => by first | exact c23 e.1 | exact c32 e.2), if_neg (fun e => by first | exact c75 e.1 | exact c89 e.2), if_neg c103]
      · have c103 := (nI_eq (by omega) (by omega)).mp c103
        refine lv_iconst (v := nI 1) hx hb dX5_kindOf_106 (by decide) ?_
        refine lv_goto (tgt := 111) hx hb dX5_kindOf_107 (by decide) ?_
        refine g_reti hC hs ?_ dX5_kindOf_111
        show nI 1 = nI (kindV (gsm st) (gsn st) (Cr.2 a9) (Cd.2 b9)); unfold kindV; rw [if_neg (fun e => by first | exact c23 e.1 | exact c32 e.2), if_neg (fun e => by first | exact c75 e.1 | exact c89 e.2), if_pos c103]
    · have c75 := (nI_eq (by omega) (by omega)).mp c75
      refine lv_iload hx hb dX5_kindOf_78 (lv_at hl 0 rfl) ?_
      refine g_cp (g_rS (As := [.int (nI ((Cd.2 b9).2.2.1))]) hC (c_X5_manyIn l (u := (Cd.2 b9).2.2.1) (by first | assumption | omega)) ⟨q3_190, q3_188, q3_189, q1_6⟩ dd_X5_manyIn ⟨Nat.le_of_ble_eq_true rfl, Nat.le_of_ble_eq_true rfl, rfl, rfl⟩ hl.1 rfl (Nat.le_of_ble_eq_true rfl) dX5_kindOf_80 ⟨Nat.le_of_ble_eq_true rfl, Nat.le_of_ble_eq_true rfl⟩) ?_
      refine W.eq (g2 := F0 m 83 ls [.int (nI (popc ((Cd.2 b9).2.2.1)))]) rfl ?_
      refine lv_aload_n hx hb dX5_kindOf_83 rfl (lv_at hl 2 rfl) ?_
      refine g_get hC hP hm.1 rfl inX5 0 (by decide) q3_6 hm.2.1.1 dX5_kindOf_84 ?_
      refine lv_iconst (v := nI 1) hx hb dX5_kindOf_87 (by decide) ?_
      refine g_iald hC hP hm.2.1.2 (vp_in_nI (by omega) (by decide)) dX5_kindOf_88 ?_
      refine g_topi (y := nI (gsn st)) hs0.2.2.2.1 ?_
      refine lv_icmp_ne (tgt := 94) hx hb dX5_kindOf_89 (by decide) (fun c89 => ?_) (fun c89 => ?_)
      · have c89 := mt (nI_eq (by omega) (by omega)).mpr c89
        refine lv_iload_n hx hb dX5_kindOf_94 rfl (lv_at hl 1 rfl) ?_
        refine g_cp (g_rS (As := [.int (nI ((Cr.2 a9).2.2.1))]) hC (c_X5_manyIn l (u := (Cr.2 a9).2.2.1) (by first | assumption | omega)) ⟨q3_190, q3_188, q3_189, q1_6⟩ dd_X5_manyIn ⟨Nat.le_of_ble_eq_true rfl, Nat.le_of_ble_eq_true rfl, rfl, rfl⟩ hl.1 rfl (Nat.le_of_ble_eq_true rfl) dX5_kindOf_95 ⟨Nat.le_of_ble_eq_true rfl, Nat.le_of_ble_eq_true rfl⟩) ?_
        refine W.eq (g2 := F0 m 98 ls [.int (nI (popc ((Cr.2 a9).2.2.1)))]) rfl ?_
        refine lv_iload hx hb dX5_kindOf_98 (lv_at hl 0 rfl) ?_
        refine g_cp (g_rS (As := [.int (nI ((Cd.2 b9).2.2.1))]) hC (c_X5_manyIn l (u := (Cd.2 b9).2.2.1) (by first | assumption | omega)) ⟨q3_190, q3_188, q3_189, q1_6⟩ dd_X5_manyIn ⟨Nat.le_of_ble_eq_true rfl, Nat.le_of_ble_eq_true rfl, rfl, rfl⟩ hl.1 rfl (Nat.le_of_ble_eq_true rfl) dX5_kindOf_100 ⟨Nat.le_of_ble_eq_true rfl, Nat.le_of_ble_eq_true rfl⟩) ?_
        refine W.eq (g2 := F0 m 103 ls [.int (nI (popc ((Cd.2 b9).2.2.1))), .int (nI (popc ((Cr.2 a9).2.2.1)))]) rfl ?_
        refine lv_icmp_ne (tgt := 110) hx hb dX5_kindOf_103 (by decide) (fun c103 => ?_) (fun c103 => ?_)
        · have c103 := mt (nI_eq (by omega) (by omega)).mpr c103
          refine lv_iconst (v := nI 0) hx hb dX5_kindOf_110 (by decide) ?_
          refine g_reti hC hs ?_ dX5_kindOf_111
          show nI 0 = nI (kindV (gsm st) (gsn st) (Cr.2 a9) (Cd.2 b9)); unfold kindV; rw [if_neg (fun e => by first | exact c23 e.1 | exact c32 e.2), if_neg (fun e => by first | exact c75 e.1 | exact c89 e.2), if_neg c103]
        · have c103 := (nI_eq (by omega) (by omega)).mp c103
          refine lv_iconst (v := nI 1) hx hb dX5_kindOf_106 (by decide) ?_
          refine lv_goto (tgt := 111) hx hb dX5_kindOf_107 (by decide) ?_
          refine g_reti hC hs ?_ dX5_kindOf_111
          show nI 1 = nI (kindV (gsm st) (gsn st) (Cr.2 a9) (Cd.2 b9)); unfold kindV; rw [if_neg (fun e => by first | exact c23 e.1 | exact c32 e.2), if_neg (fun e => by first | exact c75 e.1 | exact c89 e.2), if_pos c103]
      · have c89 := (nI_eq (by omega) (by omega)).mp c89
        refine lv_iconst (v := nI 2) hx hb dX5_kindOf_92 (by decide) ?_
        refine g_reti hC hs ?_ dX5_kindOf_93
        show nI 2 = nI (kindV (gsm st) (gsn st) (Cr.2 a9) (Cd.2 b9)); unfold kindV; rw [if_neg (fun e => by first | exact c23 e.1 | exact c32 e.2), if_pos ⟨c75, c89⟩]
  · have c23 := (nI_eq (by omega) (by omega)).mp c23
    refine lv_iload hx hb dX5_kindOf_26 (lv_at hl 0 rfl) ?_
    refine g_cp (g_rS (As := [.int (nI ((Cd.2 b9).2.2.1))]) hC (c_X5_manyIn l (u := (Cd.2 b9).2.2.1) (by first | assumption | omega)) ⟨q3_190, q3_188, q3_189, q1_6⟩ dd_X5_manyIn ⟨Nat.le_of_ble_eq_true rfl, Nat.le_of_ble_eq_true rfl, rfl, rfl⟩ hl.1 rfl (Nat.le_of_ble_eq_true rfl) dX5_kindOf_28 ⟨Nat.le_of_ble_eq_true rfl, Nat.le_of_ble_eq_true rfl⟩) ?_
    refine W.eq (g2 := F0 m 31 ls [.int (nI (popc ((Cd.2 b9).2.2.1)))]) rfl ?_
    refine lv_iconst (v := nI 1) hx hb dX5_kindOf_31 (by decide) ?_
    refine lv_icmp_ne (tgt := 65) hx hb dX5_kindOf_32 (by decide) (fun c32 => ?_) (fun c32 => ?_)
    · have c32 := mt (nI_eq (by omega) (by omega)).mpr c32
      refine lv_iload_n hx hb dX5_kindOf_65 rfl (lv_at hl 1 rfl) ?_
      refine g_cp (g_rS (As := [.int (nI ((Cr.2 a9).2.2.1))]) hC (c_X5_manyIn l (u := (Cr.2 a9).2.2.1) (by first | assumption | omega)) ⟨q3_190, q3_188, q3_189, q1_6⟩ dd_X5_manyIn ⟨Nat.le_of_ble_eq_true rfl, Nat.le_of_ble_eq_true rfl, rfl, rfl⟩ hl.1 rfl (Nat.le_of_ble_eq_true rfl) dX5_kindOf_66 ⟨Nat.le_of_ble_eq_true rfl, Nat.le_of_ble_eq_true rfl⟩) ?_
      refine W.eq (g2 := F0 m 69 ls [.int (nI (popc ((Cr.2 a9).2.2.1)))]) rfl ?_
      refine lv_aload_n hx hb dX5_kindOf_69 rfl (lv_at hl 2 rfl) ?_
      refine g_get hC hP hm.1 rfl inX5 0 (by decide) q3_6 hm.2.1.1 dX5_kindOf_70 ?_
      refine lv_iconst (v := nI 0) hx hb dX5_kindOf_73 (by decide) ?_
      refine g_iald hC hP hm.2.1.2 (vp_in_nI (by omega) (by decide)) dX5_kindOf_74 ?_
      refine g_topi (y := nI (gsm st)) hs0.2.2.1 ?_
      refine lv_icmp_ne (tgt := 94) hx hb dX5_kindOf_75 (by decide) (fun c75 => ?_) (fun c75 => ?_)
      · have c75 := mt (nI_eq (by omega) (by omega)).mpr c75
        refine lv_iload_n hx hb dX5_kindOf_94 rfl (lv_at hl 1 rfl) ?_
        refine g_cp (g_rS (As := [.int (nI ((Cr.2 a9).2.2.1))]) hC (c_X5_manyIn l (u := (Cr.2 a9).2.2.1) (by first | assumption | omega)) ⟨q3_190, q3_188, q3_189, q1_6⟩ dd_X5_manyIn ⟨Nat.le_of_ble_eq_true rfl, Nat.le_of_ble_eq_true rfl, rfl, rfl⟩ hl.1 rfl (Nat.le_of_ble_eq_true rfl) dX5_kindOf_95 ⟨Nat.le_of_ble_eq_true rfl, Nat.le_of_ble_eq_true rfl⟩) ?_
        refine W.eq (g2 := F0 m 98 ls [.int (nI (popc ((Cr.2 a9).2.2.1)))]) rfl ?_
        refine lv_iload hx hb dX5_kindOf_98 (lv_at hl 0 rfl) ?_
        refine g_cp (g_rS (As := [.int (nI ((Cd.2 b9).2.2.1))]) hC (c_X5_manyIn l (u := (Cd.2 b9).2.2.1) (by first | assumption | omega)) ⟨q3_190, q3_188, q3_189, q1_6⟩ dd_X5_manyIn ⟨Nat.le_of_ble_eq_true rfl, Nat.le_of_ble_eq_true rfl, rfl, rfl⟩ hl.1 rfl (Nat.le_of_ble_eq_true rfl) dX5_kindOf_100 ⟨Nat.le_of_ble_eq_true rfl, Nat.le_of_ble_eq_true rfl⟩) ?_
        refine W.eq (g2 := F0 m 103 ls [.int (nI (popc ((Cd.2 b9).2.2.1))), .int (nI (popc ((Cr.2 a9).2.2.1)))]) rfl ?_
        refine lv_icmp_ne (tgt := 110) hx hb dX5_kindOf_103 (by decide) (fun c103 => ?_) (fun c103 => ?_)
        · have c103 := mt (nI_eq (by omega) (by omega)).mpr c103
          refine lv_iconst (v := nI 0) hx hb dX5_kindOf_110 (by decide) ?_
          refine g_reti hC hs ?_ dX5_kindOf_111
          show nI 0 = nI (kindV (gsm st) (gsn st) (Cr.2 a9) (Cd.2 b9)); unfold kindV; rw [if_neg (fun e => by first | exact c23 e.1 | exact c32 e.2), if_neg (fun e => by first | exact c75 e.1 | exact c89 e.2), if_neg c103]
        · have c103 := (nI_eq (by omega) (by omega)).mp c103
          refine lv_iconst (v := nI 1) hx hb dX5_kindOf_106 (by decide) ?_
          refine lv_goto (tgt := 111) hx hb dX5_kindOf_107 (by decide) ?_
          refine g_reti hC hs ?_ dX5_kindOf_111
          show nI 1 = nI (kindV (gsm st) (gsn st) (Cr.2 a9) (Cd.2 b9)); unfold kindV; rw [if_neg (fun e => by first | exact c23 e.1 | exact c32 e.2), if_neg (fun e => by first | exact c75 e.1 | exact c89 e.2), if_pos c103]
      · have c75 := (nI_eq (by omega) (by omega)).mp c75
        refine lv_iload hx hb dX5_kindOf_78 (lv_at hl 0 rfl) ?_
        refine g_cp (g_rS (As := [.int (nI ((Cd.2 b9).2.2.1))]) hC (c_X5_manyIn l (u := (Cd.2 b9).2.2.1) (by first | assumption | omega)) ⟨q3_190, q3_188, q3_189, q1_6⟩ dd_X5_manyIn ⟨Nat.le_of_ble_eq_true rfl, Nat.le_of_ble_eq_true rfl, rfl, rfl⟩ hl.1 rfl (Nat.le_of_ble_eq_true rfl) dX5_kindOf_80 ⟨Nat.le_of_ble_eq_true rfl, Nat.le_of_ble_eq_true rfl⟩) ?_
        refine W.eq (g2 := F0 m 83 ls [.int (nI (popc ((Cd.2 b9).2.2.1)))]) rfl ?_
        refine lv_aload_n hx hb dX5_kindOf_83 rfl (lv_at hl 2 rfl) ?_
        refine g_get hC hP hm.1 rfl inX5 0 (by decide) q3_6 hm.2.1.1 dX5_kindOf_84 ?_
        refine lv_iconst (v := nI 1) hx hb dX5_kindOf_87 (by decide) ?_
        refine g_iald hC hP hm.2.1.2 (vp_in_nI (by omega) (by decide)) dX5_kindOf_88 ?_
        refine g_topi (y := nI (gsn st)) hs0.2.2.2.1 ?_
        refine lv_icmp_ne (tgt := 94) hx hb dX5_kindOf_89 (by decide) (fun c89 => ?_) (fun c89 => ?_)
        · have c89 := mt (nI_eq (by omega) (by omega)).mpr c89
          refine lv_iload_n hx hb dX5_kindOf_94 rfl (lv_at hl 1 rfl) ?_
          refine g_cp (g_rS (As := [.int (nI ((Cr.2 a9).2.2.1))]) hC (c_X5_manyIn l (u := (Cr.2 a9).2.2.1) (by first | assumption | omega)) ⟨q3_190, q3_188, q3_189, q1_6⟩ dd_X5_manyIn ⟨Nat.le_of_ble_eq_true rfl, Nat.le_of_ble_eq_true rfl, rfl, rfl⟩ hl.1 rfl (Nat.le_of_ble_eq_true rfl) dX5_kindOf_95 ⟨Nat.le_of_ble_eq_true rfl, Nat.le_of_ble_eq_true rfl⟩) ?_
          refine W.eq (g2 := F0 m 98 ls [.int (nI (popc ((Cr.2 a9).2.2.1)))]) rfl ?_
          refine lv_iload hx hb dX5_kindOf_98 (lv_at hl 0 rfl) ?_
          refine g_cp (g_rS (As := [.int (nI ((Cd.2 b9).2.2.1))]) hC (c_X5_manyIn l (u := (Cd.2 b9).2.2.1) (by first | assumption | omega)) ⟨q3_190, q3_188, q3_189, q1_6⟩ dd_X5_manyIn ⟨Nat.le_of_ble_eq_true rfl, Nat.le_of_ble_eq_true rfl, rfl, rfl⟩ hl.1 rfl (Nat.le_of_ble_eq_true rfl) dX5_kindOf_100 ⟨Nat.le_of_ble_eq_true rfl, Nat.le_of_ble_eq_true rfl⟩) ?_
          refine W.eq (g2 := F0 m 103 ls [.int (nI (popc ((Cd.2 b9).2.2.1))), .int (nI (popc ((Cr.2 a9).2.2.1)))]) rfl ?_
          refine lv_icmp_ne (tgt := 110) hx hb dX5_kindOf_103 (by decide) (fun c103 => ?_) (fun c103 => ?_)
          · have c103 := mt (nI_eq (by omega) (by omega)).mpr c103
            refine lv_iconst (v := nI 0) hx hb dX5_kindOf_110 (by decide) ?_
            refine g_reti hC hs ?_ dX5_kindOf_111
            show nI 0 = nI (kindV (gsm st) (gsn st) (Cr.2 a9) (Cd.2 b9)); unfold kindV; rw [if_neg (fun e => by first | exact c23 e.1 | exact c32 e.2), if_neg (fun e => by first | exact c75 e.1 | exact c89 e.2), if_neg c103]
          · have c103 := (nI_eq (by omega) (by omega)).mp c103
            refine lv_iconst (v := nI 1) hx hb dX5_kindOf_106 (by decide) ?_
            refine lv_goto (tgt := 111) hx hb dX5_kindOf_107 (by decide) ?_
            refine g_reti hC hs ?_ dX5_kindOf_111
            show nI 1 = nI (kindV (gsm st) (gsn st) (Cr.2 a9) (Cd.2 b9)); unfold kindV; rw [if_neg (fun e => by first | exact c23 e.1 | exact c32 e.2), if_neg (fun e => by first | exact c75 e.1 | exact c89 e.2), if_pos c103]
        · have c89 := (nI_eq (by omega) (by omega)).mp c89
          refine lv_iconst (v := nI 2) hx hb dX5_kindOf_92 (by decide) ?_
          refine g_reti hC hs ?_ dX5_kindOf_93
          show nI 2 = nI (kindV (gsm st) (gsn st) (Cr.2 a9) (Cd.2 b9)); unfold kindV; rw [if_neg (fun e => by first | exact c23 e.1 | exact c32 e.2), if_pos ⟨c75, c89⟩]
    · have c32 := (nI_eq (by omega) (by omega)).mp c32
      refine lv_aload_n hx hb dX5_kindOf_35 rfl (lv_at hl 2 rfl) ?_
      refine g_get hC hP hm.1 rfl inX5 13 (by decide) q3_19 hm.2.2.2.2.2.2.2.2.2.2.2.1.1 dX5_kindOf_36 ?_
      refine lv_bipush (v := nI 80) hx hb dX5_kindOf_39 (by decide) ?_
      refine lv_iload_n hx hb dX5_kindOf_41 rfl (lv_at hl 4 rfl) ?_
      refine lv_iadd hx hb dX5_kindOf_42 ?_
      refine g_topi (y := nI (80 + b9)) (nI_add _ _) ?_
      refine g_iald hC hP hm.2.2.2.2.2.2.2.2.2.2.2.1.2 (vp_in_nI (by omega) (by decide)) dX5_kindOf_43 ?_
      refine g_topi (y := nI ((Cd.2 b9).2.2.2)) ((congrArg (I (h + 11)) (nI_clamp (by omega))).trans ((hcr1.2 b9 hb9).2.2)) ?_
      refine lv_iload_n hx hb dX5_kindOf_44 rfl (lv_at hl 1 rfl) ?_
      refine lv_icmp_ne (tgt := 63) hx hb dX5_kindOf_45 (by decide) (fun c45 => ?_) (fun c45 => ?_)
      · have c45 := mt (nI_eq (by omega) (by omega)).mpr c45
        refine lv_iconst (v := nI 3) hx hb dX5_kindOf_63 (by decide) ?_
        refine g_reti hC hs ?_ dX5_kindOf_64
        show nI 3 = nI (kindV (gsm st) (gsn st) (Cr.2 a9) (Cd.2 b9)); unfold kindV; rw [if_pos ⟨c23, c32⟩, if_neg]; rintro ⟨e1, e2⟩; first | exact c45 e1.symm | exact c56 e2.symm
      · have c45 := (nI_eq (by omega) (by omega)).mp c45
        refine lv_aload_n hx hb dX5_kindOf_48 rfl (lv_at hl 2 rfl) ?_
        refine g_get hC hP hm.1 rfl inX5 13 (by decide) q3_19 hm.2.2.2.2.2.2.2.2.2.2.2.1.1 dX5_kindOf_49 ?_
        refine lv_iload_n hx hb dX5_kindOf_52 rfl (lv_at hl 3 rfl) ?_
        refine g_iald hC hP hm.2.2.2.2.2.2.2.2.2.2.2.1.2 (vp_in_nI (by omega) (by decide)) dX5_kindOf_53 ?_
        refine g_topi (y := nI ((Cr.2 a9).2.2.2)) ((congrArg (I (h + 11)) (nI_clamp (by omega))).trans (by have q := (hcr0.2 a9 ha9).2.2; rw [show 80 * 0 + a9 = a9 from by omega] at q; exact q)) ?_
        refine lv_iload hx hb dX5_kindOf_54 (lv_at hl 0 rfl) ?_
        refine lv_icmp_ne (tgt := 63) hx hb dX5_kindOf_56 (by decide) (fun c56 => ?_) (fun c56 => ?_)
        · have c56 := mt (nI_eq (by omega) (by omega)).mpr c56
          refine lv_iconst (v := nI 3) hx hb dX5_kindOf_63 (by decide) ?_
          refine g_reti hC hs ?_ dX5_kindOf_64
          show nI 3 = nI (kindV (gsm st) (gsn st) (Cr.2 a9) (Cd.2 b9)); unfold kindV; rw [if_pos ⟨c23, c32⟩, if_neg]; rintro ⟨e1, e2⟩; first | exact c45 e1.symm | exact c56 e2.symm
        · have c56 := (nI_eq (by omega) (by omega)).mp c56
          refine lv_iconst (v := nI 4) hx hb dX5_kindOf_59 (by decide) ?_
          refine lv_goto (tgt := 64) hx hb dX5_kindOf_60 (by decide) ?_
          refine g_reti hC hs ?_ dX5_kindOf_64
          show nI 4 = nI (kindV (gsm st) (gsn st) (Cr.2 a9) (Cd.2 b9)); unfold kindV; rw [if_pos ⟨c23, c32⟩, if_pos ⟨c45.symm, c56.symm⟩]
set_option maxHeartbeats 4000000 in
set_option maxRecDepth 100000 in
theorem c_X5_told (l : Launch) {G : gG} {T : gTy} {I : gI} {J : gJ} {Q : gR} {O : gO} {H : Heap} (hP : gP G T I J Q O H) {h : Nat} {st : GS} {a9 b9 k9 : Nat} {Cr Cd : CL} (hm : isMo T O h) (hs0 : moS I h st) (hbd0 : bdP (gsP0 st)) (hbd1 : bdP (gsP1 st)) (hcr0 : crR I J h 0 Cr) (hcr1 : crR I J h 1 Cd) (hk0 : cOK Cr) (hk1 : cOK Cd) (h690 : Cr.1 ≤ 69) (h691 : Cd.1 ≤ 69) (ha9 : a9 < Cr.1) (hb9 : b9 < Cd.1) (hl0 : LG (gsP1 st) (gsn st) (gsm st) Cr) (hl1 : LG (gsP0 st) (gsm st) (gsn st) Cd) (hk9 : k9 ≤ 6) : Met l yX5_told (gw yX5_told cX5_told 10 (some (.long))) ({ frames := 2, cells := 0, slots := 0, locals := 44 } : Room) (gPc G H [.ref h, .int (nI a9), .int (nI b9), .int (nI k9)]) (gQp (some (.long (tolV st (Cr.2 a9) (Cd.2 b9) a9 b9 k9)))) 0 0 (fun _ => False) := by
  refine g_met [(0, .ref h), (1, .int (nI a9)), (2, .int (nI b9)), (3, .int (nI k9))] (by decide) rfl (by exact Nat.le_of_ble_eq_true rfl) ?_
  intro p e s m below meth c hC hs ls hl
  have hx := hC.1.1
  have hb := hC.1.2.1
  have hms := hs0.1
  have hns := hs0.2.1
  refine lv_iload_n hx hb dX5_told_0 rfl (lv_at hl 3 rfl) ?_
  refine lv_iconst (v := nI 3) hx hb dX5_told_1 (by decide) ?_
  refine lv_icmp_ge (tgt := 32) hx hb dX5_told_2 (by decide) (fun c2 => ?_) (fun c2 => ?_)
  · have c2 := (nI_leI (by omega) (by omega)).mp c2
    refine lv_aload_n hx hb dX5_told_32 rfl (lv_at hl 0 rfl) ?_
    refine lv_iload_n hx hb dX5_told_33 rfl (lv_at hl 3 rfl) ?_
    refine lv_iconst (v := nI 5) hx hb dX5_told_34 (by decide) ?_
    refine lv_icmp_ge (tgt := 42) hx hb dX5_told_35 (by decide) (fun c35 => ?_) (fun c35 => ?_)
    · have c35 := (nI_leI (by omega) (by omega)).mp c35
      refine lv_iconst (v := nI 1) hx hb dX5_told_42 (by decide) ?_
      refine lv_aload_n hx hb dX5_told_43 rfl (lv_at hl 0 rfl) ?_
      refine g_get hC hP hm.1 rfl inX5 10 (by decide) q3_16 hm.2.2.2.2.2.2.2.2.1.1 dX5_told_44 ?_
      refine lv_iconst (v := nI 4) hx hb dX5_told_47 (by decide) ?_
      refine lv_iload_n hx hb dX5_told_48 rfl (lv_at hl 1 rfl) ?_
      refine lv_imul hx hb dX5_told_49 ?_
      refine g_topi (y := nI (4 * a9)) (nI_mul _ _) ?_
      refine lv_aload_n hx hb dX5_told_50 rfl (lv_at hl 0 rfl) ?_
      refine g_get hC hP hm.1 rfl inX5 10 (by decide) q3_16 hm.2.2.2.2.2.2.2.2.1.1 dX5_told_51 ?_
      refine lv_iconst (v := nI 4) hx hb dX5_told_54 (by decide) ?_
      refine lv_bipush (v := nI 80) hx hb dX5_told_55 (by decide) ?_
      refine lv_iload_n hx hb dX5_told_57 rfl (lv_at hl 2 rfl) ?_
      refine lv_iadd hx hb dX5_told_58 ?_
      refine g_topi (y := nI (80 + b9)) (nI_add _ _) ?_
      refine lv_imul hx hb dX5_told_59 ?_
      refine g_topi (y := nI (4 * (80 + b9))) (nI_mul _ _) ?_
      refine g_cp (g_rV (As := [.int (nI 1), .ref (h + 8), .int (nI (4 * a9)), .ref (h + 8), .int (nI (4 * (80 + b9)))]) hC hP (c_X5_meanOf_1 l hP (h := h) (a := h + 8) (b2 := h + 8) (fa := 4 * a9) (fb := 4 * (80 + b9)) (la := 640) (lb := 640) (by first | assumption | omega) (by first | assumption | omega) hm.2.2.2.2.2.2.2.2.1.2 hm.2.2.2.2.2.2.2.2.1.2 (by first | assumption | omega) (by first | assumption | omega) (by first | assumption | omega) (by first | assumption | omega)) hm.1 rfl ⟨q3_120, q3_117, q3_119, qs_31, q1_6⟩ dd_X5_meanOf ⟨Nat.le_of_ble_eq_true rfl, Nat.le_of_ble_eq_true rfl, rfl, rfl⟩ hl.1 rfl (Nat.le_of_ble_eq_true rfl) dX5_told_60 ⟨Nat.le_of_ble_eq_true rfl, Nat.le_of_ble_eq_true rfl⟩) ?_
      refine W.eq (g2 := F0 m 63 ls [.long (dS (fun i k => J (h + 8) ((4 * a9) + i) * J (h + 8) ((4 * (80 + b9)) + k) * (gsP1 st (k * 4 + i)).toInt64) (gsn st) (gsm st))]) rfl ?_
      refine lv_lstore (lv' := [(4, .long (dS (fun i k => J (h + 8) ((4 * a9) + i) * J (h + 8) ((4 * (80 + b9)) + k) * (gsP1 st (k * 4 + i)).toInt64) (gsn st) (gsm st))), (0, .ref h), (1, .int (nI a9)), (2, .int (nI b9)), (3, .int (nI k9))]) hx hb dX5_told_63 hl (by decide) rfl (fun ls hl => ?_)
      refine lv_aload_n hx hb dX5_told_65 rfl (lv_at hl 1 rfl) ?_
      refine g_get hC hP hm.1 rfl inX5 11 (by decide) q3_17 hm.2.2.2.2.2.2.2.2.2.1.1 dX5_told_66 ?_
      refine lv_iload_n hx hb dX5_told_69 rfl (lv_at hl 2 rfl) ?_
      refine g_lald hC hP hm.2.2.2.2.2.2.2.2.2.1.2 (vp_in_nI (by omega) (by decide)) dX5_told_70 ?_
      refine g_topl (y := J (h + 9) a9) (congrArg (J (h + 9)) (nI_clamp (by omega))) ?_
      refine lv_aload_n hx hb dX5_told_71 rfl (lv_at hl 1 rfl) ?_
      refine g_get hC hP hm.1 rfl inX5 11 (by decide) q3_17 hm.2.2.2.2.2.2.2.2.2.1.1 dX5_told_72 ?_
      refine lv_bipush (v := nI 80) hx hb dX5_told_75 (by decide) ?_
      refine lv_iload_n hx hb dX5_told_77 rfl (lv_at hl 3 rfl) ?_
      refine lv_iadd hx hb dX5_told_78 ?_
      refine g_topi (y := nI (80 + b9)) (nI_add _ _) ?_
      refine g_lald hC hP hm.2.2.2.2.2.2.2.2.2.1.2 (vp_in_nI (by omega) (by decide)) dX5_told_79 ?_
      refine g_topl (y := J (h + 9) (80 + b9)) (congrArg (J (h + 9)) (nI_clamp (by omega))) ?_
      refine lv_lmul hx hb dX5_told_80 ?_
      refine lv_lstore (lv' := [(6, .long ((J (h + 9) a9) * (J (h + 9) (80 + b9)))), (4, .long (dS (fun i k => J (h + 8) ((4 * a9) + i) * J (h + 8) ((4 * (80 + b9)) + k) * (gsP1 st (k * 4 + i)).toInt64) (gsn st) (gsm st))), (0, .ref h), (1, .int (nI a9)), (2, .int (nI b9)), (3, .int (nI k9))]) hx hb dX5_told_81 hl (by decide) rfl (fun ls hl => ?_)
      have hx9 : rdV (Cr.2 a9) (fun k => J (h + 8) (4 * a9 + k)) (J (h + 9) a9) := by have q := (hcr0.2 a9 ha9).1; rw [show 80 * 0 + a9 = a9 from by omega] at q; exact q
      have hy9 : rdV (Cd.2 b9) (fun k => J (h + 8) (4 * (80 + b9) + k)) (J (h + 9) (80 + b9)) := (hcr1.2 b9 hb9).1
      obtain ⟨k1, k2, k3⟩ := mn_bal1 (st := st) (k := k9 - 5) (hl0.2 a9 ha9).1 (hl1.2 b9 hb9).1 (hl0.2 a9 ha9).2.2.2 hx9 hy9 hbd1 hms hns
      refine lv_lload hx hb dX5_told_83 (lv_at hl 1 rfl) ?_
      refine lv_lload hx hb dX5_told_85 (lv_at hl 0 rfl) ?_
      refine g_cp (g_rS (As := [.long (dS (fun i k => J (h + 8) ((4 * a9) + i) * J (h + 8) ((4 * (80 + b9)) + k) * (gsP1 st (k * 4 + i)).toInt64) (gsn st) (gsm st)), .long ((J (h + 9) a9) * (J (h + 9) (80 + b9)))]) hC (c_X5_common l (a := dS (fun i k => J (h + 8) ((4 * a9) + i) * J (h + 8) ((4 * (80 + b9)) + k) * (gsP1 st (k * 4 + i)).toInt64) (gsn st) (gsm st)) (b2 := (J (h + 9) a9) * (J (h + 9) (80 + b9))) k1 (Int.le_of_lt k2)) ⟨q3_123, q3_121, q3_122, q1_6⟩ dd_X5_common ⟨Nat.le_of_ble_eq_true rfl, Nat.le_of_ble_eq_true rfl, rfl, rfl⟩ hl.1 rfl (Nat.le_of_ble_eq_true rfl) dX5_told_87 ⟨Nat.le_of_ble_eq_true rfl, Nat.le_of_ble_eq_true rfl⟩) ?_
      refine W.eq (g2 := F0 m 90 ls [.long (gcdL (dS (fun i k => J (h + 8) ((4 * a9) + i) * J (h + 8) ((4 * (80 + b9)) + k) * (gsP1 st (k * 4 + i)).toInt64) (gsn st) (gsm st)) ((J (h + 9) a9) * (J (h + 9) (80 + b9))))]) rfl ?_
      refine lv_lstore (lv' := [(8, .long (gcdL (dS (fun i k => J (h + 8) ((4 * a9) + i) * J (h + 8) ((4 * (80 + b9)) + k) * (gsP1 st (k * 4 + i)).toInt64) (gsn st) (gsm st)) ((J (h + 9) a9) * (J (h + 9) (80 + b9))))), (6, .long ((J (h + 9) a9) * (J (h + 9) (80 + b9)))), (4, .long (dS (fun i k => J (h + 8) ((4 * a9) + i) * J (h + 8) ((4 * (80 + b9)) + k) * (gsP1 st (k * 4 + i)).toInt64) (gsn st) (gsm st))), (0, .ref h), (1, .int (nI a9)), (2, .int (nI b9)), (3, .int (nI k9))]) hx hb dX5_told_90 hl (by decide) rfl (fun ls hl => ?_)
      refine lv_iload_n hx hb dX5_told_92 rfl (lv_at hl 6 rfl) ?_
      refine lv_iconst (v := nI 2) hx hb dX5_told_93 (by decide) ?_
      refine lv_irem hx hb dX5_told_94 (by decide) ?_
      refine g_topi (y := nI (k9 % 2)) (g_rem2b (by omega)) ?_
      refine lv_iconst (v := nI 1) hx hb dX5_told_95 (by decide) ?_
      refine lv_icmp_ne (tgt := 107) hx hb dX5_told_96 (by decide) (fun c96 => ?_) (fun c96 => ?_)
      · have c96 := mt (nI_eq (by omega) (by omega)).mpr c96
        refine lv_lload hx hb dX5_told_107 (lv_at hl 1 rfl) ?_
        refine lv_lload hx hb dX5_told_109 (lv_at hl 0 rfl) ?_
        refine lv_ldiv hx hb dX5_told_111 (gcdL_ne k2) ?_
        refine g_retl hC hs ?_ dX5_told_112
        show _ = tolV st (Cr.2 a9) (Cd.2 b9) a9 b9 k9; unfold tolV; rw [if_neg (by omega), if_neg (by omega), if_neg (by omega), if_neg (by omega), k3]
        first | rw [if_pos (by rw [show k9 - 5 = 0 from by omega]; rfl)] | rw [if_neg (by rw [show k9 - 5 = 1 from by omega]; decide)]
      · have c96 := (nI_eq (by omega) (by omega)).mp c96
        refine lv_lload hx hb dX5_told_99 (lv_at hl 2 rfl) ?_
        refine lv_lload hx hb dX5_told_101 (lv_at hl 0 rfl) ?_
        refine lv_ldiv hx hb dX5_told_103 (gcdL_ne k2) ?_
        refine lv_goto (tgt := 112) hx hb dX5_told_104 (by decide) ?_
        refine g_retl hC hs ?_ dX5_told_112
        show _ = tolV st (Cr.2 a9) (Cd.2 b9) a9 b9 k9; unfold tolV; rw [if_neg (by omega), if_neg (by omega), if_neg (by omega), if_neg (by omega), k3]
        first | rw [if_pos (by rw [show k9 - 5 = 0 from by omega]; rfl)] | rw [if_neg (by rw [show k9 - 5 = 1 from by omega]; decide)]
    · have c35 := mt (nI_leI (by omega) (by omega)).mpr c35
      refine lv_iconst (v := nI 0) hx hb dX5_told_38 (by decide) ?_
      refine lv_goto (tgt := 43) hx hb dX5_told_39 (by decide) ?_
      refine lv_aload_n hx hb dX5_told_43 rfl (lv_at hl 0 rfl) ?_
      refine g_get hC hP hm.1 rfl inX5 10 (by decide) q3_16 hm.2.2.2.2.2.2.2.2.1.1 dX5_told_44 ?_
      refine lv_iconst (v := nI 4) hx hb dX5_told_47 (by decide) ?_
      refine lv_iload_n hx hb dX5_told_48 rfl (lv_at hl 1 rfl) ?_
      refine lv_imul hx hb dX5_told_49 ?_
      refine g_topi (y := nI (4 * a9)) (nI_mul _ _) ?_
      refine lv_aload_n hx hb dX5_told_50 rfl (lv_at hl 0 rfl) ?_
      refine g_get hC hP hm.1 rfl inX5 10 (by decide) q3_16 hm.2.2.2.2.2.2.2.2.1.1 dX5_told_51 ?_
      refine lv_iconst (v := nI 4) hx hb dX5_told_54 (by decide) ?_
      refine lv_bipush (v := nI 80) hx hb dX5_told_55 (by decide) ?_
      refine lv_iload_n hx hb dX5_told_57 rfl (lv_at hl 2 rfl) ?_
      refine lv_iadd hx hb dX5_told_58 ?_
      refine g_topi (y := nI (80 + b9)) (nI_add _ _) ?_
      refine lv_imul hx hb dX5_told_59 ?_
      refine g_topi (y := nI (4 * (80 + b9))) (nI_mul _ _) ?_
      refine g_cp (g_rV (As := [.int (nI 0), .ref (h + 8), .int (nI (4 * a9)), .ref (h + 8), .int (nI (4 * (80 + b9)))]) hC hP (c_X5_meanOf_0 l hP (h := h) (a := h + 8) (b2 := h + 8) (fa := 4 * a9) (fb := 4 * (80 + b9)) (la := 640) (lb := 640) (by first | assumption | omega) (by first | assumption | omega) hm.2.2.2.2.2.2.2.2.1.2 hm.2.2.2.2.2.2.2.2.1.2 (by first | assumption | omega) (by first | assumption | omega) (by first | assumption | omega) (by first | assumption | omega)) hm.1 rfl ⟨q3_120, q3_117, q3_119, qs_31, q1_6⟩ dd_X5_meanOf ⟨Nat.le_of_ble_eq_true rfl, Nat.le_of_ble_eq_true rfl, rfl, rfl⟩ hl.1 rfl (Nat.le_of_ble_eq_true rfl) dX5_told_60 ⟨Nat.le_of_ble_eq_true rfl, Nat.le_of_ble_eq_true rfl⟩) ?_
      refine W.eq (g2 := F0 m 63 ls [.long (dS (fun i k => J (h + 8) ((4 * a9) + i) * J (h + 8) ((4 * (80 + b9)) + k) * (gsP0 st (i * 4 + k)).toInt64) (gsn st) (gsm st))]) rfl ?_
      refine lv_lstore (lv' := [(4, .long (dS (fun i k => J (h + 8) ((4 * a9) + i) * J (h + 8) ((4 * (80 + b9)) + k) * (gsP0 st (i * 4 + k)).toInt64) (gsn st) (gsm st))), (0, .ref h), (1, .int (nI a9)), (2, .int (nI b9)), (3, .int (nI k9))]) hx hb dX5_told_63 hl (by decide) rfl (fun ls hl => ?_)
      refine lv_aload_n hx hb dX5_told_65 rfl (lv_at hl 1 rfl) ?_
      refine g_get hC hP hm.1 rfl inX5 11 (by decide) q3_17 hm.2.2.2.2.2.2.2.2.2.1.1 dX5_told_66 ?_
      refine lv_iload_n hx hb dX5_told_69 rfl (lv_at hl 2 rfl) ?_
      refine g_lald hC hP hm.2.2.2.2.2.2.2.2.2.1.2 (vp_in_nI (by omega) (by decide)) dX5_told_70 ?_
      refine g_topl (y := J (h + 9) a9) (congrArg (J (h + 9)) (nI_clamp (by omega))) ?_
      refine lv_aload_n hx hb dX5_told_71 rfl (lv_at hl 1 rfl) ?_
      refine g_get hC hP hm.1 rfl inX5 11 (by decide) q3_17 hm.2.2.2.2.2.2.2.2.2.1.1 dX5_told_72 ?_
      refine lv_bipush (v := nI 80) hx hb dX5_told_75 (by decide) ?_
      refine lv_iload_n hx hb dX5_told_77 rfl (lv_at hl 3 rfl) ?_
      refine lv_iadd hx hb dX5_told_78 ?_
      refine g_topi (y := nI (80 + b9)) (nI_add _ _) ?_
      refine g_lald hC hP hm.2.2.2.2.2.2.2.2.2.1.2 (vp_in_nI (by omega) (by decide)) dX5_told_79 ?_
      refine g_topl (y := J (h + 9) (80 + b9)) (congrArg (J (h + 9)) (nI_clamp (by omega))) ?_
      refine lv_lmul hx hb dX5_told_80 ?_
      refine lv_lstore (lv' := [(6, .long ((J (h + 9) a9) * (J (h + 9) (80 + b9)))), (4, .long (dS (fun i k => J (h + 8) ((4 * a9) + i) * J (h + 8) ((4 * (80 + b9)) + k) * (gsP0 st (i * 4 + k)).toInt64) (gsn st) (gsm st))), (0, .ref h), (1, .int (nI a9)), (2, .int (nI b9)), (3, .int (nI k9))]) hx hb dX5_told_81 hl (by decide) rfl (fun ls hl => ?_)
      have hx9 : rdV (Cr.2 a9) (fun k => J (h + 8) (4 * a9 + k)) (J (h + 9) a9) := by have q := (hcr0.2 a9 ha9).1; rw [show 80 * 0 + a9 = a9 from by omega] at q; exact q
      have hy9 : rdV (Cd.2 b9) (fun k => J (h + 8) (4 * (80 + b9) + k)) (J (h + 9) (80 + b9)) := (hcr1.2 b9 hb9).1
      obtain ⟨k1, k2, k3⟩ := mn_bal0 (st := st) (k := k9 - 3) (hl0.2 a9 ha9).1 (hl1.2 b9 hb9).1 (hl1.2 b9 hb9).2.2.2 hx9 hy9 hbd0 hms hns
      refine lv_lload hx hb dX5_told_83 (lv_at hl 1 rfl) ?_
      refine lv_lload hx hb dX5_told_85 (lv_at hl 0 rfl) ?_
      refine g_cp (g_rS (As := [.long (dS (fun i k => J (h + 8) ((4 * a9) + i) * J (h + 8) ((4 * (80 + b9)) + k) * (gsP0 st (i * 4 + k)).toInt64) (gsn st) (gsm st)), .long ((J (h + 9) a9) * (J (h + 9) (80 + b9)))]) hC (c_X5_common l (a := dS (fun i k => J (h + 8) ((4 * a9) + i) * J (h + 8) ((4 * (80 + b9)) + k) * (gsP0 st (i * 4 + k)).toInt64) (gsn st) (gsm st)) (b2 := (J (h + 9) a9) * (J (h + 9) (80 + b9))) k1 (Int.le_of_lt k2)) ⟨q3_123, q3_121, q3_122, q1_6⟩ dd_X5_common ⟨Nat.le_of_ble_eq_true rfl, Nat.le_of_ble_eq_true rfl, rfl, rfl⟩ hl.1 rfl (Nat.le_of_ble_eq_true rfl) dX5_told_87 ⟨Nat.le_of_ble_eq_true rfl, Nat.le_of_ble_eq_true rfl⟩) ?_
      refine W.eq (g2 := F0 m 90 ls [.long (gcdL (dS (fun i k => J (h + 8) ((4 * a9) + i) * J (h + 8) ((4 * (80 + b9)) + k) * (gsP0 st (i * 4 + k)).toInt64) (gsn st) (gsm st)) ((J (h + 9) a9) * (J (h + 9) (80 + b9))))]) rfl ?_
      refine lv_lstore (lv' := [(8, .long (gcdL (dS (fun i k => J (h + 8) ((4 * a9) + i) * J (h + 8) ((4 * (80 + b9)) + k) * (gsP0 st (i * 4 + k)).toInt64) (gsn st) (gsm st)) ((J (h + 9) a9) * (J (h + 9) (80 + b9))))), (6, .long ((J (h + 9) a9) * (J (h + 9) (80 + b9)))), (4, .long (dS (fun i k => J (h + 8) ((4 * a9) + i) * J (h + 8) ((4 * (80 + b9)) + k) * (gsP0 st (i * 4 + k)).toInt64) (gsn st) (gsm st))), (0, .ref h), (1, .int (nI a9)), (2, .int (nI b9)), (3, .int (nI k9))]) hx hb dX5_told_90 hl (by decide) rfl (fun ls hl => ?_)
      refine lv_iload_n hx hb dX5_told_92 rfl (lv_at hl 6 rfl) ?_
      refine lv_iconst (v := nI 2) hx hb dX5_told_93 (by decide) ?_
      refine lv_irem hx hb dX5_told_94 (by decide) ?_
      refine g_topi (y := nI (k9 % 2)) (g_rem2b (by omega)) ?_
      refine lv_iconst (v := nI 1) hx hb dX5_told_95 (by decide) ?_
      refine lv_icmp_ne (tgt := 107) hx hb dX5_told_96 (by decide) (fun c96 => ?_) (fun c96 => ?_)
      · have c96 := mt (nI_eq (by omega) (by omega)).mpr c96
        refine lv_lload hx hb dX5_told_107 (lv_at hl 1 rfl) ?_
        refine lv_lload hx hb dX5_told_109 (lv_at hl 0 rfl) ?_
        refine lv_ldiv hx hb dX5_told_111 (gcdL_ne k2) ?_
        refine g_retl hC hs ?_ dX5_told_112
        show _ = tolV st (Cr.2 a9) (Cd.2 b9) a9 b9 k9; unfold tolV; rw [if_neg (by omega), if_neg (by omega), if_neg (by omega), if_pos (by omega), k3]
        first | rw [if_pos (by rw [show k9 - 3 = 0 from by omega]; rfl)] | rw [if_neg (by rw [show k9 - 3 = 1 from by omega]; decide)]
      · have c96 := (nI_eq (by omega) (by omega)).mp c96
        refine lv_lload hx hb dX5_told_99 (lv_at hl 2 rfl) ?_
        refine lv_lload hx hb dX5_told_101 (lv_at hl 0 rfl) ?_
        refine lv_ldiv hx hb dX5_told_103 (gcdL_ne k2) ?_
        refine lv_goto (tgt := 112) hx hb dX5_told_104 (by decide) ?_
        refine g_retl hC hs ?_ dX5_told_112
        show _ = tolV st (Cr.2 a9) (Cd.2 b9) a9 b9 k9; unfold tolV; rw [if_neg (by omega), if_neg (by omega), if_neg (by omega), if_pos (by omega), k3]
        first | rw [if_pos (by rw [show k9 - 3 = 0 from by omega]; rfl)] | rw [if_neg (by rw [show k9 - 3 = 1 from by omega]; decide)]
  · have c2 := mt (nI_leI (by omega) (by omega)).mpr c2
    refine lv_iload_n hx hb dX5_told_5 rfl (lv_at hl 3 rfl) ?_
    refine lv_if_ne (tgt := 14) hx hb dX5_told_6 (by decide) (fun c6 => ?_) (fun c6 => ?_)
    · have c6 := mt (fun q => ((nI_eq (b := 0) (by omega) (by decide)).mpr q).trans nI_0) c6
      refine lv_iload_n hx hb dX5_told_14 rfl (lv_at hl 3 rfl) ?_
      refine lv_iconst (v := nI 1) hx hb dX5_told_15 (by decide) ?_
      refine lv_icmp_ne (tgt := 24) hx hb dX5_told_16 (by decide) (fun c16 => ?_) (fun c16 => ?_)
      · have c16 := mt (nI_eq (by omega) (by omega)).mpr c16
        refine lv_aload_n hx hb dX5_told_24 rfl (lv_at hl 0 rfl) ?_
        refine lv_iload_n hx hb dX5_told_25 rfl (lv_at hl 1 rfl) ?_
        refine lv_iload_n hx hb dX5_told_26 rfl (lv_at hl 2 rfl) ?_
        refine g_cp (g_rV (As := [.int (nI a9), .int (nI b9)]) hC hP (c_X5_kindOf l hP (h := h) (a9 := a9) (b9 := b9) (Cr := Cr) (Cd := Cd) (by first | assumption | omega) (by first | assumption | omega) (by first | assumption | omega) (by first | assumption | omega) (by first | assumption | omega) (by first | assumption | omega) (by first | assumption | omega) (by first | assumption | omega) (by first | assumption | omega) (by first | assumption | omega)) hm.1 rfl ⟨q3_234, q3_231, q3_233, qs_45, q1_6⟩ dd_X5_kindOf ⟨Nat.le_of_ble_eq_true rfl, Nat.le_of_ble_eq_true rfl, rfl, rfl⟩ hl.1 rfl (Nat.le_of_ble_eq_true rfl) dX5_told_27 ⟨Nat.le_of_ble_eq_true rfl, Nat.le_of_ble_eq_true rfl⟩) ?_
        refine W.eq (g2 := F0 m 30 ls [.int (nI (kindV (gsm st) (gsn st) (Cr.2 a9) (Cd.2 b9)))]) rfl ?_
        refine lv_i2l hx hb dX5_told_30 rfl ?_
        refine g_retl hC hs ?_ dX5_told_31
        show _ = tolV st (Cr.2 a9) (Cd.2 b9) a9 b9 k9; unfold tolV; first | rw [if_pos c6] | rw [if_neg c6, if_pos c16] | rw [if_neg c6, if_neg c16, if_pos (by omega)]
      · have c16 := (nI_eq (by omega) (by omega)).mp c16
        refine lv_iload_n hx hb dX5_told_19 rfl (lv_at hl 2 rfl) ?_
        refine lv_i2l hx hb dX5_told_20 rfl ?_
        refine lv_goto (tgt := 31) hx hb dX5_told_21 (by decide) ?_
        refine g_retl hC hs ?_ dX5_told_31
        show _ = tolV st (Cr.2 a9) (Cd.2 b9) a9 b9 k9; unfold tolV; first | rw [if_pos c6] | rw [if_neg c6, if_pos c16] | rw [if_neg c6, if_neg c16, if_pos (by omega)]
    · have c6 := (nI_eq (by omega) (by decide)).mp (c6.trans nI_0.symm)
      refine lv_iload_n hx hb dX5_told_9 rfl (lv_at hl 1 rfl) ?_
      refine lv_i2l hx hb dX5_told_10 rfl ?_
      refine lv_goto (tgt := 31) hx hb dX5_told_11 (by decide) ?_
      refine g_retl hC hs ?_ dX5_told_31
      show _ = tolV st (Cr.2 a9) (Cd.2 b9) a9 b9 k9; unfold tolV; first | rw [if_pos c6] | rw [if_neg c6, if_pos c16] | rw [if_neg c6, if_neg c16, if_pos (by omega)]
theorem b_nat {b : Int32} (h : ¬ b < 0) : ∃ k : Nat, k < 2 ^ 31 ∧ b = nI k := by
  obtain ⟨j, h1, h2⟩ := nI_of (x := b) h
  exact ⟨j, h1, h2⟩
theorem f_nat {f : Int32} {n : Nat} (hn : n < 2 ^ 31) (h : ¬ f < nI 0 ∧ ¬ nI n < f) : ∃ k : Nat, k ≤ n ∧ f = nI k := by
  obtain ⟨j, h1, rfl⟩ := nI_of (x := f) (by rw [← nI_0]; exact h.1)
  refine ⟨j, ?_, rfl⟩
  have := mt (nI_ltI hn h1).mpr h.2
  omega
set_option maxHeartbeats 4000000 in
set_option maxRecDepth 100000 in
theorem c_X5_balance (l : Launch) {G : gG} {T : gTy} {I : gI} {J : gJ} {Q : gR} {O : gO} {H : Heap} (hP : gP G T I J Q O H) {h : Nat} {st : GS} {b f : Int32} (hm : isMo T O h) (hs0 : moS I h st) (hbd0 : bdP (gsP0 st)) (hbd1 : bdP (gsP1 st)) : Met l yX5_balance (gw yX5_balance cX5_balance 6 (some (.long))) ({ frames := 4, cells := 0, slots := 0, locals := 103 } : Room) (gPc G H [.ref h, .int b, .int f]) (gQc (gF T H) (fun x H1 => rBalance st (fun x1 s1 => x = some (.long x1) ∧ moR G T h s1 H1) b f)) 0 0 (gF T H) := by
  refine g_met [(0, .ref h), (1, .int b), (2, .int f)] (by decide) rfl (by exact Nat.le_of_ble_eq_true rfl) ?_
  intro p e s m below meth c hC hs ls hl
  have hx := hC.1.1
  have hb := hC.1.2.1
  have hS : va_S (gF T H) s.heap H [] := hs ▸ va_S.rf
  have hTA : ∀ q, (T q).1 ≠ 0 → gF T H q := fun q h => Or.inl h
  have hA : ∀ q, s.heap.size ≤ q → gF T H q := fun q h => Or.inr (hs ▸ h)
  generalize hAe : gF T H = A at hS hTA hA ⊢
  have hms := hs0.1
  have hns := hs0.2.1
  have hcb := gsC_b hms hns
  have hlg := gsC_LG hms hns hbd0 hbd1
  refine lv_iload_n hx hb dX5_balance_0 rfl (lv_at hl 1 rfl) ?_
  refine lv_istore_n (lv' := [(3, .int b), (0, .ref h), (1, .int b), (2, .int f)]) hx hb dX5_balance_1 rfl hl (by decide) rfl (fun ls hl => ?_)
  refine lv_aload_n hx hb dX5_balance_2 rfl (lv_at hl 1 rfl) ?_
  refine lv_iconst (v := nI 0) hx hb dX5_balance_3 (by decide) ?_
  refine g_cc (g_rV (As := [.int (nI 0)]) hC hP (c_X5_findCorners_0 l hP (h := h) (by first | assumption | omega) (by first | assumption | omega) (by first | assumption | omega) (by first | assumption | omega)) hm.1 rfl ⟨q3_187, q3_184, q3_186, qs_38, q1_6⟩ dd_X5_findCorners ⟨Nat.le_of_ble_eq_true rfl, Nat.le_of_ble_eq_true rfl, rfl, rfl⟩ hl.1 rfl (Nat.le_of_ble_eq_true rfl) dX5_balance_4 ⟨Nat.le_of_ble_eq_true rfl, Nat.le_of_ble_eq_true rfl⟩) hS (fun q h => h.elim (hTA q) (fun z => hA q (Nat.le_trans hS.1 z))) (fun r5 H1 locs2 hq6 hS hz3 hfr4 => ?_)
  obtain ⟨rfl, I7, J8, hP, hcr0, hf0⟩ := hq6
  have hsn0 : moS I7 h st := moS_fc hs0 hf0
  refine W.eq (g2 := F0 m 7 ls []) rfl ?_
  refine lv_aload_n hx hb dX5_balance_7 rfl (lv_at hl 1 rfl) ?_
  refine lv_iconst (v := nI 1) hx hb dX5_balance_8 (by decide) ?_
  refine g_cc (g_rV (As := [.int (nI 1)]) hC hP (c_X5_findCorners_1 l hP (h := h) (by first | assumption | omega) (by first | assumption | omega) (by first | assumption | omega) (by first | assumption | omega)) hm.1 rfl ⟨q3_187, q3_184, q3_186, qs_38, q1_6⟩ dd_X5_findCorners ⟨Nat.le_of_ble_eq_true rfl, Nat.le_of_ble_eq_true rfl, rfl, rfl⟩ hl.1 rfl (Nat.le_of_ble_eq_true rfl) dX5_balance_9 ⟨Nat.le_of_ble_eq_true rfl, Nat.le_of_ble_eq_true rfl⟩) hS (fun q h => h.elim (hTA q) (fun z => hA q (Nat.le_trans hS.1 z))) (fun r13 H9 locs10 hq14 hS hz11 hfr12 => ?_)
  obtain ⟨rfl, I15, J16, hP, hcr1, hf1⟩ := hq14
  have hsn1 : moS I15 h st := moS_fc hsn0 hf1
  have hcr0 := crR_oth hcr0 hcb.1.1 hf1
  refine W.eq (g2 := F0 m 12 ls []) rfl ?_
  have h690 := hcb.1.1
  have h691 := hcb.1.2
  by_cases hb0 : b < 0
  · refine lv_iconst (v := nI 0) hx hb dX5_balance_12 (by decide) ?_
    refine lv_istore (lv' := [(4, .int (nI 0)), (3, .int b), (0, .ref h), (1, .int b), (2, .int f)]) hx hb dX5_balance_13 hl (by decide) rfl (fun ls hl => ?_)
    refine lv_iload hx hb dX5_balance_15 (lv_at hl 0 rfl) ?_
    refine lv_aload_n hx hb dX5_balance_17 rfl (lv_at hl 2 rfl) ?_
    refine g_get hC hP hm.1 rfl inX5 9 (by decide) q3_15 hm.2.2.2.2.2.2.2.1.1 dX5_balance_18 ?_
    refine lv_iconst (v := nI 0) hx hb dX5_balance_21 (by decide) ?_
    refine g_iald hC hP hm.2.2.2.2.2.2.2.1.2 (vp_in_nI (by omega) (by decide)) dX5_balance_22 ?_
    refine g_topi (y := nI ((gsCr st).1)) hcr0.1 ?_
    refine lv_icmp_ge (tgt := 105) hx hb dX5_balance_23 (by decide) (fun c23 => ?_) (fun c23 => ?_)
    · have c23 := (nI_leI (by omega) (by omega)).mp c23
      refine lv_aload_n hx hb dX5_balance_105 rfl (lv_at hl 2 rfl) ?_
      refine lv_iconst (v := (-1)) hx hb dX5_balance_106 (by decide) ?_
      refine g_cc (g_rV (As := [.int (-1 : Int32)]) hC hP (c_X5_refuseGreat l hP (h := h) (q := (-1 : Int32)) (j := 1) (by first | assumption | omega) (by decide) (by omega)) hm.1 rfl ⟨q3_107, q3_104, q3_106, qs_28, q1_6⟩ dd_X5_refuseGreat ⟨Nat.le_of_ble_eq_true rfl, Nat.le_of_ble_eq_true rfl, rfl, rfl⟩ hl.1 rfl (Nat.le_of_ble_eq_true rfl) dX5_balance_107 ⟨Nat.le_of_ble_eq_true rfl, Nat.le_of_ble_eq_true rfl⟩) hS (fun q h => h.elim (hTA q) (fun z => hA q (Nat.le_trans hS.1 z))) (fun r21 H17 locs18 hq22 hS hz19 hfr20 => ?_)
      obtain ⟨rfl, hP⟩ := hq22
      obtain ⟨I23, hI23, hP⟩ : ∃ I23 : gI, I23 = au I15 (h + 4) 1 (I15 (h + 4) 1 + 1) ∧ gP G T I23 J16 Q O H17 := ⟨_, rfl, hP⟩
      refine W.eq (g2 := F0 m 110 ls [.long (4000000000000000000 - (-1 : Int32).toInt64)]) rfl ?_
      refine g_retcl hC hS ?_ dX5_balance_110
      exact Or.inl ⟨Or.inl (by rw [nI_0]; exact hb0), rfl, mo_ref hm hsn1 (j := 1) (by decide) hI23 hP⟩
    · have c23 := mt (nI_leI (by omega) (by omega)).mpr c23
      refine lv_iload_n hx hb dX5_balance_26 rfl (lv_at hl 3 rfl) ?_
      refine lv_if_lt (tgt := 105) hx hb dX5_balance_27 (by decide) (fun c27 => ?_) (fun c27 => ?_)
      · refine lv_aload_n hx hb dX5_balance_105 rfl (lv_at hl 2 rfl) ?_
        refine lv_iconst (v := (-1)) hx hb dX5_balance_106 (by decide) ?_
        refine g_cc (g_rV (As := [.int (-1 : Int32)]) hC hP (c_X5_refuseGreat l hP (h := h) (q := (-1 : Int32)) (j := 1) (by first | assumption | omega) (by decide) (by omega)) hm.1 rfl ⟨q3_107, q3_104, q3_106, qs_28, q1_6⟩ dd_X5_refuseGreat ⟨Nat.le_of_ble_eq_true rfl, Nat.le_of_ble_eq_true rfl, rfl, rfl⟩ hl.1 rfl (Nat.le_of_ble_eq_true rfl) dX5_balance_107 ⟨Nat.le_of_ble_eq_true rfl, Nat.le_of_ble_eq_true rfl⟩) hS (fun q h => h.elim (hTA q) (fun z => hA q (Nat.le_trans hS.1 z))) (fun r28 H24 locs25 hq29 hS hz26 hfr27 => ?_)
        obtain ⟨rfl, hP⟩ := hq29
        obtain ⟨I30, hI30, hP⟩ : ∃ I30 : gI, I30 = au I15 (h + 4) 1 (I15 (h + 4) 1 + 1) ∧ gP G T I30 J16 Q O H24 := ⟨_, rfl, hP⟩
        refine W.eq (g2 := F0 m 110 ls [.long (4000000000000000000 - (-1 : Int32).toInt64)]) rfl ?_
        refine g_retcl hC hS ?_ dX5_balance_110
        exact Or.inl ⟨Or.inl (by rw [nI_0]; exact hb0), rfl, mo_ref hm hsn1 (j := 1) (by decide) hI30 hP⟩
      · exact absurd hb0 c27
  · obtain ⟨bb, hbb, rfl⟩ := b_nat hb0
    refine lv_iconst (v := nI 0) hx hb dX5_balance_12 (by decide) ?_
    refine lv_istore (lv' := [(4, .int (nI 0)), (3, .int (nI bb)), (0, .ref h), (1, .int (nI bb)), (2, .int f)]) hx hb dX5_balance_13 hl (by decide) rfl (fun ls hl => ?_)
    have L15 : ∀ (n15 : Nat) (z : Nat) (lf : Nat), 70 ≤ n15 + z → (z ≤ (gsCr st).1) → (lf + bR (gsCr st) (gsCd st) z = bb) → ∀ (Hl : Heap) (lcl : List Loc), gP G T I15 J16 Q O Hl → va_S A s.heap Hl lcl → ∀ ls : Array Slot, lv_has ls 6 [(0, .ref h), (1, .int (nI bb)), (2, .int f), (3, .int (nI lf)), (4, .int (nI z))] → W p l e ({ frames := 4, cells := 0, slots := 0, locals := 103 } : Room) s m [.ref h, .int (nI bb), .int f].toArray below meth c Hl lcl 0 0 (MQ below (gQc A (fun x H1 => rBalance st (fun x1 s1 => x = some (.long x1) ∧ moR G T h s1 H1) (nI bb) f)) [.ref h, .int (nI bb), .int f].toArray s 0 0 A) (F0 m 15 ls []) := by
      intro n15
      induction n15 with
      | zero => intro z lf hn15 hz h1; exact absurd hn15 (by omega)
      | succ n15 ih15 =>
        intro z lf hn15 hz h1 Hl lcl hP hS ls hl
        refine lv_iload hx hb dX5_balance_15 (lv_at hl 4 rfl) ?_
        refine lv_aload_n hx hb dX5_balance_17 rfl (lv_at hl 0 rfl) ?_
        refine g_get hC hP hm.1 rfl inX5 9 (by decide) q3_15 hm.2.2.2.2.2.2.2.1.1 dX5_balance_18 ?_
        refine lv_iconst (v := nI 0) hx hb dX5_balance_21 (by decide) ?_
        refine g_iald hC hP hm.2.2.2.2.2.2.2.1.2 (vp_in_nI (by omega) (by decide)) dX5_balance_22 ?_
        refine g_topi (y := nI ((gsCr st).1)) hcr0.1 ?_
        refine lv_icmp_ge (tgt := 105) hx hb dX5_balance_23 (by decide) (fun c23 => ?_) (fun c23 => ?_)
        · have c23 := (nI_leI (by omega) (by omega)).mp c23
          refine lv_aload_n hx hb dX5_balance_105 rfl (lv_at hl 0 rfl) ?_
          refine lv_iconst (v := (-1)) hx hb dX5_balance_106 (by decide) ?_
          refine g_cc (g_rV (As := [.int (-1 : Int32)]) hC hP (c_X5_refuseGreat l hP (h := h) (q := (-1 : Int32)) (j := 1) (by first | assumption | omega) (by decide) (by omega)) hm.1 rfl ⟨q3_107, q3_104, q3_106, qs_28, q1_6⟩ dd_X5_refuseGreat ⟨Nat.le_of_ble_eq_true rfl, Nat.le_of_ble_eq_true rfl, rfl, rfl⟩ hl.1 rfl (Nat.le_of_ble_eq_true rfl) dX5_balance_107 ⟨Nat.le_of_ble_eq_true rfl, Nat.le_of_ble_eq_true rfl⟩) hS (fun q h => h.elim (hTA q) (fun z => hA q (Nat.le_trans hS.1 z))) (fun r35 H31 locs32 hq36 hS hz33 hfr34 => ?_)
          obtain ⟨rfl, hP⟩ := hq36
          obtain ⟨I37, hI37, hP⟩ : ∃ I37 : gI, I37 = au I15 (h + 4) 1 (I15 (h + 4) 1 + 1) ∧ gP G T I37 J16 Q O H31 := ⟨_, rfl, hP⟩
          refine W.eq (g2 := F0 m 110 ls [.long (4000000000000000000 - (-1 : Int32).toInt64)]) rfl ?_
          refine g_retcl hC hS ?_ dX5_balance_110
          refine Or.inl ⟨Or.inr ⟨bb, hbb, rfl, pairP_none ?_⟩, rfl, mo_ref hm hsn1 (j := 1) (by decide) hI37 hP⟩
          rw [← show z = (gsCr st).1 from by omega]
          omega
        · have c23 := mt (nI_leI (by omega) (by omega)).mpr c23
          refine lv_iload_n hx hb dX5_balance_26 rfl (lv_at hl 1 rfl) ?_
          refine lv_if_lt (tgt := 105) hx hb dX5_balance_27 (by decide) (fun q => absurd q (nI_pos (by omega))) (fun _ => ?_)
          refine lv_iconst (v := nI 0) hx hb dX5_balance_30 (by decide) ?_
          refine lv_istore (lv' := [(5, .int (nI 0)), (0, .ref h), (1, .int (nI bb)), (2, .int f), (3, .int (nI lf)), (4, .int (nI z))]) hx hb dX5_balance_31 hl (by decide) rfl (fun ls hl => ?_)
          have L33 : ∀ (n33 : Nat) (y : Nat) (lf : Nat), 70 ≤ n33 + y → (y ≤ (gsCd st).1) → (lf + (bR (gsCr st) (gsCd st) z + cntL (fitP (gsCr st) (gsCd st) z) y) = bb) → ∀ (Hl : Heap) (lcl : List Loc), gP G T I15 J16 Q O Hl → va_S A s.heap Hl lcl → ∀ ls : Array Slot, lv_has ls 6 [(0, .ref h), (1, .int (nI bb)), (2, .int f), (3, .int (nI lf)), (4, .int (nI z)), (5, .int (nI y))] → W p l e ({ frames := 4, cells := 0, slots := 0, locals := 103 } : Room) s m [.ref h, .int (nI bb), .int f].toArray below meth c Hl lcl 0 0 (MQ below (gQc A (fun x H1 => rBalance st (fun x1 s1 => x = some (.long x1) ∧ moR G T h s1 H1) (nI bb) f)) [.ref h, .int (nI bb), .int f].toArray s 0 0 A) (F0 m 33 ls []) := by
            intro n33
            induction n33 with
            | zero => intro y lf hn33 hy h2; exact absurd hn33 (by omega)
            | succ n33 ih33 =>
              intro y lf hn33 hy h2 Hl lcl hP hS ls hl
              refine lv_iload hx hb dX5_balance_33 (lv_at hl 5 rfl) ?_
              refine lv_aload_n hx hb dX5_balance_35 rfl (lv_at hl 0 rfl) ?_
              refine g_get hC hP hm.1 rfl inX5 9 (by decide) q3_15 hm.2.2.2.2.2.2.2.1.1 dX5_balance_36 ?_
              refine lv_iconst (v := nI 1) hx hb dX5_balance_39 (by decide) ?_
              refine g_iald hC hP hm.2.2.2.2.2.2.2.1.2 (vp_in_nI (by omega) (by decide)) dX5_balance_40 ?_
              refine g_topi (y := nI ((gsCd st).1)) hcr1.1 ?_
              refine lv_icmp_ge (tgt := 99) hx hb dX5_balance_41 (by decide) (fun c41 => ?_) (fun c41 => ?_)
              · have c41 := (nI_leI (by omega) (by omega)).mp c41
                refine lv_iinc (v := nI (z + 1)) (lv' := [(4, .int (nI (z + 1))), (0, .ref h), (1, .int (nI bb)), (2, .int f), (3, .int (nI lf)), (5, .int (nI y))]) hx hb dX5_balance_99 hl (k := 4) rfl (nI_inc _) (by decide) rfl (fun ls hl => ?_)
                refine lv_goto (tgt := 15) hx hb dX5_balance_102 (by decide) ?_
                exact ih15 (z + 1) lf (by omega) (by omega) (by show _ + (bR (gsCr st) (gsCd st) z + cntL (fitP (gsCr st) (gsCd st) z) (gsCd st).1) = bb; rw [show y = (gsCd st).1 from by omega] at h2; exact h2) _ _ hP hS ls (lv_sub hl [1, 2, 3, 4, 0] rfl)
              · have c41 := mt (nI_leI (by omega) (by omega)).mpr c41
                refine lv_aload_n hx hb dX5_balance_44 rfl (lv_at hl 0 rfl) ?_
                refine lv_iload hx hb dX5_balance_45 (lv_at hl 4 rfl) ?_
                refine lv_iload hx hb dX5_balance_47 (lv_at hl 5 rfl) ?_
                refine g_cp (g_rV (As := [.int (nI z), .int (nI y)]) hC hP (c_X5_isBalance l hP (h := h) (a9 := z) (b9 := y) (Cr := gsCr st) (Cd := gsCd st) (by first | assumption | omega) hcr0 hcr1 hcb.2.1 hcb.2.2 hcb.1.1 hcb.1.2 (by first | assumption | omega) (by first | assumption | omega)) hm.1 rfl ⟨q3_221, q3_218, q3_220, qs_43, q1_6⟩ dd_X5_isBalance ⟨Nat.le_of_ble_eq_true rfl, Nat.le_of_ble_eq_true rfl, rfl, rfl⟩ hl.1 rfl (Nat.le_of_ble_eq_true rfl) dX5_balance_49 ⟨Nat.le_of_ble_eq_true rfl, Nat.le_of_ble_eq_true rfl⟩) ?_
                refine W.eq (g2 := F0 m 52 ls [.int (gb (fitP (gsCr st) (gsCd st) z y))]) rfl ?_
                refine lv_if_eq (tgt := 93) hx hb dX5_balance_52 (by decide) (fun c52 => ?_) (fun c52 => ?_)
                · have c52 := gb_f c52
                  refine lv_iinc (v := nI (y + 1)) (lv' := [(5, .int (nI (y + 1))), (0, .ref h), (1, .int (nI bb)), (2, .int f), (3, .int (nI lf)), (4, .int (nI z))]) hx hb dX5_balance_93 hl (k := 5) rfl (nI_inc _) (by decide) rfl (fun ls hl => ?_)
                  refine lv_goto (tgt := 33) hx hb dX5_balance_96 (by decide) ?_
                  exact ih33 (y + 1) lf (by omega) (by omega) (by show _ + (_ + (cntL _ y + (if fitP (gsCr st) (gsCd st) z y then 1 else 0))) = bb; rw [c52]; first | (rw [if_pos rfl]; omega) | (rw [if_neg (by decide)]; omega)) _ _ hP hS ls (lv_sub hl [1, 2, 3, 4, 5, 0] rfl)
                · have c52 := gb_t c52
                  refine lv_iload_n hx hb dX5_balance_55 rfl (lv_at hl 3 rfl) ?_
                  refine lv_if_ne (tgt := 90) hx hb dX5_balance_56 (by decide) (fun c56 => ?_) (fun c56 => ?_)
                  · have c56 := mt (fun q => ((nI_eq (b := 0) (by omega) (by decide)).mpr q).trans nI_0) c56
                    refine lv_iinc (v := nI (lf - 1)) (lv' := [(3, .int (nI (lf - 1))), (0, .ref h), (1, .int (nI bb)), (2, .int f), (4, .int (nI z)), (5, .int (nI y))]) hx hb dX5_balance_90 hl (k := 3) rfl (nI_dec (by omega)) (by decide) rfl (fun ls hl => ?_)
                    refine lv_iinc (v := nI (y + 1)) (lv' := [(5, .int (nI (y + 1))), (3, .int (nI (lf - 1))), (0, .ref h), (1, .int (nI bb)), (2, .int f), (4, .int (nI z))]) hx hb dX5_balance_93 hl (k := 5) rfl (nI_inc _) (by decide) rfl (fun ls hl => ?_)
                    refine lv_goto (tgt := 33) hx hb dX5_balance_96 (by decide) ?_
                    exact ih33 (y + 1) (lf - 1) (by omega) (by omega) (by show _ + (_ + (cntL _ y + (if fitP (gsCr st) (gsCd st) z y then 1 else 0))) = bb; rw [c52]; first | (rw [if_pos rfl]; omega) | (rw [if_neg (by decide)]; omega)) _ _ hP hS ls (lv_sub hl [2, 3, 4, 1, 5, 0] rfl)
                  · have c56 := (nI_eq (by omega) (by decide)).mp (c56.trans nI_0.symm)
                    refine lv_iload_n hx hb dX5_balance_59 rfl (lv_at hl 2 rfl) ?_
                    refine lv_i2l hx hb dX5_balance_60 rfl ?_
                    refine lv_lconst (v := 0) hx hb dX5_balance_61 (by decide) ?_
                    refine lv_ldc2 (v := (6 : Int64)) hx hb hC.1.2.2.2.1 (hC.1.2.2.2.2 _ q3_226) dX5_balance_62 ?_
                    refine g_cp (g_rS (As := [.long f.toInt64, .long (0 : Int64), .long (6 : Int64)]) hC (c_X5_in l (a := f.toInt64) (b2 := (0 : Int64)) (d2 := (6 : Int64))) ⟨q3_85, q3_83, q3_84, q1_6⟩ dd_X5_in ⟨Nat.le_of_ble_eq_true rfl, Nat.le_of_ble_eq_true rfl, rfl, rfl⟩ hl.1 rfl (Nat.le_of_ble_eq_true rfl) dX5_balance_65 ⟨Nat.le_of_ble_eq_true rfl, Nat.le_of_ble_eq_true rfl⟩) ?_
                    refine W.eq (g2 := F0 m 68 ls [.int (gb (inL f.toInt64 (0 : Int64) (6 : Int64)))]) rfl ?_
                    refine lv_if_eq (tgt := 83) hx hb dX5_balance_68 (by decide) (fun c68 => ?_) (fun c68 => ?_)
                    · have c68 := gb_f c68
                      have c68 := inL_out (n := 6) (by decide) c68
                      refine lv_aload_n hx hb dX5_balance_83 rfl (lv_at hl 0 rfl) ?_
                      refine lv_bipush (v := (-2)) hx hb dX5_balance_84 (by decide) ?_
                      refine g_cc (g_rV (As := [.int (-2 : Int32)]) hC hP (c_X5_refuseGreat l hP (h := h) (q := (-2 : Int32)) (j := 2) (by first | assumption | omega) (by decide) (by omega)) hm.1 rfl ⟨q3_107, q3_104, q3_106, qs_28, q1_6⟩ dd_X5_refuseGreat ⟨Nat.le_of_ble_eq_true rfl, Nat.le_of_ble_eq_true rfl, rfl, rfl⟩ hl.1 rfl (Nat.le_of_ble_eq_true rfl) dX5_balance_86 ⟨Nat.le_of_ble_eq_true rfl, Nat.le_of_ble_eq_true rfl⟩) hS (fun q h => h.elim (hTA q) (fun z => hA q (Nat.le_trans hS.1 z))) (fun r42 H38 locs39 hq43 hS hz40 hfr41 => ?_)
                      obtain ⟨rfl, hP⟩ := hq43
                      obtain ⟨I44, hI44, hP⟩ : ∃ I44 : gI, I44 = au I15 (h + 4) 2 (I15 (h + 4) 2 + 1) ∧ gP G T I44 J16 Q O H38 := ⟨_, rfl, hP⟩
                      refine W.eq (g2 := F0 m 89 ls [.long (4000000000000000000 - (-2 : Int32).toInt64)]) rfl ?_
                      refine g_retcl hC hS ?_ dX5_balance_89
                      refine Or.inr ⟨bb, z, y, hbb, rfl, by omega, by omega, c52, ?_, ?_⟩
                      · show bR (gsCr st) (gsCd st) z + cntL (fitP (gsCr st) (gsCd st) z) y = bb; omega
                      · exact Or.inl ⟨c68, rfl, mo_ref hm hsn1 (j := 2) (by decide) hI44 hP⟩
                    · have c68 := gb_t c68
                      have c68 := (inL_rng (n := 6) (by decide)).mp c68
                      obtain ⟨k9, hk9, rfl⟩ := f_nat (n := 6) (by decide) c68
                      refine lv_aload_n hx hb dX5_balance_71 rfl (lv_at hl 0 rfl) ?_
                      refine lv_iload hx hb dX5_balance_72 (lv_at hl 4 rfl) ?_
                      refine lv_iload hx hb dX5_balance_74 (lv_at hl 5 rfl) ?_
                      refine lv_iload_n hx hb dX5_balance_76 rfl (lv_at hl 2 rfl) ?_
                      refine g_cp (g_rV (As := [.int (nI z), .int (nI y), .int (nI k9)]) hC hP (c_X5_told l hP (h := h) (a9 := z) (b9 := y) (k9 := k9) (Cr := gsCr st) (Cd := gsCd st) (by first | assumption | omega) (by first | assumption | omega) (by first | assumption | omega) (by first | assumption | omega) hcr0 hcr1 hcb.2.1 hcb.2.2 hcb.1.1 hcb.1.2 (by first | assumption | omega) (by first | assumption | omega) hlg.1 hlg.2 (by first | assumption | omega)) hm.1 rfl ⟨q3_230, q3_227, q3_229, qs_44, q1_6⟩ dd_X5_told ⟨Nat.le_of_ble_eq_true rfl, Nat.le_of_ble_eq_true rfl, rfl, rfl⟩ hl.1 rfl (Nat.le_of_ble_eq_true rfl) dX5_balance_77 ⟨Nat.le_of_ble_eq_true rfl, Nat.le_of_ble_eq_true rfl⟩) ?_
                      refine W.eq (g2 := F0 m 80 ls [.long (tolV st ((gsCr st).2 z) ((gsCd st).2 y) z y k9)]) rfl ?_
                      refine lv_goto (tgt := 89) hx hb dX5_balance_80 (by decide) ?_
                      refine g_retcl hC hS ?_ dX5_balance_89
                      refine Or.inr ⟨bb, z, y, hbb, rfl, by omega, by omega, c52, ?_, ?_⟩
                      · show bR (gsCr st) (gsCd st) z + cntL (fitP (gsCr st) (gsCd st) z) y = bb; omega
                      · exact bal_end hk9 ⟨rfl, mo_same hm hsn1 hP⟩
          exact L33 70 0 lf (by omega) (by omega) h1 _ _ hP hS ls (lv_sub hl [1, 2, 3, 4, 5, 0] rfl)
    exact L15 70 0 bb (by omega) (by omega) (by show bb + 0 = bb; omega) _ _ hP hS ls (lv_sub hl [2, 3, 4, 1, 0] rfl)
