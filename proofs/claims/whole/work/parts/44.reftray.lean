/-! ===== the reference: sums, trays ===== -/
def sWm (w : Nat → Int32) : Nat → Int32
  | 0 => 0
  | k + 1 => sWm w k + w k
theorem many_eq {u : Nat} (hu : u < 16) : (nI u &&& nI 1) + ((nI u >>> (nI 1 &&& 31)) &&& nI 1) + ((nI u >>> (nI 2 &&& 31)) &&& nI 1) + ((nI u >>> (nI 3 &&& 31)) &&& nI 1) = nI (popc u) := by
  have q : ∀ u, u < 16 → (nI u &&& nI 1) + ((nI u >>> (nI 1 &&& 31)) &&& nI 1) + ((nI u >>> (nI 2 &&& 31)) &&& nI 1) + ((nI u >>> (nI 3 &&& 31)) &&& nI 1) = nI (popc u) := by decide +kernel
  exact q u hu
set_option maxHeartbeats 4000000 in
set_option maxRecDepth 100000 in
theorem c_X5_manyIn (l : Launch) {G : gG} {H : Heap} {u : Nat} (hu : u < 16) : Met l yX5_manyIn (gw yX5_manyIn cX5_manyIn 1 (some (.int))) ({ frames := 0, cells := 0, slots := 0, locals := 0 } : Room) (gPc G H [.int (nI u)]) (gQp (some (.int (nI (popc u))))) 0 0 (fun _ => False) := by
  refine g_met [(0, .int (nI u))] (by decide) rfl (by exact Nat.le_of_ble_eq_true rfl) ?_
  intro p e s m below meth c hC hs ls hl
  have hx := hC.1.1
  have hb := hC.1.2.1
  refine lv_iload_n hx hb dX5_manyIn_0 rfl (lv_at hl 0 rfl) ?_
  refine lv_iconst (v := nI 1) hx hb dX5_manyIn_1 (by decide) ?_
  refine lv_iand hx hb dX5_manyIn_2 ?_
  refine lv_iload_n hx hb dX5_manyIn_3 rfl (lv_at hl 0 rfl) ?_
  refine lv_iconst (v := nI 1) hx hb dX5_manyIn_4 (by decide) ?_
  refine lv_ishr hx hb dX5_manyIn_5 ?_
  refine lv_iconst (v := nI 1) hx hb dX5_manyIn_6 (by decide) ?_
  refine lv_iand hx hb dX5_manyIn_7 ?_
  refine lv_iadd hx hb dX5_manyIn_8 ?_
  refine lv_iload_n hx hb dX5_manyIn_9 rfl (lv_at hl 0 rfl) ?_
  refine lv_iconst (v := nI 2) hx hb dX5_manyIn_10 (by decide) ?_
  refine lv_ishr hx hb dX5_manyIn_11 ?_
  refine lv_iconst (v := nI 1) hx hb dX5_manyIn_12 (by decide) ?_
  refine lv_iand hx hb dX5_manyIn_13 ?_
  refine lv_iadd hx hb dX5_manyIn_14 ?_
  refine lv_iload_n hx hb dX5_manyIn_15 rfl (lv_at hl 0 rfl) ?_
  refine lv_iconst (v := nI 3) hx hb dX5_manyIn_16 (by decide) ?_
  refine lv_ishr hx hb dX5_manyIn_17 ?_
  refine lv_iconst (v := nI 1) hx hb dX5_manyIn_18 (by decide) ?_
  refine lv_iand hx hb dX5_manyIn_19 ?_
  refine lv_iadd hx hb dX5_manyIn_20 ?_
  refine g_reti hC hs ?_ dX5_manyIn_21
  exact many_eq hu
set_option maxHeartbeats 4000000 in
set_option maxRecDepth 100000 in
theorem c_X5_sumOf_0 (l : Launch) {G : gG} {T : gTy} {I : gI} {J : gJ} {Q : gR} {O : gO} {H : Heap} (hP : gP G T I J Q O H) {h : Nat} {st : GS} (hm : isMo T O h) (hs0 : moS I h st) : Met l yX5_sumOf (gw yX5_sumOf cX5_sumOf 4 (some (.int))) ({ frames := 0, cells := 0, slots := 0, locals := 0 } : Room) (gPc G H [.ref h, .int (nI 0)]) (gQp (some (.int (sWm (gsw0 st) (gsm st))))) 0 0 (fun _ => False) := by
  refine g_met [(0, .ref h), (1, .int (nI 0))] (by decide) rfl (by exact Nat.le_of_ble_eq_true rfl) ?_
  intro p e s m below meth c hC hs ls hl
  have hx := hC.1.1
  have hb := hC.1.2.1
  have hms := hs0.1
  have hns := hs0.2.1
  refine lv_iconst (v := nI 0) hx hb dX5_sumOf_0 (by decide) ?_
  refine lv_istore_n (lv' := [(2, .int (nI 0)), (0, .ref h), (1, .int (nI 0))]) hx hb dX5_sumOf_1 rfl hl (by decide) rfl (fun ls hl => ?_)
  refine lv_iconst (v := nI 0) hx hb dX5_sumOf_2 (by decide) ?_
  refine lv_istore_n (lv' := [(3, .int (nI 0)), (2, .int (nI 0)), (0, .ref h), (1, .int (nI 0))]) hx hb dX5_sumOf_3 rfl hl (by decide) rfl (fun ls hl => ?_)
  have L4 : ∀ (n4 : Nat) (z : Nat) (x : Int32), 5 ≤ n4 + z → (z ≤ gsm st) → (x = sWm (gsw0 st) z) → ∀ ls : Array Slot, lv_has ls 4 [(0, .ref h), (1, .int (nI 0)), (2, .int x), (3, .int (nI z))] → W p l e ({ frames := 0, cells := 0, slots := 0, locals := 0 } : Room) s m [.ref h, .int (nI 0)].toArray below meth c H [] 0 0 (MQ below (gQp (some (.int (sWm (gsw0 st) (gsm st))))) [.ref h, .int (nI 0)].toArray s 0 0 (fun _ => False)) (F0 m 4 ls []) := by
    intro n4
    induction n4 with
    | zero => intro z x hn4 hz h1; exact absurd hn4 (by omega)
    | succ n4 ih4 =>
      intro z x hn4 hz h1 ls hl
      refine lv_iload_n hx hb dX5_sumOf_4 rfl (lv_at hl 3 rfl) ?_
      refine lv_aload_n hx hb dX5_sumOf_5 rfl (lv_at hl 0 rfl) ?_
      refine g_get hC hP hm.1 rfl inX5 0 (by decide) q3_6 hm.2.1.1 dX5_sumOf_6 ?_
      refine lv_iload_n hx hb dX5_sumOf_9 rfl (lv_at hl 1 rfl) ?_
      refine g_iald hC hP hm.2.1.2 (vp_in_nI (by omega) (by decide)) dX5_sumOf_10 ?_
      refine g_topi (y := nI (gsm st)) hs0.2.2.1 ?_
      refine lv_icmp_ge (tgt := 33) hx hb dX5_sumOf_11 (by decide) (fun c11 => ?_) (fun c11 => ?_)
      · have c11 := (nI_leI (by omega) (by omega)).mp c11
        refine lv_iload_n hx hb dX5_sumOf_33 rfl (lv_at hl 2 rfl) ?_
        refine g_reti hC hs ?_ dX5_sumOf_34
        rw [h1, show z = gsm st from by omega]
      · have c11 := mt (nI_leI (by omega) (by omega)).mpr c11
        refine lv_iload_n hx hb dX5_sumOf_14 rfl (lv_at hl 2 rfl) ?_
        refine lv_aload_n hx hb dX5_sumOf_15 rfl (lv_at hl 0 rfl) ?_
        refine g_get hC hP hm.1 rfl inX5 2 (by decide) q3_8 hm.2.2.2.1.1 dX5_sumOf_16 ?_
        refine lv_iconst (v := nI 4) hx hb dX5_sumOf_19 (by decide) ?_
        refine lv_iload_n hx hb dX5_sumOf_20 rfl (lv_at hl 1 rfl) ?_
        refine lv_imul hx hb dX5_sumOf_21 ?_
        refine g_topi (y := nI (4 * 0)) (nI_mul _ _) ?_
        refine lv_iload_n hx hb dX5_sumOf_22 rfl (lv_at hl 3 rfl) ?_
        refine lv_iadd hx hb dX5_sumOf_23 ?_
        refine g_topi (y := nI (4 * 0 + z)) (nI_add _ _) ?_
        refine g_iald hC hP hm.2.2.2.1.2 (vp_in_nI (by omega) (by decide)) dX5_sumOf_24 ?_
        refine g_topi (y := gsw0 st z) ((congrArg (I (h + 3)) (nI_clamp (by omega))).trans (by rw [show 4 * 0 + z = z from by omega]; exact hs0.2.2.2.2.2.2.1 z (by omega))) ?_
        refine lv_iadd hx hb dX5_sumOf_25 ?_
        refine lv_istore_n (lv' := [(2, .int (x + (gsw0 st z))), (0, .ref h), (1, .int (nI 0)), (3, .int (nI z))]) hx hb dX5_sumOf_26 rfl hl (by decide) rfl (fun ls hl => ?_)
        refine lv_iinc (v := nI (z + 1)) (lv' := [(3, .int (nI (z + 1))), (2, .int (x + (gsw0 st z))), (0, .ref h), (1, .int (nI 0))]) hx hb dX5_sumOf_27 hl (k := 3) rfl (nI_inc _) (by decide) rfl (fun ls hl => ?_)
        refine lv_goto (tgt := 4) hx hb dX5_sumOf_30 (by decide) ?_
        exact ih4 (z + 1) (x + (gsw0 st z)) (by omega) (by omega) (by rw [h1]; rfl) ls (lv_sub hl [2, 3, 1, 0] rfl)
  exact L4 5 0 (nI 0) (by omega) (by omega) rfl ls (lv_sub hl [2, 3, 1, 0] rfl)
set_option maxHeartbeats 4000000 in
set_option maxRecDepth 100000 in
theorem c_X5_sumOf_1 (l : Launch) {G : gG} {T : gTy} {I : gI} {J : gJ} {Q : gR} {O : gO} {H : Heap} (hP : gP G T I J Q O H) {h : Nat} {st : GS} (hm : isMo T O h) (hs0 : moS I h st) : Met l yX5_sumOf (gw yX5_sumOf cX5_sumOf 4 (some (.int))) ({ frames := 0, cells := 0, slots := 0, locals := 0 } : Room) (gPc G H [.ref h, .int (nI 1)]) (gQp (some (.int (sWm (gsw1 st) (gsn st))))) 0 0 (fun _ => False) := by
  refine g_met [(0, .ref h), (1, .int (nI 1))] (by decide) rfl (by exact Nat.le_of_ble_eq_true rfl) ?_
  intro p e s m below meth c hC hs ls hl
  have hx := hC.1.1
  have hb := hC.1.2.1
  have hms := hs0.1
  have hns := hs0.2.1
  refine lv_iconst (v := nI 0) hx hb dX5_sumOf_0 (by decide) ?_
  refine lv_istore_n (lv' := [(2, .int (nI 0)), (0, .ref h), (1, .int (nI 1))]) hx hb dX5_sumOf_1 rfl hl (by decide) rfl (fun ls hl => ?_)
  refine lv_iconst (v := nI 0) hx hb dX5_sumOf_2 (by decide) ?_
  refine lv_istore_n (lv' := [(3, .int (nI 0)), (2, .int (nI 0)), (0, .ref h), (1, .int (nI 1))]) hx hb dX5_sumOf_3 rfl hl (by decide) rfl (fun ls hl => ?_)
  have L4 : ∀ (n4 : Nat) (z : Nat) (x : Int32), 5 ≤ n4 + z → (z ≤ gsn st) → (x = sWm (gsw1 st) z) → ∀ ls : Array Slot, lv_has ls 4 [(0, .ref h), (1, .int (nI 1)), (2, .int x), (3, .int (nI z))] → W p l e ({ frames := 0, cells := 0, slots := 0, locals := 0 } : Room) s m [.ref h, .int (nI 1)].toArray below meth c H [] 0 0 (MQ below (gQp (some (.int (sWm (gsw1 st) (gsn st))))) [.ref h, .int (nI 1)].toArray s 0 0 (fun _ => False)) (F0 m 4 ls []) := by
    intro n4
    induction n4 with
    | zero => intro z x hn4 hz h1; exact absurd hn4 (by omega)
    | succ n4 ih4 =>
      intro z x hn4 hz h1 ls hl
      refine lv_iload_n hx hb dX5_sumOf_4 rfl (lv_at hl 3 rfl) ?_
      refine lv_aload_n hx hb dX5_sumOf_5 rfl (lv_at hl 0 rfl) ?_
      refine g_get hC hP hm.1 rfl inX5 0 (by decide) q3_6 hm.2.1.1 dX5_sumOf_6 ?_
      refine lv_iload_n hx hb dX5_sumOf_9 rfl (lv_at hl 1 rfl) ?_
      refine g_iald hC hP hm.2.1.2 (vp_in_nI (by omega) (by decide)) dX5_sumOf_10 ?_
      refine g_topi (y := nI (gsn st)) hs0.2.2.2.1 ?_
      refine lv_icmp_ge (tgt := 33) hx hb dX5_sumOf_11 (by decide) (fun c11 => ?_) (fun c11 => ?_)
      · have c11 := (nI_leI (by omega) (by omega)).mp c11
        refine lv_iload_n hx hb dX5_sumOf_33 rfl (lv_at hl 2 rfl) ?_
        refine g_reti hC hs ?_ dX5_sumOf_34
        rw [h1, show z = gsn st from by omega]
      · have c11 := mt (nI_leI (by omega) (by omega)).mpr c11
        refine lv_iload_n hx hb dX5_sumOf_14 rfl (lv_at hl 2 rfl) ?_
        refine lv_aload_n hx hb dX5_sumOf_15 rfl (lv_at hl 0 rfl) ?_
        refine g_get hC hP hm.1 rfl inX5 2 (by decide) q3_8 hm.2.2.2.1.1 dX5_sumOf_16 ?_
        refine lv_iconst (v := nI 4) hx hb dX5_sumOf_19 (by decide) ?_
        refine lv_iload_n hx hb dX5_sumOf_20 rfl (lv_at hl 1 rfl) ?_
        refine lv_imul hx hb dX5_sumOf_21 ?_
        refine g_topi (y := nI (4 * 1)) (nI_mul _ _) ?_
        refine lv_iload_n hx hb dX5_sumOf_22 rfl (lv_at hl 3 rfl) ?_
        refine lv_iadd hx hb dX5_sumOf_23 ?_
        refine g_topi (y := nI (4 * 1 + z)) (nI_add _ _) ?_
        refine g_iald hC hP hm.2.2.2.1.2 (vp_in_nI (by omega) (by decide)) dX5_sumOf_24 ?_
        refine g_topi (y := gsw1 st z) ((congrArg (I (h + 3)) (nI_clamp (by omega))).trans (hs0.2.2.2.2.2.2.2.1 z (by omega))) ?_
        refine lv_iadd hx hb dX5_sumOf_25 ?_
        refine lv_istore_n (lv' := [(2, .int (x + (gsw1 st z))), (0, .ref h), (1, .int (nI 1)), (3, .int (nI z))]) hx hb dX5_sumOf_26 rfl hl (by decide) rfl (fun ls hl => ?_)
        refine lv_iinc (v := nI (z + 1)) (lv' := [(3, .int (nI (z + 1))), (2, .int (x + (gsw1 st z))), (0, .ref h), (1, .int (nI 1))]) hx hb dX5_sumOf_27 hl (k := 3) rfl (nI_inc _) (by decide) rfl (fun ls hl => ?_)
        refine lv_goto (tgt := 4) hx hb dX5_sumOf_30 (by decide) ?_
        exact ih4 (z + 1) (x + (gsw1 st z)) (by omega) (by omega) (by rw [h1]; rfl) ls (lv_sub hl [2, 3, 1, 0] rfl)
  exact L4 5 0 (nI 0) (by omega) (by omega) rfl ls (lv_sub hl [2, 3, 1, 0] rfl)
theorem trayX_0 (X : Nat → Int64) (w : Nat → Int32) (ch : Nat) : trayX X w ch 0 = X := by
  funext j
  unfold trayX
  rw [if_neg (Nat.not_lt_zero j)]
theorem show_s {J J1 J2 : gJ} {h z m n : Nat} {w0 w1 : Nat → Int32} {a b : Int64} (h1 : J1 = au (gu (gu J (h + 5) (trayX (J (h + 5)) w0 m z)) (h + 6) (trayX (J (h + 6)) w1 n z)) (h + 5) z a) (h2 : J2 = au J1 (h + 6) z b) (ha : a = if z < m then (w0 z).toInt64 else 0) (hb : b = if z < n then (w1 z).toInt64 else 0) : J2 = gu (gu J (h + 5) (trayX (J (h + 5)) w0 m (z + 1))) (h + 6) (trayX (J (h + 6)) w1 n (z + 1)) := by
  rw [← trayX_s, ← trayX_s, h2, h1, ha, hb]
  funext q
  unfold au
  by_cases e5 : q = h + 5
  · subst e5; simp [gu]
  · by_cases e6 : q = h + 6
    · subst e6; simp [gu]
    · simp [gu, e5, e6]
set_option maxHeartbeats 4000000 in
set_option maxRecDepth 100000 in
theorem c_X5_showTray (l : Launch) {G : gG} {T : gTy} {I : gI} {J : gJ} {Q : gR} {O : gO} {H : Heap} (hP : gP G T I J Q O H) {h : Nat} {st : GS} (hm : isMo T O h) (hs0 : moS I h st) : Met l yX5_showTray (gw yX5_showTray cX5_showTray 2 (none)) ({ frames := 0, cells := 0, slots := 0, locals := 0 } : Room) (gPc G H [.ref h]) (gQc (gF T H) (fun r H1 => r = none ∧ gP G T I (gu (gu J (h + 5) (trayX (J (h + 5)) (gsw0 st) (gsm st) 4)) (h + 6) (trayX (J (h + 6)) (gsw1 st) (gsn st) 4)) Q O H1)) 0 0 (gF T H) := by
  refine g_met [(0, .ref h)] (by decide) rfl (by exact Nat.le_of_ble_eq_true rfl) ?_
  intro p e s m below meth c hC hs ls hl
  have hx := hC.1.1
  have hb := hC.1.2.1
  have hS : va_S (gF T H) s.heap H [] := hs ▸ va_S.rf
  have hTA : ∀ q, (T q).1 ≠ 0 → gF T H q := fun q h => Or.inl h
  have hA : ∀ q, s.heap.size ≤ q → gF T H q := fun q h => Or.inr (hs ▸ h)
  generalize hAe : gF T H = A at hS hTA hA ⊢
  have hms := hs0.1
  have hns := hs0.2.1
  refine lv_iconst (v := nI 0) hx hb dX5_showTray_0 (by decide) ?_
  refine lv_istore_n (lv' := [(1, .int (nI 0)), (0, .ref h)]) hx hb dX5_showTray_1 rfl hl (by decide) rfl (fun ls hl => ?_)
  have L2 : ∀ (n2 : Nat) (z : Nat) (J9 : gJ), 5 ≤ n2 + z → (z ≤ 4) → (J9 = gu (gu J (h + 5) (trayX (J (h + 5)) (gsw0 st) (gsm st) z)) (h + 6) (trayX (J (h + 6)) (gsw1 st) (gsn st) z)) → ∀ (Hl : Heap) (lcl : List Loc), gP G T I J9 Q O Hl → va_S A s.heap Hl lcl → ∀ ls : Array Slot, lv_has ls 2 [(0, .ref h), (1, .int (nI z))] → W p l e ({ frames := 0, cells := 0, slots := 0, locals := 0 } : Room) s m [.ref h].toArray below meth c Hl lcl 0 0 (MQ below (gQc A (fun r H1 => r = none ∧ gP G T I (gu (gu J (h + 5) (trayX (J (h + 5)) (gsw0 st) (gsm st) 4)) (h + 6) (trayX (J (h + 6)) (gsw1 st) (gsn st) 4)) Q O H1)) [.ref h].toArray s 0 0 A) (F0 m 2 ls []) := by
    intro n2
    induction n2 with
    | zero => intro z J9 hn2 hz h1; exact absurd hn2 (by omega)
    | succ n2 ih2 =>
      intro z J9 hn2 hz h1 Hl lcl hP hS ls hl
      refine lv_iload_n hx hb dX5_showTray_2 rfl (lv_at hl 1 rfl) ?_
      refine lv_iconst (v := nI 4) hx hb dX5_showTray_3 (by decide) ?_
      refine lv_icmp_ge (tgt := 69) hx hb dX5_showTray_4 (by decide) (fun c4 => ?_) (fun c4 => ?_)
      · have c4 := (nI_leI (by omega) (by omega)).mp c4
        refine g_retcv hC hS ?_ dX5_showTray_69
        have e : z = 4 := (by omega)
        subst e
        subst h1
        exact ⟨rfl, hP⟩
      · have c4 := mt (nI_leI (by omega) (by omega)).mpr c4
        refine lv_aload_n hx hb dX5_showTray_7 rfl (lv_at hl 0 rfl) ?_
        refine g_get hC hP hm.1 rfl inX5 4 (by decide) q3_10 hm.2.2.2.2.2.1.1 dX5_showTray_8 ?_
        refine lv_iload_n hx hb dX5_showTray_11 rfl (lv_at hl 1 rfl) ?_
        refine lv_iload_n hx hb dX5_showTray_12 rfl (lv_at hl 1 rfl) ?_
        refine lv_aload_n hx hb dX5_showTray_13 rfl (lv_at hl 0 rfl) ?_
        refine g_get hC hP hm.1 rfl inX5 0 (by decide) q3_6 hm.2.1.1 dX5_showTray_14 ?_
        refine lv_iconst (v := nI 0) hx hb dX5_showTray_17 (by decide) ?_
        refine g_iald hC hP hm.2.1.2 (vp_in_nI (by omega) (by decide)) dX5_showTray_18 ?_
        refine g_topi (y := nI (gsm st)) hs0.2.2.1 ?_
        refine lv_icmp_ge (tgt := 32) hx hb dX5_showTray_19 (by decide) (fun c19 => ?_) (fun c19 => ?_)
        · have c19 := (nI_leI (by omega) (by omega)).mp c19
          refine lv_lconst (v := 0) hx hb dX5_showTray_32 (by decide) ?_
          refine g_last hC hP hS hTA hm.2.2.2.2.2.1.2 (vp_in_nI (by omega) (by decide)) dX5_showTray_33 (fun H1 locs2 hP hS hz4 => ?_)
          rw [show (nI z).toNatClampNeg = z from nI_clamp (by omega)] at hP
          obtain ⟨J3, hJ3, hP⟩ : ∃ X : gJ, X = au J9 (h + 5) z (0 : Int64) ∧ gP G T I X Q O H1 := ⟨_, rfl, hP⟩
          refine lv_aload_n hx hb dX5_showTray_34 rfl (lv_at hl 0 rfl) ?_
          refine g_get hC hP hm.1 rfl inX5 5 (by decide) q3_11 hm.2.2.2.2.2.2.1.1 dX5_showTray_35 ?_
          refine lv_iload_n hx hb dX5_showTray_38 rfl (lv_at hl 1 rfl) ?_
          refine lv_iload_n hx hb dX5_showTray_39 rfl (lv_at hl 1 rfl) ?_
          refine lv_aload_n hx hb dX5_showTray_40 rfl (lv_at hl 0 rfl) ?_
          refine g_get hC hP hm.1 rfl inX5 0 (by decide) q3_6 hm.2.1.1 dX5_showTray_41 ?_
          refine lv_iconst (v := nI 1) hx hb dX5_showTray_44 (by decide) ?_
          refine g_iald hC hP hm.2.1.2 (vp_in_nI (by omega) (by decide)) dX5_showTray_45 ?_
          refine g_topi (y := nI (gsn st)) hs0.2.2.2.1 ?_
          refine lv_icmp_ge (tgt := 61) hx hb dX5_showTray_46 (by decide) (fun c46 => ?_) (fun c46 => ?_)
          · have c46 := (nI_leI (by omega) (by omega)).mp c46
            refine lv_lconst (v := 0) hx hb dX5_showTray_61 (by decide) ?_
            refine g_last hC hP hS hTA hm.2.2.2.2.2.2.1.2 (vp_in_nI (by omega) (by decide)) dX5_showTray_62 (fun H5 locs6 hP hS hz8 => ?_)
            rw [show (nI z).toNatClampNeg = z from nI_clamp (by omega)] at hP
            obtain ⟨J7, hJ7, hP⟩ : ∃ X : gJ, X = au J3 (h + 6) z (0 : Int64) ∧ gP G T I X Q O H5 := ⟨_, rfl, hP⟩
            refine lv_iinc (v := nI (z + 1)) (lv' := [(1, .int (nI (z + 1))), (0, .ref h)]) hx hb dX5_showTray_63 hl (k := 1) rfl (nI_inc _) (by decide) rfl (fun ls hl => ?_)
            refine lv_goto (tgt := 2) hx hb dX5_showTray_66 (by decide) ?_
            exact ih2 (z + 1) J7 (by omega) (by omega) (by subst h1; exact show_s (by assumption) (by assumption) (by first | rw [if_pos (by omega)] | rw [if_neg (by omega)]) (by first | rw [if_pos (by omega)] | rw [if_neg (by omega)])) _ _ hP hS ls (lv_sub hl [1, 0] rfl)
          · have c46 := mt (nI_leI (by omega) (by omega)).mpr c46
            refine lv_aload_n hx hb dX5_showTray_49 rfl (lv_at hl 0 rfl) ?_
            refine g_get hC hP hm.1 rfl inX5 2 (by decide) q3_8 hm.2.2.2.1.1 dX5_showTray_50 ?_
            refine lv_iconst (v := nI 4) hx hb dX5_showTray_53 (by decide) ?_
            refine lv_iload_n hx hb dX5_showTray_54 rfl (lv_at hl 1 rfl) ?_
            refine lv_iadd hx hb dX5_showTray_55 ?_
            refine g_topi (y := nI (4 + z)) (nI_add _ _) ?_
            refine g_iald hC hP hm.2.2.2.1.2 (vp_in_nI (by omega) (by decide)) dX5_showTray_56 ?_
            refine g_topi (y := gsw1 st z) ((congrArg (I (h + 3)) (nI_clamp (by omega))).trans (hs0.2.2.2.2.2.2.2.1 z (by omega))) ?_
            refine lv_i2l hx hb dX5_showTray_57 rfl ?_
            refine lv_goto (tgt := 62) hx hb dX5_showTray_58 (by decide) ?_
            refine g_last hC hP hS hTA hm.2.2.2.2.2.2.1.2 (vp_in_nI (by omega) (by decide)) dX5_showTray_62 (fun H9 locs10 hP hS hz12 => ?_)
            rw [show (nI z).toNatClampNeg = z from nI_clamp (by omega)] at hP
            obtain ⟨J11, hJ11, hP⟩ : ∃ X : gJ, X = au J3 (h + 6) z ((gsw1 st z).toInt64) ∧ gP G T I X Q O H9 := ⟨_, rfl, hP⟩
            refine lv_iinc (v := nI (z + 1)) (lv' := [(1, .int (nI (z + 1))), (0, .ref h)]) hx hb dX5_showTray_63 hl (k := 1) rfl (nI_inc _) (by decide) rfl (fun ls hl => ?_)
            refine lv_goto (tgt := 2) hx hb dX5_showTray_66 (by decide) ?_
            exact ih2 (z + 1) J11 (by omega) (by omega) (by subst h1; exact show_s (by assumption) (by assumption) (by first | rw [if_pos (by omega)] | rw [if_neg (by omega)]) (by first | rw [if_pos (by omega)] | rw [if_neg (by omega)])) _ _ hP hS ls (lv_sub hl [1, 0] rfl)
        · have c19 := mt (nI_leI (by omega) (by omega)).mpr c19
          refine lv_aload_n hx hb dX5_showTray_22 rfl (lv_at hl 0 rfl) ?_
          refine g_get hC hP hm.1 rfl inX5 2 (by decide) q3_8 hm.2.2.2.1.1 dX5_showTray_23 ?_
          refine lv_iload_n hx hb dX5_showTray_26 rfl (lv_at hl 1 rfl) ?_
          refine g_iald hC hP hm.2.2.2.1.2 (vp_in_nI (by omega) (by decide)) dX5_showTray_27 ?_
          refine g_topi (y := gsw0 st z) ((congrArg (I (h + 3)) (nI_clamp (by omega))).trans (hs0.2.2.2.2.2.2.1 z (by omega))) ?_
          refine lv_i2l hx hb dX5_showTray_28 rfl ?_
          refine lv_goto (tgt := 33) hx hb dX5_showTray_29 (by decide) ?_
          refine g_last hC hP hS hTA hm.2.2.2.2.2.1.2 (vp_in_nI (by omega) (by decide)) dX5_showTray_33 (fun H13 locs14 hP hS hz16 => ?_)
          rw [show (nI z).toNatClampNeg = z from nI_clamp (by omega)] at hP
          obtain ⟨J15, hJ15, hP⟩ : ∃ X : gJ, X = au J9 (h + 5) z ((gsw0 st z).toInt64) ∧ gP G T I X Q O H13 := ⟨_, rfl, hP⟩
          refine lv_aload_n hx hb dX5_showTray_34 rfl (lv_at hl 0 rfl) ?_
          refine g_get hC hP hm.1 rfl inX5 5 (by decide) q3_11 hm.2.2.2.2.2.2.1.1 dX5_showTray_35 ?_
          refine lv_iload_n hx hb dX5_showTray_38 rfl (lv_at hl 1 rfl) ?_
          refine lv_iload_n hx hb dX5_showTray_39 rfl (lv_at hl 1 rfl) ?_
          refine lv_aload_n hx hb dX5_showTray_40 rfl (lv_at hl 0 rfl) ?_
          refine g_get hC hP hm.1 rfl inX5 0 (by decide) q3_6 hm.2.1.1 dX5_showTray_41 ?_
          refine lv_iconst (v := nI 1) hx hb dX5_showTray_44 (by decide) ?_
          refine g_iald hC hP hm.2.1.2 (vp_in_nI (by omega) (by decide)) dX5_showTray_45 ?_
          refine g_topi (y := nI (gsn st)) hs0.2.2.2.1 ?_
          refine lv_icmp_ge (tgt := 61) hx hb dX5_showTray_46 (by decide) (fun c46 => ?_) (fun c46 => ?_)
          · have c46 := (nI_leI (by omega) (by omega)).mp c46
            refine lv_lconst (v := 0) hx hb dX5_showTray_61 (by decide) ?_
            refine g_last hC hP hS hTA hm.2.2.2.2.2.2.1.2 (vp_in_nI (by omega) (by decide)) dX5_showTray_62 (fun H17 locs18 hP hS hz20 => ?_)
            rw [show (nI z).toNatClampNeg = z from nI_clamp (by omega)] at hP
            obtain ⟨J19, hJ19, hP⟩ : ∃ X : gJ, X = au J15 (h + 6) z (0 : Int64) ∧ gP G T I X Q O H17 := ⟨_, rfl, hP⟩
            refine lv_iinc (v := nI (z + 1)) (lv' := [(1, .int (nI (z + 1))), (0, .ref h)]) hx hb dX5_showTray_63 hl (k := 1) rfl (nI_inc _) (by decide) rfl (fun ls hl => ?_)
            refine lv_goto (tgt := 2) hx hb dX5_showTray_66 (by decide) ?_
            exact ih2 (z + 1) J19 (by omega) (by omega) (by subst h1; exact show_s (by assumption) (by assumption) (by first | rw [if_pos (by omega)] | rw [if_neg (by omega)]) (by first | rw [if_pos (by omega)] | rw [if_neg (by omega)])) _ _ hP hS ls (lv_sub hl [1, 0] rfl)
          · have c46 := mt (nI_leI (by omega) (by omega)).mpr c46
            refine lv_aload_n hx hb dX5_showTray_49 rfl (lv_at hl 0 rfl) ?_
            refine g_get hC hP hm.1 rfl inX5 2 (by decide) q3_8 hm.2.2.2.1.1 dX5_showTray_50 ?_
            refine lv_iconst (v := nI 4) hx hb dX5_showTray_53 (by decide) ?_
            refine lv_iload_n hx hb dX5_showTray_54 rfl (lv_at hl 1 rfl) ?_
            refine lv_iadd hx hb dX5_showTray_55 ?_
            refine g_topi (y := nI (4 + z)) (nI_add _ _) ?_
            refine g_iald hC hP hm.2.2.2.1.2 (vp_in_nI (by omega) (by decide)) dX5_showTray_56 ?_
            refine g_topi (y := gsw1 st z) ((congrArg (I (h + 3)) (nI_clamp (by omega))).trans (hs0.2.2.2.2.2.2.2.1 z (by omega))) ?_
            refine lv_i2l hx hb dX5_showTray_57 rfl ?_
            refine lv_goto (tgt := 62) hx hb dX5_showTray_58 (by decide) ?_
            refine g_last hC hP hS hTA hm.2.2.2.2.2.2.1.2 (vp_in_nI (by omega) (by decide)) dX5_showTray_62 (fun H21 locs22 hP hS hz24 => ?_)
            rw [show (nI z).toNatClampNeg = z from nI_clamp (by omega)] at hP
            obtain ⟨J23, hJ23, hP⟩ : ∃ X : gJ, X = au J15 (h + 6) z ((gsw1 st z).toInt64) ∧ gP G T I X Q O H21 := ⟨_, rfl, hP⟩
            refine lv_iinc (v := nI (z + 1)) (lv' := [(1, .int (nI (z + 1))), (0, .ref h)]) hx hb dX5_showTray_63 hl (k := 1) rfl (nI_inc _) (by decide) rfl (fun ls hl => ?_)
            refine lv_goto (tgt := 2) hx hb dX5_showTray_66 (by decide) ?_
            exact ih2 (z + 1) J23 (by omega) (by omega) (by subst h1; exact show_s (by assumption) (by assumption) (by first | rw [if_pos (by omega)] | rw [if_neg (by omega)]) (by first | rw [if_pos (by omega)] | rw [if_neg (by omega)])) _ _ hP hS ls (lv_sub hl [1, 0] rfl)
  exact L2 5 0 J (by omega) (by omega) (by rw [trayX_0, trayX_0, gu_self, gu_self]) _ _ hP hS ls (lv_sub hl [1, 0] rfl)
