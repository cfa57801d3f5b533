/-! ===== the reference: ahead ===== -/
def alS (S : Nat → Int64) : Int64 := S 0 + S 1 + S 2 + S 3
def aheadF (S X : Nat → Int64) (t : Int64) : Int32 := match fst4 (fun k => !decide (S k * t = X k * alS S)) with
  | none => 0
  | some k => if X k * alS S < S k * t then 1 else -1
theorem ahead_ord (S X : Nat → Int64) (t : Int64) : aheadF S X t = -(ordM S (alS S) X t) := by
  unfold aheadF ordM
  cases fst4 (fun k => !decide (S k * t = X k * alS S)) with
  | none => show (0 : Int32) = -0; decide
  | some k =>
    show (if X k * alS S < S k * t then (1 : Int32) else -1) = -(if X k * alS S < S k * t then (-1 : Int32) else 1)
    split <;> decide
theorem ah_ord {v w : MixV} {S X : Nat → Int64} {t : Int64} (hv : vG v) (hw : vG w) (h1 : rdV v S (alS S)) (h2 : rdV w X t) : aheadF S X t = -(ordV v w) := by
  rw [ahead_ord, rd_ord hv hw h1 h2]
theorem ord_ge {v w : MixV} (h : 0 ≤ -(ordV v w)) : ¬ 0 < ordV v w := by
  rcases ordV_3 (v := v) (w := w) with e | e | e <;> rw [e] at h ⊢ <;> revert h <;> decide
theorem ord_nge {v w : MixV} (h : ¬ 0 ≤ -(ordV v w)) : 0 < ordV v w := by
  rcases ordV_3 (v := v) (w := w) with e | e | e <;> rw [e] at h ⊢ <;> revert h <;> decide
theorem ord_eq0 {v w : MixV} (h : -(ordV v w) = 0) : ordV v w = 0 := by
  rcases ordV_3 (v := v) (w := w) with e | e | e <;> rw [e] at h ⊢ <;> revert h <;> decide
theorem ord_lt0 {v w : MixV} (h1 : ¬ 0 < ordV v w) (h2 : ¬ -(ordV v w) = 0) : ordV v w < 0 := by
  rcases ordV_3 (v := v) (w := w) with e | e | e <;> rw [e] at h1 h2 ⊢ <;> revert h1 h2 <;> decide
/-! ===== lists in the reference's rows ===== -/
def rowI (I2 : gI) (J2 : gJ) (h x : Nat) (I : gI) (J : gJ) (y : Nat) : Prop := I2 (h + 10) x = I (h + 10) y ∧ I2 (h + 11) x = I (h + 11) y ∧ J2 (h + 9) x = J (h + 9) y ∧ ∀ k, k < 4 → J2 (h + 8) (4 * x + k) = J (h + 8) (4 * y + k)
def crR (I : gI) (J : gJ) (h w : Nat) (c : CL) : Prop := I (h + 7) w = nI c.1 ∧ ∀ j, j < c.1 → rdV (c.2 j) (fun k => J (h + 8) (4 * (80 * w + j) + k)) (J (h + 9) (80 * w + j)) ∧ I (h + 10) (80 * w + j) = nI (c.2 j).2.2.1 ∧ I (h + 11) (80 * w + j) = nI (c.2 j).2.2.2
def crF (I : gI) (J : gJ) (I2 : gI) (J2 : gJ) (h w : Nat) : Prop := (∀ q, q ≠ h + 7 → q ≠ h + 10 → q ≠ h + 11 → I2 q = I q) ∧ (∀ q, q ≠ h + 8 → q ≠ h + 9 → J2 q = J q) ∧ (∀ j, j ≠ w → I2 (h + 7) j = I (h + 7) j) ∧ ∀ x, x < 80 * w ∨ 80 * w + 80 ≤ x → rowI I2 J2 h x I J x
theorem rowI_rf (I : gI) (J : gJ) (h x : Nat) : rowI I J h x I J x := ⟨rfl, rfl, rfl, fun _ _ => rfl⟩
theorem rowI_tr {I1 I2 I3 : gI} {J1 J2 J3 : gJ} {h x y z : Nat} (a : rowI I1 J1 h x I2 J2 y) (b : rowI I2 J2 h y I3 J3 z) : rowI I1 J1 h x I3 J3 z := ⟨a.1.trans b.1, a.2.1.trans b.2.1, a.2.2.1.trans b.2.2.1, fun k hk => (a.2.2.2 k hk).trans (b.2.2.2 k hk)⟩
theorem crF_rf (I : gI) (J : gJ) (h w : Nat) : crF I J I J h w := ⟨fun _ _ _ _ => rfl, fun _ _ _ => rfl, fun _ _ => rfl, fun x _ => rowI_rf I J h x⟩
theorem rdV_cg {v : MixV} {S S' : Nat → Int64} {t t' : Int64} (h : rdV v S t) (hS : ∀ k, k < 4 → S' k = S k) (ht : t' = t) : rdV v S' t' := by
  obtain ⟨D, h1, h2, h3⟩ := h
  exact ⟨D, h1, fun j hj => by rw [hS j hj]; exact h2 j hj, by rw [ht]; exact h3⟩
/-- rows put on by one -/
def shS (I9 : gI) (J9 : gJ) (I : gI) (J : gJ) (h lo hi : Nat) : Prop := ∀ x, rowI I9 J9 h x I J (if lo < x ∧ x ≤ hi then x - 1 else x)
theorem row_s {I I9 Ia Ib : gI} {J J9 Ja J10 : gJ} {h k hi : Nat} {Z : Nat → Int64} (e1 : Ja = au J9 (h + 9) k (J9 (h + 9) (k - 1))) (e2 : Ia = au I9 (h + 10) k (I9 (h + 10) (k - 1))) (e3 : Ib = au Ia (h + 11) k (Ia (h + 11) (k - 1))) (e4 : J10 = gu Ja (h + 8) Z) (e5 : ∀ i, Z i = if 4 * k ≤ i ∧ i < 4 * k + 4 then Ja (h + 8) (i - 4) else Ja (h + 8) i) (hk : 1 ≤ k) (hh : k ≤ hi) (s3 : shS I9 J9 I J h k hi) : shS Ib J10 I J h (k - 1) hi := by
  have a10 : Ib (h + 10) = gu (I9 (h + 10)) k (I9 (h + 10) (k - 1)) := by rw [e3, au_ne _ _ _ (by omega), e2, au_row]
  have a11 : Ib (h + 11) = gu (I9 (h + 11)) k (I9 (h + 11) (k - 1)) := by rw [e3, au_row, e2, au_ne _ _ _ (by omega)]
  have a9 : J10 (h + 9) = gu (J9 (h + 9)) k (J9 (h + 9) (k - 1)) := by rw [e4, gu_ne _ _ (by omega), e1, au_row]
  have a8 : ∀ i, J10 (h + 8) i = if 4 * k ≤ i ∧ i < 4 * k + 4 then J9 (h + 8) (i - 4) else J9 (h + 8) i := fun i => by
    rw [e4, gu_eq, e5, e1, au_ne _ _ _ (by omega)]
  intro x
  by_cases e : x = k
  · subst e
    rw [if_pos (by omega)]
    have q := s3 (x - 1)
    rw [if_neg (by omega)] at q
    refine ⟨?_, ?_, ?_, fun i hi => ?_⟩
    · rw [a10, gu_eq]; exact q.1
    · rw [a11, gu_eq]; exact q.2.1
    · rw [a9, gu_eq]; exact q.2.2.1
    · rw [a8, if_pos (by omega), show 4 * x + i - 4 = 4 * (x - 1) + i from by omega]
      exact q.2.2.2 i hi
  · have q := s3 x
    have ec : (if k < x ∧ x ≤ hi then x - 1 else x) = (if k - 1 < x ∧ x ≤ hi then x - 1 else x) := by
      by_cases c : k < x ∧ x ≤ hi
      · rw [if_pos c, if_pos (by omega)]
      · rw [if_neg c, if_neg (by omega)]
    rw [ec] at q
    refine ⟨?_, ?_, ?_, fun i hi => ?_⟩
    · rw [a10, gu_ne _ _ e]; exact q.1
    · rw [a11, gu_ne _ _ e]; exact q.2.1
    · rw [a9, gu_ne _ _ e]; exact q.2.2.1
    · rw [a8, if_neg (by omega)]; exact q.2.2.2 i hi
theorem z_s {Y Z : Nat → Int64} {lo y : Nat} (h4 : 4 ≤ lo) (h : ∀ i, Z i = if lo ≤ i ∧ i < lo + y then Y (i - 4) else Y i) : ∀ i, gu Z (lo + y) (Y (lo - 4 + y)) i = if lo ≤ i ∧ i < lo + (y + 1) then Y (i - 4) else Y i := fun i => by
  unfold gu
  by_cases e : i = lo + y
  · subst e
    rw [if_pos rfl, if_pos (by omega), show lo + y - 4 = lo - 4 + y from by omega]
  · rw [if_neg e, h i]
    by_cases c : lo ≤ i ∧ i < lo + y
    · rw [if_pos c, if_pos (by omega)]
    · rw [if_neg c, if_neg (by omega)]
theorem z_t {Y S Z : Nat → Int64} {lo y : Nat} (h : ∀ i, Z i = if lo ≤ i ∧ i < lo + y then S (i - lo) else Y i) : ∀ i, gu Z (lo + y) (S y) i = if lo ≤ i ∧ i < lo + (y + 1) then S (i - lo) else Y i := fun i => by
  unfold gu
  by_cases e : i = lo + y
  · subst e
    rw [if_pos rfl, if_pos (by omega), Nat.add_sub_cancel_left]
  · rw [if_neg e, h i]
    by_cases c : lo ≤ i ∧ i < lo + y
    · rw [if_pos c, if_pos (by omega)]
    · rw [if_neg c, if_neg (by omega)]
theorem put_fin {I I9 I2 : gI} {J J9 J2 : gJ} {h w a ub ab : Nat} {C : CL} {v : MixV} {Z : Nat → Int64} (hw : w < 2) (hcr : crR I J h w C) (hrd : rdV v (J (h + 15)) (alS (J (h + 15)))) (ha : a ≤ C.1) (hc : C.1 < 80) (eu : ub = v.2.2.1) (ea : ab = v.2.2.2)
    (s1 : ∀ q, q ≠ h + 10 → q ≠ h + 11 → I9 q = I q) (s2 : ∀ q, q ≠ h + 8 → q ≠ h + 9 → J9 q = J q) (s3 : shS I9 J9 I J h (80 * w + a) (80 * w + C.1))
    (hI : I2 = au (au (au I9 (h + 7) w (nI (C.1 + 1))) (h + 10) (80 * w + a) (nI ub)) (h + 11) (80 * w + a) (nI ab)) (hJ : J2 = gu (au J9 (h + 9) (80 * w + a) (alS (J (h + 15)))) (h + 8) Z) (hZ : ∀ i, Z i = if 4 * (80 * w + a) ≤ i ∧ i < 4 * (80 * w + a) + 4 then J (h + 15) (i - 4 * (80 * w + a)) else J9 (h + 8) i)
    (ei : insC v C = (C.1 + 1, fun j => if j < a then C.2 j else if j = a then v else C.2 (j - 1))) : crR I2 J2 h w (insC v C) ∧ crF I J I2 J2 h w := by
  have a7 : I2 (h + 7) = gu (I (h + 7)) w (nI (C.1 + 1)) := by rw [hI, au_ne _ _ _ (by omega), au_ne _ _ _ (by omega), au_row, s1 _ (by omega) (by omega)]
  have a10 : I2 (h + 10) = gu (I9 (h + 10)) (80 * w + a) (nI ub) := by rw [hI, au_ne _ _ _ (by omega), au_row, au_ne _ _ _ (by omega)]
  have a11 : I2 (h + 11) = gu (I9 (h + 11)) (80 * w + a) (nI ab) := by rw [hI, au_row, au_ne _ _ _ (by omega), au_ne _ _ _ (by omega)]
  have a9 : J2 (h + 9) = gu (J9 (h + 9)) (80 * w + a) (alS (J (h + 15))) := by rw [hJ, gu_ne _ _ (by omega), au_row]
  have a8 : ∀ i, J2 (h + 8) i = if 4 * (80 * w + a) ≤ i ∧ i < 4 * (80 * w + a) + 4 then J (h + 15) (i - 4 * (80 * w + a)) else J9 (h + 8) i := fun i => by rw [hJ, gu_eq, hZ]
  have rw1 : ∀ x, x ≠ 80 * w + a → rowI I2 J2 h x I9 J9 x := fun x hx => ⟨by rw [a10, gu_ne _ _ hx], by rw [a11, gu_ne _ _ hx], by rw [a9, gu_ne _ _ hx], fun k hk => by rw [a8, if_neg (by omega)]⟩
  have rw2 : ∀ x, x ≠ 80 * w + a → rowI I2 J2 h x I J (if 80 * w + a < x ∧ x ≤ 80 * w + C.1 then x - 1 else x) := fun x hx => rowI_tr (rw1 x hx) (s3 x)
  refine ⟨?_, ?_⟩
  · rw [ei]
    refine ⟨by rw [a7, gu_eq], fun j hj => ?_⟩
    have hj' : j < C.1 + 1 := hj
    show rdV (if j < a then C.2 j else if j = a then v else C.2 (j - 1)) _ _ ∧ _ = nI (if j < a then C.2 j else if j = a then v else C.2 (j - 1)).2.2.1 ∧ _ = nI (if j < a then C.2 j else if j = a then v else C.2 (j - 1)).2.2.2
    by_cases c1 : j < a
    · rw [if_pos c1]
      obtain ⟨b1, b2, b3, b4⟩ := rw2 (80 * w + j) (by omega)
      rw [if_neg (by omega)] at b1 b2 b3 b4
      obtain ⟨d1, d2, d3⟩ := hcr.2 j (by omega)
      exact ⟨rdV_cg d1 (fun k hk => b4 k hk) b3, by rw [b1]; exact d2, by rw [b2]; exact d3⟩
    · rw [if_neg c1]
      by_cases c2 : j = a
      · subst c2
        rw [if_pos rfl]
        refine ⟨rdV_cg hrd (fun k hk => ?_) ?_, ?_, ?_⟩
        · rw [a8, if_pos (by omega), Nat.add_sub_cancel_left]
        · rw [a9, gu_eq]
        · rw [a10, gu_eq, eu]
        · rw [a11, gu_eq, ea]
      · rw [if_neg c2]
        obtain ⟨b1, b2, b3, b4⟩ := rw2 (80 * w + j) (by omega)
        rw [if_pos (by omega), show 80 * w + j - 1 = 80 * w + (j - 1) from by omega] at b1 b2 b3 b4
        obtain ⟨d1, d2, d3⟩ := hcr.2 (j - 1) (by omega)
        exact ⟨rdV_cg d1 (fun k hk => b4 k hk) b3, by rw [b1]; exact d2, by rw [b2]; exact d3⟩
  · refine ⟨fun q h7 h10 h11 => ?_, fun q h8 h9 => ?_, fun j hj => ?_, fun x hx => ?_⟩
    · rw [hI, au_ne _ _ _ h11, au_ne _ _ _ h10, au_ne _ _ _ h7]; exact s1 q h10 h11
    · rw [hJ, gu_ne _ _ h8, au_ne _ _ _ h9]; exact s2 q h8 h9
    · rw [a7, gu_ne _ _ hj]
    · have := rw2 x (by omega)
      rw [if_neg (by omega)] at this
      exact this
set_option maxHeartbeats 4000000 in
set_option maxRecDepth 100000 in
theorem c_X5_ahead (l : Launch) {G : gG} {T : gTy} {I : gI} {J : gJ} {Q : gR} {O : gO} {H : Heap} (hP : gP G T I J Q O H) {h ap : Nat} (hm : isMo T O h) (hap : ap < 160) : Met l yX5_ahead (gw yX5_ahead cX5_ahead 9 (some (.int))) ({ frames := 0, cells := 0, slots := 0, locals := 0 } : Room) (gPc G H [.ref h, .int (nI ap)]) (gQp (some (.int (aheadF (J (h + 15)) (fun k => J (h + 8) (4 * ap + k)) (J (h + 9) ap))))) 0 0 (fun _ => False) := by
  refine g_met [(0, .ref h), (1, .int (nI ap))] (by decide) rfl (by exact Nat.le_of_ble_eq_true rfl) ?_
  intro p e s m below meth c hC hs ls hl
  have hx := hC.1.1
  have hb := hC.1.2.1
  refine lv_aload_n hx hb dX5_ahead_0 rfl (lv_at hl 0 rfl) ?_
  refine g_get hC hP hm.1 rfl inX5 17 (by decide) q3_23 hm.2.2.2.2.2.2.2.2.2.2.2.2.2.2.2.1.1 dX5_ahead_1 ?_
  refine lv_iconst (v := nI 0) hx hb dX5_ahead_4 (by decide) ?_
  refine g_lald hC hP hm.2.2.2.2.2.2.2.2.2.2.2.2.2.2.2.1.2 (vp_in_nI (by omega) (by decide)) dX5_ahead_5 ?_
  refine g_topl (y := J (h + 15) 0) rfl ?_
  refine lv_aload_n hx hb dX5_ahead_6 rfl (lv_at hl 0 rfl) ?_
  refine g_get hC hP hm.1 rfl inX5 17 (by decide) q3_23 hm.2.2.2.2.2.2.2.2.2.2.2.2.2.2.2.1.1 dX5_ahead_7 ?_
  refine lv_iconst (v := nI 1) hx hb dX5_ahead_10 (by decide) ?_
  refine g_lald hC hP hm.2.2.2.2.2.2.2.2.2.2.2.2.2.2.2.1.2 (vp_in_nI (by omega) (by decide)) dX5_ahead_11 ?_
  refine g_topl (y := J (h + 15) 1) rfl ?_
  refine lv_ladd hx hb dX5_ahead_12 ?_
  refine lv_aload_n hx hb dX5_ahead_13 rfl (lv_at hl 0 rfl) ?_
  refine g_get hC hP hm.1 rfl inX5 17 (by decide) q3_23 hm.2.2.2.2.2.2.2.2.2.2.2.2.2.2.2.1.1 dX5_ahead_14 ?_
  refine lv_iconst (v := nI 2) hx hb dX5_ahead_17 (by decide) ?_
  refine g_lald hC hP hm.2.2.2.2.2.2.2.2.2.2.2.2.2.2.2.1.2 (vp_in_nI (by omega) (by decide)) dX5_ahead_18 ?_
  refine g_topl (y := J (h + 15) 2) rfl ?_
  refine lv_ladd hx hb dX5_ahead_19 ?_
  refine lv_aload_n hx hb dX5_ahead_20 rfl (lv_at hl 0 rfl) ?_
  refine g_get hC hP hm.1 rfl inX5 17 (by decide) q3_23 hm.2.2.2.2.2.2.2.2.2.2.2.2.2.2.2.1.1 dX5_ahead_21 ?_
  refine lv_iconst (v := nI 3) hx hb dX5_ahead_24 (by decide) ?_
  refine g_lald hC hP hm.2.2.2.2.2.2.2.2.2.2.2.2.2.2.2.1.2 (vp_in_nI (by omega) (by decide)) dX5_ahead_25 ?_
  refine g_topl (y := J (h + 15) 3) rfl ?_
  refine lv_ladd hx hb dX5_ahead_26 ?_
  refine lv_lstore_n (lv' := [(2, .long ((((J (h + 15) 0) + (J (h + 15) 1)) + (J (h + 15) 2)) + (J (h + 15) 3))), (0, .ref h), (1, .int (nI ap))]) hx hb dX5_ahead_27 rfl hl (by decide) rfl (fun ls hl => ?_)
  refine lv_iconst (v := nI 0) hx hb dX5_ahead_28 (by decide) ?_
  refine lv_istore (lv' := [(4, .int (nI 0)), (2, .long ((((J (h + 15) 0) + (J (h + 15) 1)) + (J (h + 15) 2)) + (J (h + 15) 3))), (0, .ref h), (1, .int (nI ap))]) hx hb dX5_ahead_29 hl (by decide) rfl (fun ls hl => ?_)
  have L31 : ∀ (n31 : Nat) (z : Nat), 5 ≤ n31 + z → (z ≤ 4) → (∀ j, j < z → J (h + 15) j * J (h + 9) ap = J (h + 8) (4 * ap + j) * alS (J (h + 15))) → ∀ ls : Array Slot, lv_has ls 9 [(0, .ref h), (1, .int (nI ap)), (2, .long (alS (J (h + 15)))), (4, .int (nI z))] → W p l e ({ frames := 0, cells := 0, slots := 0, locals := 0 } : Room) s m [.ref h, .int (nI ap)].toArray below meth c H [] 0 0 (MQ below (gQp (some (.int (aheadF (J (h + 15)) (fun k => J (h + 8) (4 * ap + k)) (J (h + 9) ap))))) [.ref h, .int (nI ap)].toArray s 0 0 (fun _ => False)) (F0 m 31 ls []) := by
    intro n31
    induction n31 with
    | zero => intro z hn31 hz h1; exact absurd hn31 (by omega)
    | succ n31 ih31 =>
      intro z hn31 hz h1 ls hl
      refine lv_iload hx hb dX5_ahead_31 (lv_at hl 3 rfl) ?_
      refine lv_iconst (v := nI 4) hx hb dX5_ahead_33 (by decide) ?_
      refine lv_icmp_ge (tgt := 96) hx hb dX5_ahead_34 (by decide) (fun c34 => ?_) (fun c34 => ?_)
      · have c34 := (nI_leI (by omega) (by omega)).mp c34
        refine lv_iconst (v := nI 0) hx hb dX5_ahead_96 (by decide) ?_
        refine g_reti hC hs ?_ dX5_ahead_97
        unfold aheadF
        rw [fst4_none (fun k hk => by simpa using h1 k (by omega))]
        rfl
      · have c34 := mt (nI_leI (by omega) (by omega)).mpr c34
        refine lv_aload_n hx hb dX5_ahead_37 rfl (lv_at hl 0 rfl) ?_
        refine g_get hC hP hm.1 rfl inX5 17 (by decide) q3_23 hm.2.2.2.2.2.2.2.2.2.2.2.2.2.2.2.1.1 dX5_ahead_38 ?_
        refine lv_iload hx hb dX5_ahead_41 (lv_at hl 3 rfl) ?_
        refine g_lald hC hP hm.2.2.2.2.2.2.2.2.2.2.2.2.2.2.2.1.2 (vp_in_nI (by omega) (by decide)) dX5_ahead_43 ?_
        refine g_topl (y := J (h + 15) z) (congrArg (J (h + 15)) (nI_clamp (by omega))) ?_
        refine lv_aload_n hx hb dX5_ahead_44 rfl (lv_at hl 0 rfl) ?_
        refine g_get hC hP hm.1 rfl inX5 11 (by decide) q3_17 hm.2.2.2.2.2.2.2.2.2.1.1 dX5_ahead_45 ?_
        refine lv_iload_n hx hb dX5_ahead_48 rfl (lv_at hl 1 rfl) ?_
        refine g_lald hC hP hm.2.2.2.2.2.2.2.2.2.1.2 (vp_in_nI (by omega) (by decide)) dX5_ahead_49 ?_
        refine g_topl (y := J (h + 9) ap) (congrArg (J (h + 9)) (nI_clamp (by omega))) ?_
        refine lv_lmul hx hb dX5_ahead_50 ?_
        refine lv_lstore (lv' := [(5, .long ((J (h + 15) z) * (J (h + 9) ap))), (0, .ref h), (1, .int (nI ap)), (2, .long (alS (J (h + 15)))), (4, .int (nI z))]) hx hb dX5_ahead_51 hl (by decide) rfl (fun ls hl => ?_)
        refine lv_aload_n hx hb dX5_ahead_53 rfl (lv_at hl 1 rfl) ?_
        refine g_get hC hP hm.1 rfl inX5 10 (by decide) q3_16 hm.2.2.2.2.2.2.2.2.1.1 dX5_ahead_54 ?_
        refine lv_iconst (v := nI 4) hx hb dX5_ahead_57 (by decide) ?_
        refine lv_iload_n hx hb dX5_ahead_58 rfl (lv_at hl 2 rfl) ?_
        refine lv_imul hx hb dX5_ahead_59 ?_
        refine g_topi (y := nI (4 * ap)) (nI_mul _ _) ?_
        refine lv_iload hx hb dX5_ahead_60 (lv_at hl 4 rfl) ?_
        refine lv_iadd hx hb dX5_ahead_62 ?_
        refine g_topi (y := nI (4 * ap + z)) (nI_add _ _) ?_
        refine g_lald hC hP hm.2.2.2.2.2.2.2.2.1.2 (vp_in_nI (by omega) (by decide)) dX5_ahead_63 ?_
        refine g_topl (y := J (h + 8) (4 * ap + z)) (congrArg (J (h + 8)) (nI_clamp (by omega))) ?_
        refine lv_lload_n hx hb dX5_ahead_64 rfl (lv_at hl 3 rfl) ?_
        refine lv_lmul hx hb dX5_ahead_65 ?_
        refine lv_lstore (lv' := [(7, .long ((J (h + 8) (4 * ap + z)) * (alS (J (h + 15))))), (5, .long ((J (h + 15) z) * (J (h + 9) ap))), (0, .ref h), (1, .int (nI ap)), (2, .long (alS (J (h + 15)))), (4, .int (nI z))]) hx hb dX5_ahead_66 hl (by decide) rfl (fun ls hl => ?_)
        refine lv_lload hx hb dX5_ahead_68 (lv_at hl 1 rfl) ?_
        refine lv_lload hx hb dX5_ahead_70 (lv_at hl 0 rfl) ?_
        refine W.lcmp hx hb dX5_ahead_72 ?_
        refine lv_if_eq (tgt := 90) hx hb dX5_ahead_73 (by decide) (fun c73 => ?_) (fun c73 => ?_)
        · have c73 := (lg_cmp_eq _ _).mp c73
          refine lv_iinc (v := nI (z + 1)) (lv' := [(4, .int (nI (z + 1))), (7, .long ((J (h + 8) (4 * ap + z)) * (alS (J (h + 15))))), (5, .long ((J (h + 15) z) * (J (h + 9) ap))), (0, .ref h), (1, .int (nI ap)), (2, .long (alS (J (h + 15))))]) hx hb dX5_ahead_90 hl (k := 5) rfl (nI_inc _) (by decide) rfl (fun ls hl => ?_)
          refine lv_goto (tgt := 31) hx hb dX5_ahead_93 (by decide) ?_
          exact ih31 (z + 1) (by omega) (by omega) (fun j hj => by rcases Nat.lt_succ_iff_lt_or_eq.mp hj with q | rfl; (exact h1 j q); (exact c73)) ls (lv_sub hl [3, 4, 5, 0] rfl)
        · have c73 := mt (lg_cmp_eq _ _).mpr c73
          refine lv_lload hx hb dX5_ahead_76 (lv_at hl 1 rfl) ?_
          refine lv_lload hx hb dX5_ahead_78 (lv_at hl 0 rfl) ?_
          refine W.lcmp hx hb dX5_ahead_80 ?_
          refine lv_if_le (tgt := 88) hx hb dX5_ahead_81 (by decide) (fun c81 => ?_) (fun c81 => ?_)
          · have c81 := (lg_cmp_le _ _).mp c81
            refine lv_iconst (v := (-1)) hx hb dX5_ahead_88 (by decide) ?_
            refine g_reti hC hs ?_ dX5_ahead_89
            unfold aheadF
            rw [fst4_some (i := z) (by omega) (by simpa using c73) (fun k hk => by simpa using h1 k hk)]
            first | exact (if_pos (Int64.not_le.mp c81)).symm | exact (if_neg (Int64.not_lt.mpr c81)).symm
          · have c81 := mt (lg_cmp_le _ _).mpr c81
            refine lv_iconst (v := nI 1) hx hb dX5_ahead_84 (by decide) ?_
            refine lv_goto (tgt := 89) hx hb dX5_ahead_85 (by decide) ?_
            refine g_reti hC hs ?_ dX5_ahead_89
            unfold aheadF
            rw [fst4_some (i := z) (by omega) (by simpa using c73) (fun k hk => by simpa using h1 k hk)]
            first | exact (if_pos (Int64.not_le.mp c81)).symm | exact (if_neg (Int64.not_lt.mpr c81)).symm
  exact L31 5 0 (by omega) (by omega) (fun j hj => absurd hj (Nat.not_lt_zero j)) ls (lv_sub hl [2, 3, 1, 0] rfl)
