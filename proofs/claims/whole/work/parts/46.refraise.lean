/-! ===== the reference: raise, scale ===== -/
def rB (p : Nat → Bool) : Nat → Bool
  | 0 => false
  | k + 1 => rB p k || p k
theorem i64_20 : (-20 : Int64).toInt = -20 ∧ (20 : Int64).toInt = 20 ∧ (0 : Int64).toInt = 0 := by decide
theorem add64 (x v : Int32) : (x.toInt64 + v.toInt64).toInt = x.toInt + v.toInt := by
  have a1 := Int32.toInt_lt x
  have a2 := Int32.le_toInt x
  have a3 := Int32.toInt_lt v
  have a4 := Int32.le_toInt v
  rw [Int64.toInt_add, Int32.toInt_toInt64, Int32.toInt_toInt64]
  exact Int.bmod_eq_of_le (by omega) (by omega)
theorem least_k {f : Nat → Int32} {v : Int32} : ∀ k, rB (fun i => decide ((f i).toInt64 + v.toInt64 < -20)) (k + 1) = decide ((mnF f k).toInt64 + v.toInt64 < -20)
  | 0 => by
    show (false || _) = _
    rw [Bool.false_or]
    rfl
  | k + 1 => by
    show (rB _ (k + 1) || _) = _
    rw [least_k k]
    show _ = decide ((if f (k + 1) < mnF f k then f (k + 1) else mnF f k).toInt64 + _ < _)
    rw [Bool.eq_iff_iff]
    simp only [Bool.or_eq_true, decide_eq_true_eq, Int64.lt_iff_toInt_lt, add64, i64_20.1]
    split
    · rename_i h
      rw [Int32.lt_iff_toInt_lt] at h
      omega
    · rename_i h
      rw [Int32.lt_iff_toInt_lt] at h
      omega
theorem most_k {f : Nat → Int32} {v : Int32} : ∀ k, rB (fun i => decide (20 < (f i).toInt64 + v.toInt64)) (k + 1) = decide (20 < (mxF f k).toInt64 + v.toInt64)
  | 0 => by
    show (false || _) = _
    rw [Bool.false_or]
    rfl
  | k + 1 => by
    show (rB _ (k + 1) || _) = _
    rw [most_k k]
    show _ = decide (_ < (if mxF f k < f (k + 1) then f (k + 1) else mxF f k).toInt64 + _)
    rw [Bool.eq_iff_iff]
    simp only [Bool.or_eq_true, decide_eq_true_eq, Int64.lt_iff_toInt_lt, add64, i64_20.2.1]
    split
    · rename_i h
      rw [Int32.lt_iff_toInt_lt] at h
      omega
    · rename_i h
      rw [Int32.lt_iff_toInt_lt] at h
      omega
theorem least_b {P : Nat → Int32} {v : Int32} {ch b : Nat} (h : 1 ≤ ch) : rB (fun i => decide ((P (i * 4 + b)).toInt64 + v.toInt64 < -20)) ch = decide ((leastA P ch b).toInt64 + v.toInt64 < -20) := by
  obtain ⟨k, rfl⟩ : ∃ k, ch = k + 1 := ⟨ch - 1, by omega⟩
  exact least_k (f := fun i => P (i * 4 + b)) k
theorem most_b {P : Nat → Int32} {v : Int32} {ch b : Nat} (h : 1 ≤ ch) : rB (fun i => decide (20 < (P (i * 4 + b)).toInt64 + v.toInt64)) ch = decide (20 < (mostA P ch b).toInt64 + v.toInt64) := by
  obtain ⟨k, rfl⟩ : ∃ k, ch = k + 1 := ⟨ch - 1, by omega⟩
  exact most_k (f := fun i => P (i * 4 + b)) k
def adR0 (X : Nat → Int32) (b : Nat) (v : Int32) (z : Nat) : Nat → Int32 := fun j => if j < 16 ∧ j % 4 = b ∧ j / 4 < z then X j + v else X j
def adR1 (X : Nat → Int32) (b : Nat) (v : Int32) (z : Nat) : Nat → Int32 := fun j => if 16 + 4 * b ≤ j ∧ j < 16 + 4 * b + z then X j + v else X j
theorem adR0_0 (X : Nat → Int32) (b : Nat) (v : Int32) : adR0 X b v 0 = X := by
  funext j
  unfold adR0
  rw [if_neg (by omega)]
theorem adR1_0 (X : Nat → Int32) (b : Nat) (v : Int32) : adR1 X b v 0 = X := by
  funext j
  unfold adR1
  rw [if_neg (by omega)]
theorem adR0_s {X : Nat → Int32} {b z : Nat} {v : Int32} (hb : b < 4) (hz : z < 4) : gu (adR0 X b v z) (4 * z + b) (adR0 X b v z (4 * z + b) + v) = adR0 X b v (z + 1) := by
  funext j
  unfold gu
  split
  · rename_i h
    subst h
    unfold adR0
    rw [if_neg (by omega), if_pos (by omega)]
  · unfold adR0
    by_cases h : j < 16 ∧ j % 4 = b ∧ j / 4 < z
    · rw [if_pos h, if_pos (by omega)]
    · rw [if_neg h, if_neg (by omega)]
theorem adR1_s {X : Nat → Int32} {b z : Nat} {v : Int32} (hb : b < 4) (hz : z < 4) : gu (adR1 X b v z) (16 + 4 * b + z) (adR1 X b v z (16 + 4 * b + z) + v) = adR1 X b v (z + 1) := by
  funext j
  unfold gu
  split
  · rename_i h
    subst h
    unfold adR1
    rw [if_neg (by omega), if_pos (by omega)]
  · unfold adR1
    by_cases h : 16 + 4 * b ≤ j ∧ j < 16 + 4 * b + z
    · rw [if_pos h, if_pos (by omega)]
    · rw [if_neg h, if_neg (by omega)]
theorem mo_P {G : gG} {T : gTy} {I I2 : gI} {J : gJ} {Q : gR} {O : gO} {H1 : Heap} {h : Nat} {st : GS} {Y P0 P1 : Nat → Int32} (hm : isMo T O h) (hs : moS I h st) (hI : I2 = gu I (h + 2) Y) (h0 : ∀ i k, i < 4 → k < 4 → Y (4 * i + k) = P0 (i * 4 + k)) (h1 : ∀ i k, i < 4 → k < 4 → Y (16 + 4 * i + k) = P1 (k * 4 + i)) (hP : gP G T I2 J Q O H1) : moR G T h (gsSetP st P0 P1) H1 := by
  obtain ⟨a1, a2, a3, a4, a5, a6, a7, a8, a9⟩ := hs
  have e : ∀ q, q ≠ h + 2 → I2 q = I q := fun q hq => by rw [hI, gu_ne _ _ hq]
  have e2 : I2 (h + 2) = Y := by rw [hI, gu_eq]
  exact ⟨I2, J, Q, O, hP, hm, a1, a2, by rw [e _ (by omega)]; exact a3, by rw [e _ (by omega)]; exact a4, by rw [e2]; exact h0, by rw [e2]; exact h1, by rw [e _ (by omega)]; exact a7, by rw [e _ (by omega)]; exact a8, by rw [e _ (by omega)]; exact a9⟩
theorem mo_raise0 {G : gG} {T : gTy} {I I2 : gI} {J : gJ} {Q : gR} {O : gO} {H1 : Heap} {h b : Nat} {v : Int32} {st : GS} (hm : isMo T O h) (hs : moS I h st) (hb : b < 4) (hI : I2 = gu I (h + 2) (adR0 (I (h + 2)) b v (gsm st))) (hP : gP G T I2 J Q O H1) : moR G T h (gsSetP st (addA (gsP0 st) (gsm st) b v) (gsP1 st)) H1 := by
  have a5 := hs.2.2.2.2.1
  have a6 := hs.2.2.2.2.2.1
  refine mo_P hm hs hI (fun i k hi hk => ?_) (fun i k hi hk => ?_) hP
  · unfold adR0 addA
    rw [a5 i k hi hk]
    by_cases c : 4 * i + k < 16 ∧ (4 * i + k) % 4 = b ∧ (4 * i + k) / 4 < gsm st
    · rw [if_pos c, if_pos (by omega)]
    · rw [if_neg c, if_neg (by omega)]
  · unfold adR0
    rw [if_neg (by omega)]
    exact a6 i k hi hk
theorem mo_raise1 {G : gG} {T : gTy} {I I2 : gI} {J : gJ} {Q : gR} {O : gO} {H1 : Heap} {h b : Nat} {v : Int32} {st : GS} (hm : isMo T O h) (hs : moS I h st) (hb : b < 4) (hI : I2 = gu I (h + 2) (adR1 (I (h + 2)) b v (gsn st))) (hP : gP G T I2 J Q O H1) : moR G T h (gsSetP st (gsP0 st) (addA (gsP1 st) (gsn st) b v)) H1 := by
  have a5 := hs.2.2.2.2.1
  have a6 := hs.2.2.2.2.2.1
  have hn := hs.2.1
  refine mo_P hm hs hI (fun i k hi hk => ?_) (fun i k hi hk => ?_) hP
  · unfold adR1
    rw [if_neg (by omega)]
    exact a5 i k hi hk
  · unfold adR1 addA
    rw [a6 i k hi hk]
    by_cases c : 16 + 4 * b ≤ 16 + 4 * i + k ∧ 16 + 4 * i + k < 16 + 4 * b + gsn st
    · have e : i = b := by omega
      subst e
      rw [if_pos c, if_pos ⟨by omega, by omega⟩]
    · rw [if_neg c, if_neg (by omega)]
set_option maxHeartbeats 4000000 in
set_option maxRecDepth 100000 in
theorem c_X5_raise (l : Launch) {G : gG} {T : gTy} {I : gI} {J : gJ} {Q : gR} {O : gO} {H : Heap} (hP : gP G T I J Q O H) {h : Nat} {st : GS} {q k v : Int32} (hm : isMo T O h) (hs0 : moS I h st) : Met l yX5_raise (gw yX5_raise cX5_raise 9 (some (.int))) ({ frames := 2, cells := 0, slots := 0, locals := 47 } : Room) (gPc G H [.ref h, .int q, .int k, .int v]) (gQc (gF T H) (fun x H1 => rRaise st (fun x1 s1 => x = some (.int x1) ∧ moR G T h s1 H1) q k v)) 0 0 (gF T H) := by
  refine g_met [(0, .ref h), (1, .int q), (2, .int k), (3, .int v)] (by decide) rfl (by exact Nat.le_of_ble_eq_true rfl) ?_
  intro p e s m below meth c hC hs ls hl
  have hx := hC.1.1
  have hb := hC.1.2.1
  have hS : va_S (gF T H) s.heap H [] := hs ▸ va_S.rf
  have hTA : ∀ q, (T q).1 ≠ 0 → gF T H q := fun q h => Or.inl h
  have hA : ∀ q, s.heap.size ≤ q → gF T H q := fun q h => Or.inr (hs ▸ h)
  generalize hAe : gF T H = A at hS hTA hA ⊢
  have hms := hs0.1
  have hns := hs0.2.1
  refine lv_iload_n hx hb dX5_raise_0 rfl (lv_at hl 1 rfl) ?_
  refine g_cp (g_rS (As := [.int q]) hC (c_X5_isWho l (q := q)) ⟨q3_78, q3_76, q3_77, q1_6⟩ dd_X5_isWho ⟨Nat.le_of_ble_eq_true rfl, Nat.le_of_ble_eq_true rfl, rfl, rfl⟩ hl.1 rfl (Nat.le_of_ble_eq_true rfl) dX5_raise_1 ⟨Nat.le_of_ble_eq_true rfl, Nat.le_of_ble_eq_true rfl⟩) ?_
  refine W.eq (g2 := F0 m 4 ls [.int (gb (isW q))]) rfl ?_
  refine lv_if_eq (tgt := 18) hx hb dX5_raise_4 (by decide) (fun c4 => ?_) (fun c4 => ?_)
  · have c4 := gb_f c4
    refine lv_aload_n hx hb dX5_raise_18 rfl (lv_at hl 0 rfl) ?_
    refine lv_iconst (v := (-1)) hx hb dX5_raise_19 (by decide) ?_
    refine g_cc (g_rV (As := [.int (-1 : Int32)]) hC hP (c_X5_refuse l hP (h := h) (q := (-1 : Int32)) (j := 1) (by first | assumption | omega) (by decide) (by omega)) hm.1 rfl ⟨q3_71, q3_68, q3_70, qs_25, q1_6⟩ dd_X5_refuse ⟨Nat.le_of_ble_eq_true rfl, Nat.le_of_ble_eq_true rfl, rfl, rfl⟩ hl.1 rfl (Nat.le_of_ble_eq_true rfl) dX5_raise_20 ⟨Nat.le_of_ble_eq_true rfl, Nat.le_of_ble_eq_true rfl⟩) hS (fun q h => h.elim (hTA q) (fun z => hA q (Nat.le_trans hS.1 z))) (fun r5 H1 locs2 hq6 hS hz3 hfr4 => ?_)
    obtain ⟨rfl, hP⟩ := hq6
    obtain ⟨I7, hI7, hP⟩ : ∃ I7 : gI, I7 = au I (h + 4) 1 (I (h + 4) 1 + 1) ∧ gP G T I7 J Q O H1 := ⟨_, rfl, hP⟩
    refine W.eq (g2 := F0 m 23 ls [.int (-1 : Int32)]) rfl ?_
    refine g_retci hC hS ?_ dX5_raise_23
    exact Or.inl ⟨Or.inl c4, rfl, mo_ref hm hs0 (j := 1) (by decide) hI7 hP⟩
  · have c4 := gb_t c4
    rcases isW_c c4 with rfl | rfl
    · refine lv_aload_n hx hb dX5_raise_7 rfl (lv_at hl 0 rfl) ?_
      refine lv_iconst (v := nI 1) hx hb dX5_raise_8 (by decide) ?_
      refine lv_iload_n hx hb dX5_raise_9 rfl (lv_at hl 1 rfl) ?_
      refine lv_isub hx hb dX5_raise_10 ?_
      refine g_topi (y := nI 1) (by decide) ?_
      refine lv_iload_n hx hb dX5_raise_11 rfl (lv_at hl 2 rfl) ?_
      refine g_cp (g_rV (As := [.int (nI 1), .int k]) hC hP (c_X5_isChoice l hP (h := h) (q := nI 1) (k := k) (by first | assumption | omega) (by first | assumption | omega)) hm.1 rfl ⟨q3_82, q3_79, q3_81, qs_26, q1_6⟩ dd_X5_isChoice ⟨Nat.le_of_ble_eq_true rfl, Nat.le_of_ble_eq_true rfl, rfl, rfl⟩ hl.1 rfl (Nat.le_of_ble_eq_true rfl) dX5_raise_12 ⟨Nat.le_of_ble_eq_true rfl, Nat.le_of_ble_eq_true rfl⟩) ?_
      refine W.eq (g2 := F0 m 15 ls [.int (gb (inR k (gsn st)))]) rfl ?_
      refine lv_if_ne (tgt := 24) hx hb dX5_raise_15 (by decide) (fun c15 => ?_) (fun c15 => ?_)
      · have c15 := gb_t c15
        obtain ⟨b, hb2, rfl⟩ := inR_nI (by omega) c15
        refine lv_iconst (v := nI 0) hx hb dX5_raise_24 (by decide) ?_
        refine lv_istore (lv' := [(4, .int (nI 0)), (0, .ref h), (1, .int (nI 0)), (2, .int (nI b)), (3, .int v)]) hx hb dX5_raise_25 hl (by decide) rfl (fun ls hl => ?_)
        refine lv_iconst (v := nI 0) hx hb dX5_raise_27 (by decide) ?_
        refine lv_istore (lv' := [(5, .int (nI 0)), (4, .int (nI 0)), (0, .ref h), (1, .int (nI 0)), (2, .int (nI b)), (3, .int v)]) hx hb dX5_raise_28 hl (by decide) rfl (fun ls hl => ?_)
        refine lv_iconst (v := nI 0) hx hb dX5_raise_30 (by decide) ?_
        refine lv_istore (lv' := [(6, .int (nI 0)), (5, .int (nI 0)), (4, .int (nI 0)), (0, .ref h), (1, .int (nI 0)), (2, .int (nI b)), (3, .int v)]) hx hb dX5_raise_31 hl (by decide) rfl (fun ls hl => ?_)
        have L33 : ∀ (n33 : Nat) (z : Nat) (bl : Bool) (ab : Bool), 5 ≤ n33 + z → (z ≤ gsm st) → (bl = rB (fun i => decide (((gsP0 st) (i * 4 + b)).toInt64 + v.toInt64 < -20)) z) → (ab = rB (fun i => decide (20 < ((gsP0 st) (i * 4 + b)).toInt64 + v.toInt64)) z) → ∀ (Hl : Heap) (lcl : List Loc), gP G T I J Q O Hl → va_S A s.heap Hl lcl → ∀ ls : Array Slot, lv_has ls 9 [(0, .ref h), (1, .int (nI 0)), (2, .int (nI b)), (3, .int v), (4, .int (gb bl)), (5, .int (gb ab)), (6, .int (nI z))] → W p l e ({ frames := 2, cells := 0, slots := 0, locals := 47 } : Room) s m [.ref h, .int (nI 0), .int (nI b), .int v].toArray below meth c Hl lcl 0 0 (MQ below (gQc A (fun x H1 => rRaise st (fun x1 s1 => x = some (.int x1) ∧ moR G T h s1 H1) (nI 0) (nI b) v)) [.ref h, .int (nI 0), .int (nI b), .int v].toArray s 0 0 A) (F0 m 33 ls []) := by
          intro n33
          induction n33 with
          | zero => intro z bl ab hn33 hz h1 h2; exact absurd hn33 (by omega)
          | succ n33 ih33 =>
            intro z bl ab hn33 hz h1 h2 Hl lcl hP hS ls hl
            refine lv_iload hx hb dX5_raise_33 (lv_at hl 6 rfl) ?_
            refine lv_aload_n hx hb dX5_raise_35 rfl (lv_at hl 0 rfl) ?_
            refine g_get hC hP hm.1 rfl inX5 0 (by decide) q3_6 hm.2.1.1 dX5_raise_36 ?_
            refine lv_iload_n hx hb dX5_raise_39 rfl (lv_at hl 1 rfl) ?_
            refine g_iald hC hP hm.2.1.2 (vp_in_nI (by omega) (by decide)) dX5_raise_40 ?_
            refine g_topi (y := nI (gsm st)) hs0.2.2.1 ?_
            refine lv_icmp_ge (tgt := 106) hx hb dX5_raise_41 (by decide) (fun c41 => ?_) (fun c41 => ?_)
            · have c41 := (nI_leI (by omega) (by omega)).mp c41
              refine lv_iload hx hb dX5_raise_106 (lv_at hl 4 rfl) ?_
              refine lv_if_eq (tgt := 118) hx hb dX5_raise_108 (by decide) (fun c108 => ?_) (fun c108 => ?_)
              · have c108 := gb_f c108
                refine lv_iload hx hb dX5_raise_118 (lv_at hl 5 rfl) ?_
                refine lv_if_eq (tgt := 130) hx hb dX5_raise_120 (by decide) (fun c120 => ?_) (fun c120 => ?_)
                · have c120 := gb_f c120
                  refine lv_iconst (v := nI 0) hx hb dX5_raise_130 (by decide) ?_
                  refine lv_istore (lv' := [(6, .int (nI 0)), (0, .ref h), (1, .int (nI 0)), (2, .int (nI b)), (3, .int v), (4, .int (gb bl)), (5, .int (gb ab))]) hx hb dX5_raise_131 hl (by decide) rfl (fun ls hl => ?_)
                  have L133 : ∀ (n133 : Nat) (z2 : Nat) (I9 : gI), 5 ≤ n133 + z2 → (z2 ≤ gsm st) → (I9 = gu I (h + 2) (adR0 (I (h + 2)) b v z2)) → ∀ (Hl : Heap) (lcl : List Loc), gP G T I9 J Q O Hl → va_S A s.heap Hl lcl → ∀ ls : Array Slot, lv_has ls 9 [(0, .ref h), (1, .int (nI 0)), (2, .int (nI b)), (3, .int v), (6, .int (nI z2))] → W p l e ({ frames := 2, cells := 0, slots := 0, locals := 47 } : Room) s m [.ref h, .int (nI 0), .int (nI b), .int v].toArray below meth c Hl lcl 0 0 (MQ below (gQc A (fun x H1 => rRaise st (fun x1 s1 => x = some (.int x1) ∧ moR G T h s1 H1) (nI 0) (nI b) v)) [.ref h, .int (nI 0), .int (nI b), .int v].toArray s 0 0 A) (F0 m 133 ls []) := by
                    intro n133
                    induction n133 with
                    | zero => intro z2 I9 hn133 hz2 g1; exact absurd hn133 (by omega)
                    | succ n133 ih133 =>
                      intro z2 I9 hn133 hz2 g1 Hl lcl hP hS ls hl
                      refine lv_iload hx hb dX5_raise_133 (lv_at hl 4 rfl) ?_
                      refine lv_aload_n hx hb dX5_raise_135 rfl (lv_at hl 0 rfl) ?_
                      refine g_get hC hP hm.1 rfl inX5 0 (by decide) q3_6 hm.2.1.1 dX5_raise_136 ?_
                      refine lv_iload_n hx hb dX5_raise_139 rfl (lv_at hl 1 rfl) ?_
                      refine g_iald hC hP hm.2.1.2 (vp_in_nI (by omega) (by decide)) dX5_raise_140 ?_
                      refine g_topi (y := nI (gsm st)) (by rw [g1, gu_ne _ _ (by omega)]; exact hs0.2.2.1) ?_
                      refine lv_icmp_ge (tgt := 167) hx hb dX5_raise_141 (by decide) (fun c141 => ?_) (fun c141 => ?_)
                      · have c141 := (nI_leI (by omega) (by omega)).mp c141
                        refine lv_iconst (v := nI 1) hx hb dX5_raise_167 (by decide) ?_
                        refine g_retci hC hS ?_ dX5_raise_168
                        have e1 : bl = decide _ := (h1.trans (by rw [show z = gsm st from by omega])).trans (least_b (by omega))
                        have e2 : ab = decide _ := (h2.trans (by rw [show z = gsm st from by omega])).trans (most_b (by omega))
                        rw [c108] at e1
                        rw [c120] at e2
                        exact Or.inr ⟨b, rfl, Or.inl ⟨rfl, hb2, Or.inr (Or.inr ⟨of_decide_eq_false e1.symm, of_decide_eq_false e2.symm, rfl, mo_raise0 hm hs0 (by omega) (by rw [g1, show z2 = gsm st from by omega]) hP⟩)⟩⟩
                      · have c141 := mt (nI_leI (by omega) (by omega)).mpr c141
                        refine lv_aload_n hx hb dX5_raise_144 rfl (lv_at hl 0 rfl) ?_
                        refine g_get hC hP hm.1 rfl inX5 1 (by decide) q3_7 hm.2.2.1.1 dX5_raise_145 ?_
                        refine lv_aload_n hx hb dX5_raise_148 rfl (lv_at hl 0 rfl) ?_
                        refine lv_iload_n hx hb dX5_raise_149 rfl (lv_at hl 1 rfl) ?_
                        refine lv_iload hx hb dX5_raise_150 (lv_at hl 4 rfl) ?_
                        refine lv_iload_n hx hb dX5_raise_152 rfl (lv_at hl 2 rfl) ?_
                        refine g_cp (g_rV (As := [.int (nI 0), .int (nI z2), .int (nI b)]) hC hP (c_X5_placeOf l hP (h := h) (w := 0) (i := z2) (k := b) (by first | assumption | omega) (by first | assumption | omega) (by first | assumption | omega)) hm.1 rfl ⟨q4_16, q4_13, q4_15, qs_47, q1_6⟩ dd_X5_placeOf ⟨Nat.le_of_ble_eq_true rfl, Nat.le_of_ble_eq_true rfl, rfl, rfl⟩ hl.1 rfl (Nat.le_of_ble_eq_true rfl) dX5_raise_153 ⟨Nat.le_of_ble_eq_true rfl, Nat.le_of_ble_eq_true rfl⟩) ?_
                        refine W.eq (g2 := F0 m 156 ls [.int (nI (4 * z2 + b)), .ref (h + 2)]) rfl ?_
                        refine lv_dup2_11 hx hb dX5_raise_156 rfl rfl ?_
                        refine g_iald hC hP hm.2.2.1.2 (vp_in_nI (by omega) (by decide)) dX5_raise_157 ?_
                        refine g_topi (y := I9 (h + 2) (4 * z2 + b)) (congrArg (I9 (h + 2)) (nI_clamp (by omega))) ?_
                        refine lv_iload_n hx hb dX5_raise_158 rfl (lv_at hl 3 rfl) ?_
                        refine lv_iadd hx hb dX5_raise_159 ?_
                        refine g_iast hC hP hS hTA hm.2.2.1.2 (vp_in_nI (by omega) (by decide)) dX5_raise_160 (fun H8 locs9 hP hS hz11 => ?_)
                        rw [show (nI (4 * z2 + b)).toNatClampNeg = 4 * z2 + b from nI_clamp (by omega)] at hP
                        obtain ⟨I10, hI10, hP⟩ : ∃ X : gI, X = au I9 (h + 2) (4 * z2 + b) ((I9 (h + 2) (4 * z2 + b)) + v) ∧ gP G T X J Q O H8 := ⟨_, rfl, hP⟩
                        refine lv_iinc (v := nI (z2 + 1)) (lv' := [(6, .int (nI (z2 + 1))), (0, .ref h), (1, .int (nI 0)), (2, .int (nI b)), (3, .int v)]) hx hb dX5_raise_161 hl (k := 4) rfl (nI_inc _) (by decide) rfl (fun ls hl => ?_)
                        refine lv_goto (tgt := 133) hx hb dX5_raise_164 (by decide) ?_
                        exact ih133 (z2 + 1) I10 (by omega) (by omega) (by rw [hI10, g1, au_gu, gu_eq]; exact congrArg _ (adR0_s (by omega) (by omega))) _ _ hP hS ls (lv_sub hl [1, 2, 3, 4, 0] rfl)
                  exact L133 5 0 I (by omega) (by omega) (by rw [adR0_0, gu_self]) _ _ hP hS ls (lv_sub hl [1, 2, 3, 4, 0] rfl)
                · have c120 := gb_t c120
                  refine lv_aload_n hx hb dX5_raise_123 rfl (lv_at hl 0 rfl) ?_
                  refine lv_bipush (v := (-6)) hx hb dX5_raise_124 (by decide) ?_
                  refine g_cc (g_rV (As := [.int (-6 : Int32)]) hC hP (c_X5_refuse l hP (h := h) (q := (-6 : Int32)) (j := 6) (by first | assumption | omega) (by decide) (by omega)) hm.1 rfl ⟨q3_71, q3_68, q3_70, qs_25, q1_6⟩ dd_X5_refuse ⟨Nat.le_of_ble_eq_true rfl, Nat.le_of_ble_eq_true rfl, rfl, rfl⟩ hl.1 rfl (Nat.le_of_ble_eq_true rfl) dX5_raise_126 ⟨Nat.le_of_ble_eq_true rfl, Nat.le_of_ble_eq_true rfl⟩) hS (fun q h => h.elim (hTA q) (fun z => hA q (Nat.le_trans hS.1 z))) (fun r16 H12 locs13 hq17 hS hz14 hfr15 => ?_)
                  obtain ⟨rfl, hP⟩ := hq17
                  obtain ⟨I18, hI18, hP⟩ : ∃ I18 : gI, I18 = au I (h + 4) 6 (I (h + 4) 6 + 1) ∧ gP G T I18 J Q O H12 := ⟨_, rfl, hP⟩
                  refine W.eq (g2 := F0 m 129 ls [.int (-6 : Int32)]) rfl ?_
                  refine g_retci hC hS ?_ dX5_raise_129
                  have e1 : bl = decide _ := (h1.trans (by rw [show z = gsm st from by omega])).trans (least_b (by omega))
                  have e2 : ab = decide _ := (h2.trans (by rw [show z = gsm st from by omega])).trans (most_b (by omega))
                  rw [c108] at e1
                  rw [c120] at e2
                  exact Or.inr ⟨b, rfl, Or.inl ⟨rfl, hb2, Or.inr (Or.inl ⟨of_decide_eq_false e1.symm, of_decide_eq_true e2.symm, rfl, mo_ref hm hs0 (j := 6) (by decide) hI18 hP⟩)⟩⟩
              · have c108 := gb_t c108
                refine lv_aload_n hx hb dX5_raise_111 rfl (lv_at hl 0 rfl) ?_
                refine lv_bipush (v := (-4)) hx hb dX5_raise_112 (by decide) ?_
                refine g_cc (g_rV (As := [.int (-4 : Int32)]) hC hP (c_X5_refuse l hP (h := h) (q := (-4 : Int32)) (j := 4) (by first | assumption | omega) (by decide) (by omega)) hm.1 rfl ⟨q3_71, q3_68, q3_70, qs_25, q1_6⟩ dd_X5_refuse ⟨Nat.le_of_ble_eq_true rfl, Nat.le_of_ble_eq_true rfl, rfl, rfl⟩ hl.1 rfl (Nat.le_of_ble_eq_true rfl) dX5_raise_114 ⟨Nat.le_of_ble_eq_true rfl, Nat.le_of_ble_eq_true rfl⟩) hS (fun q h => h.elim (hTA q) (fun z => hA q (Nat.le_trans hS.1 z))) (fun r23 H19 locs20 hq24 hS hz21 hfr22 => ?_)
                obtain ⟨rfl, hP⟩ := hq24
                obtain ⟨I25, hI25, hP⟩ : ∃ I25 : gI, I25 = au I (h + 4) 4 (I (h + 4) 4 + 1) ∧ gP G T I25 J Q O H19 := ⟨_, rfl, hP⟩
                refine W.eq (g2 := F0 m 117 ls [.int (-4 : Int32)]) rfl ?_
                refine g_retci hC hS ?_ dX5_raise_117
                have e1 : bl = decide _ := (h1.trans (by rw [show z = gsm st from by omega])).trans (least_b (by omega))
                rw [c108] at e1
                exact Or.inr ⟨b, rfl, Or.inl ⟨rfl, hb2, Or.inl ⟨of_decide_eq_true e1.symm, rfl, mo_ref hm hs0 (j := 4) (by decide) hI25 hP⟩⟩⟩
            · have c41 := mt (nI_leI (by omega) (by omega)).mpr c41
              refine lv_aload_n hx hb dX5_raise_44 rfl (lv_at hl 0 rfl) ?_
              refine lv_iload_n hx hb dX5_raise_45 rfl (lv_at hl 1 rfl) ?_
              refine lv_iload hx hb dX5_raise_46 (lv_at hl 6 rfl) ?_
              refine lv_iload_n hx hb dX5_raise_48 rfl (lv_at hl 2 rfl) ?_
              refine g_cp (g_rV (As := [.int (nI 0), .int (nI z), .int (nI b)]) hC hP (c_X5_get l hP (h := h) (w := 0) (i := z) (k := b) (by first | assumption | omega) (by first | assumption | omega) (by first | assumption | omega) (by first | assumption | omega) (by first | assumption | omega)) hm.1 rfl ⟨q3_139, q3_136, q3_138, qs_34, q1_6⟩ dd_X5_get ⟨Nat.le_of_ble_eq_true rfl, Nat.le_of_ble_eq_true rfl, rfl, rfl⟩ hl.1 rfl (Nat.le_of_ble_eq_true rfl) dX5_raise_49 ⟨Nat.le_of_ble_eq_true rfl, Nat.le_of_ble_eq_true rfl⟩) ?_
              refine W.eq (g2 := F0 m 52 ls [.int (gsP0 st (z * 4 + b))]) rfl ?_
              refine lv_i2l hx hb dX5_raise_52 rfl ?_
              refine lv_iload_n hx hb dX5_raise_53 rfl (lv_at hl 3 rfl) ?_
              refine lv_i2l hx hb dX5_raise_54 rfl ?_
              refine lv_ladd hx hb dX5_raise_55 ?_
              refine lv_lstore (lv' := [(7, .long (((gsP0 st (z * 4 + b)).toInt64) + v.toInt64)), (0, .ref h), (1, .int (nI 0)), (2, .int (nI b)), (3, .int v), (4, .int (gb bl)), (5, .int (gb ab)), (6, .int (nI z))]) hx hb dX5_raise_56 hl (by decide) rfl (fun ls hl => ?_)
              refine lv_iload hx hb dX5_raise_58 (lv_at hl 5 rfl) ?_
              refine lv_if_ne (tgt := 72) hx hb dX5_raise_60 (by decide) (fun c60 => ?_) (fun c60 => ?_)
              · have c60 := gb_t c60
                refine lv_iconst (v := nI 1) hx hb dX5_raise_72 (by decide) ?_
                refine lv_goto (tgt := 77) hx hb dX5_raise_73 (by decide) ?_
                refine lv_istore (lv' := [(4, .int (nI 1)), (7, .long (((gsP0 st (z * 4 + b)).toInt64) + v.toInt64)), (0, .ref h), (1, .int (nI 0)), (2, .int (nI b)), (3, .int v), (5, .int (gb ab)), (6, .int (nI z))]) hx hb dX5_raise_77 hl (by decide) rfl (fun ls hl => ?_)
                refine lv_iload hx hb dX5_raise_79 (lv_at hl 6 rfl) ?_
                refine lv_if_ne (tgt := 93) hx hb dX5_raise_81 (by decide) (fun c81 => ?_) (fun c81 => ?_)
                · have c81 := gb_t c81
                  refine lv_iconst (v := nI 1) hx hb dX5_raise_93 (by decide) ?_
                  refine lv_goto (tgt := 98) hx hb dX5_raise_94 (by decide) ?_
                  refine lv_istore (lv' := [(5, .int (nI 1)), (4, .int (nI 1)), (7, .long (((gsP0 st (z * 4 + b)).toInt64) + v.toInt64)), (0, .ref h), (1, .int (nI 0)), (2, .int (nI b)), (3, .int v), (6, .int (nI z))]) hx hb dX5_raise_98 hl (by decide) rfl (fun ls hl => ?_)
                  refine lv_iinc (v := nI (z + 1)) (lv' := [(6, .int (nI (z + 1))), (5, .int (nI 1)), (4, .int (nI 1)), (7, .long (((gsP0 st (z * 4 + b)).toInt64) + v.toInt64)), (0, .ref h), (1, .int (nI 0)), (2, .int (nI b)), (3, .int v)]) hx hb dX5_raise_100 hl (k := 7) rfl (nI_inc _) (by decide) rfl (fun ls hl => ?_)
                  refine lv_goto (tgt := 33) hx hb dX5_raise_103 (by decide) ?_
                  exact ih33 (z + 1) true true (by omega) (by omega) (by show _ = (rB (fun i => decide (((gsP0 st) (i * 4 + b)).toInt64 + v.toInt64 < -20)) z || (fun i => decide (((gsP0 st) (i * 4 + b)).toInt64 + v.toInt64 < -20)) z); rw [← h1]; first | (rw [c60]; rfl) | (rw [c60]; show _ = (false || decide _); rw [decide_eq_true (Int64.not_le.mp c69)]; rfl) | (rw [c60]; show _ = (false || decide _); rw [decide_eq_false (Int64.not_lt.mpr c69)]; rfl)) (by show _ = (rB (fun i => decide (20 < ((gsP0 st) (i * 4 + b)).toInt64 + v.toInt64)) z || (fun i => decide (20 < ((gsP0 st) (i * 4 + b)).toInt64 + v.toInt64)) z); rw [← h2]; first | (rw [c81]; rfl) | (rw [c81]; show _ = (false || decide _); rw [decide_eq_true (Int64.not_le.mp c90)]; rfl) | (rw [c81]; show _ = (false || decide _); rw [decide_eq_false (Int64.not_lt.mpr c90)]; rfl)) _ _ hP hS ls (lv_sub hl [4, 5, 6, 7, 2, 1, 0] rfl)
                · have c81 := gb_f c81
                  refine lv_lload hx hb dX5_raise_84 (lv_at hl 1 rfl) ?_
                  refine lv_ldc2 (v := (20 : Int64)) hx hb hC.1.2.2.2.1 (hC.1.2.2.2.2 _ q4_12) dX5_raise_86 ?_
                  refine W.lcmp hx hb dX5_raise_89 ?_
                  refine lv_if_le (tgt := 97) hx hb dX5_raise_90 (by decide) (fun c90 => ?_) (fun c90 => ?_)
                  · have c90 := (lg_cmp_le _ _).mp c90
                    refine lv_iconst (v := nI 0) hx hb dX5_raise_97 (by decide) ?_
                    refine lv_istore (lv' := [(5, .int (nI 0)), (4, .int (nI 1)), (7, .long (((gsP0 st (z * 4 + b)).toInt64) + v.toInt64)), (0, .ref h), (1, .int (nI 0)), (2, .int (nI b)), (3, .int v), (6, .int (nI z))]) hx hb dX5_raise_98 hl (by decide) rfl (fun ls hl => ?_)
                    refine lv_iinc (v := nI (z + 1)) (lv' := [(6, .int (nI (z + 1))), (5, .int (nI 0)), (4, .int (nI 1)), (7, .long (((gsP0 st (z * 4 + b)).toInt64) + v.toInt64)), (0, .ref h), (1, .int (nI 0)), (2, .int (nI b)), (3, .int v)]) hx hb dX5_raise_100 hl (k := 7) rfl (nI_inc _) (by decide) rfl (fun ls hl => ?_)
                    refine lv_goto (tgt := 33) hx hb dX5_raise_103 (by decide) ?_
                    exact ih33 (z + 1) true false (by omega) (by omega) (by show _ = (rB (fun i => decide (((gsP0 st) (i * 4 + b)).toInt64 + v.toInt64 < -20)) z || (fun i => decide (((gsP0 st) (i * 4 + b)).toInt64 + v.toInt64 < -20)) z); rw [← h1]; first | (rw [c60]; rfl) | (rw [c60]; show _ = (false || decide _); rw [decide_eq_true (Int64.not_le.mp c69)]; rfl) | (rw [c60]; show _ = (false || decide _); rw [decide_eq_false (Int64.not_lt.mpr c69)]; rfl)) (by show _ = (rB (fun i => decide (20 < ((gsP0 st) (i * 4 + b)).toInt64 + v.toInt64)) z || (fun i => decide (20 < ((gsP0 st) (i * 4 + b)).toInt64 + v.toInt64)) z); rw [← h2]; first | (rw [c81]; rfl) | (rw [c81]; show _ = (false || decide _); rw [decide_eq_true (Int64.not_le.mp c90)]; rfl) | (rw [c81]; show _ = (false || decide _); rw [decide_eq_false (Int64.not_lt.mpr c90)]; rfl)) _ _ hP hS ls (lv_sub hl [4, 5, 6, 7, 2, 1, 0] rfl)
                  · have c90 := mt (lg_cmp_le _ _).mpr c90
                    refine lv_iconst (v := nI 1) hx hb dX5_raise_93 (by decide) ?_
                    refine lv_goto (tgt := 98) hx hb dX5_raise_94 (by decide) ?_
                    refine lv_istore (lv' := [(5, .int (nI 1)), (4, .int (nI 1)), (7, .long (((gsP0 st (z * 4 + b)).toInt64) + v.toInt64)), (0, .ref h), (1, .int (nI 0)), (2, .int (nI b)), (3, .int v), (6, .int (nI z))]) hx hb dX5_raise_98 hl (by decide) rfl (fun ls hl => ?_)
                    refine lv_iinc (v := nI (z + 1)) (lv' := [(6, .int (nI (z + 1))), (5, .int (nI 1)), (4, .int (nI 1)), (7, .long (((gsP0 st (z * 4 + b)).toInt64) + v.toInt64)), (0, .ref h), (1, .int (nI 0)), (2, .int (nI b)), (3, .int v)]) hx hb dX5_raise_100 hl (k := 7) rfl (nI_inc _) (by decide) rfl (fun ls hl => ?_)
                    refine lv_goto (tgt := 33) hx hb dX5_raise_103 (by decide) ?_
                    exact ih33 (z + 1) true true (by omega) (by omega) (by show _ = (rB (fun i => decide (((gsP0 st) (i * 4 + b)).toInt64 + v.toInt64 < -20)) z || (fun i => decide (((gsP0 st) (i * 4 + b)).toInt64 + v.toInt64 < -20)) z); rw [← h1]; first | (rw [c60]; rfl) | (rw [c60]; show _ = (false || decide _); rw [decide_eq_true (Int64.not_le.mp c69)]; rfl) | (rw [c60]; show _ = (false || decide _); rw [decide_eq_false (Int64.not_lt.mpr c69)]; rfl)) (by show _ = (rB (fun i => decide (20 < ((gsP0 st) (i * 4 + b)).toInt64 + v.toInt64)) z || (fun i => decide (20 < ((gsP0 st) (i * 4 + b)).toInt64 + v.toInt64)) z); rw [← h2]; first | (rw [c81]; rfl) | (rw [c81]; show _ = (false || decide _); rw [decide_eq_true (Int64.not_le.mp c90)]; rfl) | (rw [c81]; show _ = (false || decide _); rw [decide_eq_false (Int64.not_lt.mpr c90)]; rfl)) _ _ hP hS ls (lv_sub hl [4, 5, 6, 7, 2, 1, 0] rfl)
              · have c60 := gb_f c60
                refine lv_lload hx hb dX5_raise_63 (lv_at hl 0 rfl) ?_
                refine lv_ldc2 (v := (-20 : Int64)) hx hb hC.1.2.2.2.1 (hC.1.2.2.2.2 _ q4_11) dX5_raise_65 ?_
                refine W.lcmp hx hb dX5_raise_68 ?_
                refine lv_if_ge (tgt := 76) hx hb dX5_raise_69 (by decide) (fun c69 => ?_) (fun c69 => ?_)
                · have c69 := (lg_cmp_ge _ _).mp c69
                  refine lv_iconst (v := nI 0) hx hb dX5_raise_76 (by decide) ?_
                  refine lv_istore (lv' := [(4, .int (nI 0)), (7, .long (((gsP0 st (z * 4 + b)).toInt64) + v.toInt64)), (0, .ref h), (1, .int (nI 0)), (2, .int (nI b)), (3, .int v), (5, .int (gb ab)), (6, .int (nI z))]) hx hb dX5_raise_77 hl (by decide) rfl (fun ls hl => ?_)
                  refine lv_iload hx hb dX5_raise_79 (lv_at hl 6 rfl) ?_
                  refine lv_if_ne (tgt := 93) hx hb dX5_raise_81 (by decide) (fun c81 => ?_) (fun c81 => ?_)
                  · have c81 := gb_t c81
                    refine lv_iconst (v := nI 1) hx hb dX5_raise_93 (by decide) ?_
                    refine lv_goto (tgt := 98) hx hb dX5_raise_94 (by decide) ?_
                    refine lv_istore (lv' := [(5, .int (nI 1)), (4, .int (nI 0)), (7, .long (((gsP0 st (z * 4 + b)).toInt64) + v.toInt64)), (0, .ref h), (1, .int (nI 0)), (2, .int (nI b)), (3, .int v), (6, .int (nI z))]) hx hb dX5_raise_98 hl (by decide) rfl (fun ls hl => ?_)
                    refine lv_iinc (v := nI (z + 1)) (lv' := [(6, .int (nI (z + 1))), (5, .int (nI 1)), (4, .int (nI 0)), (7, .long (((gsP0 st (z * 4 + b)).toInt64) + v.toInt64)), (0, .ref h), (1, .int (nI 0)), (2, .int (nI b)), (3, .int v)]) hx hb dX5_raise_100 hl (k := 7) rfl (nI_inc _) (by decide) rfl (fun ls hl => ?_)
                    refine lv_goto (tgt := 33) hx hb dX5_raise_103 (by decide) ?_
                    exact ih33 (z + 1) false true (by omega) (by omega) (by show _ = (rB (fun i => decide (((gsP0 st) (i * 4 + b)).toInt64 + v.toInt64 < -20)) z || (fun i => decide (((gsP0 st) (i * 4 + b)).toInt64 + v.toInt64 < -20)) z); rw [← h1]; first | (rw [c60]; rfl) | (rw [c60]; show _ = (false || decide _); rw [decide_eq_true (Int64.not_le.mp c69)]; rfl) | (rw [c60]; show _ = (false || decide _); rw [decide_eq_false (Int64.not_lt.mpr c69)]; rfl)) (by show _ = (rB (fun i => decide (20 < ((gsP0 st) (i * 4 + b)).toInt64 + v.toInt64)) z || (fun i => decide (20 < ((gsP0 st) (i * 4 + b)).toInt64 + v.toInt64)) z); rw [← h2]; first | (rw [c81]; rfl) | (rw [c81]; show _ = (false || decide _); rw [decide_eq_true (Int64.not_le.mp c90)]; rfl) | (rw [c81]; show _ = (false || decide _); rw [decide_eq_false (Int64.not_lt.mpr c90)]; rfl)) _ _ hP hS ls (lv_sub hl [4, 5, 6, 7, 2, 1, 0] rfl)
                  · have c81 := gb_f c81
                    refine lv_lload hx hb dX5_raise_84 (lv_at hl 1 rfl) ?_
                    refine lv_ldc2 (v := (20 : Int64)) hx hb hC.1.2.2.2.1 (hC.1.2.2.2.2 _ q4_12) dX5_raise_86 ?_
                    refine W.lcmp hx hb dX5_raise_89 ?_
                    refine lv_if_le (tgt := 97) hx hb dX5_raise_90 (by decide) (fun c90 => ?_) (fun c90 => ?_)
                    · have c90 := (lg_cmp_le _ _).mp c90
                      refine lv_iconst (v := nI 0) hx hb dX5_raise_97 (by decide) ?_
                      refine lv_istore (lv' := [(5, .int (nI 0)), (4, .int (nI 0)), (7, .long (((gsP0 st (z * 4 + b)).toInt64) + v.toInt64)), (0, .ref h), (1, .int (nI 0)), (2, .int (nI b)), (3, .int v), (6, .int (nI z))]) hx hb dX5_raise_98 hl (by decide) rfl (fun ls hl => ?_)
                      refine lv_iinc (v := nI (z + 1)) (lv' := [(6, .int (nI (z + 1))), (5, .int (nI 0)), (4, .int (nI 0)), (7, .long (((gsP0 st (z * 4 + b)).toInt64) + v.toInt64)), (0, .ref h), (1, .int (nI 0)), (2, .int (nI b)), (3, .int v)]) hx hb dX5_raise_100 hl (k := 7) rfl (nI_inc _) (by decide) rfl (fun ls hl => ?_)
                      refine lv_goto (tgt := 33) hx hb dX5_raise_103 (by decide) ?_
                      exact ih33 (z + 1) false false (by omega) (by omega) (by show _ = (rB (fun i => decide (((gsP0 st) (i * 4 + b)).toInt64 + v.toInt64 < -20)) z || (fun i => decide (((gsP0 st) (i * 4 + b)).toInt64 + v.toInt64 < -20)) z); rw [← h1]; first | (rw [c60]; rfl) | (rw [c60]; show _ = (false || decide _); rw [decide_eq_true (Int64.not_le.mp c69)]; rfl) | (rw [c60]; show _ = (false || decide _); rw [decide_eq_false (Int64.not_lt.mpr c69)]; rfl)) (by show _ = (rB (fun i => decide (20 < ((gsP0 st) (i * 4 + b)).toInt64 + v.toInt64)) z || (fun i => decide (20 < ((gsP0 st) (i * 4 + b)).toInt64 + v.toInt64)) z); rw [← h2]; first | (rw [c81]; rfl) | (rw [c81]; show _ = (false || decide _); rw [decide_eq_true (Int64.not_le.mp c90)]; rfl) | (rw [c81]; show _ = (false || decide _); rw [decide_eq_false (Int64.not_lt.mpr c90)]; rfl)) _ _ hP hS ls (lv_sub hl [4, 5, 6, 7, 2, 1, 0] rfl)
                    · have c90 := mt (lg_cmp_le _ _).mpr c90
                      refine lv_iconst (v := nI 1) hx hb dX5_raise_93 (by decide) ?_
                      refine lv_goto (tgt := 98) hx hb dX5_raise_94 (by decide) ?_
                      refine lv_istore (lv' := [(5, .int (nI 1)), (4, .int (nI 0)), (7, .long (((gsP0 st (z * 4 + b)).toInt64) + v.toInt64)), (0, .ref h), (1, .int (nI 0)), (2, .int (nI b)), (3, .int v), (6, .int (nI z))]) hx hb dX5_raise_98 hl (by decide) rfl (fun ls hl => ?_)
                      refine lv_iinc (v := nI (z + 1)) (lv' := [(6, .int (nI (z + 1))), (5, .int (nI 1)), (4, .int (nI 0)), (7, .long (((gsP0 st (z * 4 + b)).toInt64) + v.toInt64)), (0, .ref h), (1, .int (nI 0)), (2, .int (nI b)), (3, .int v)]) hx hb dX5_raise_100 hl (k := 7) rfl (nI_inc _) (by decide) rfl (fun ls hl => ?_)
                      refine lv_goto (tgt := 33) hx hb dX5_raise_103 (by decide) ?_
                      exact ih33 (z + 1) false true (by omega) (by omega) (by show _ = (rB (fun i => decide (((gsP0 st) (i * 4 + b)).toInt64 + v.toInt64 < -20)) z || (fun i => decide (((gsP0 st) (i * 4 + b)).toInt64 + v.toInt64 < -20)) z); rw [← h1]; first | (rw [c60]; rfl) | (rw [c60]; show _ = (false || decide _); rw [decide_eq_true (Int64.not_le.mp c69)]; rfl) | (rw [c60]; show _ = (false || decide _); rw [decide_eq_false (Int64.not_lt.mpr c69)]; rfl)) (by show _ = (rB (fun i => decide (20 < ((gsP0 st) (i * 4 + b)).toInt64 + v.toInt64)) z || (fun i => decide (20 < ((gsP0 st) (i * 4 + b)).toInt64 + v.toInt64)) z); rw [← h2]; first | (rw [c81]; rfl) | (rw [c81]; show _ = (false || decide _); rw [decide_eq_true (Int64.not_le.mp c90)]; rfl) | (rw [c81]; show _ = (false || decide _); rw [decide_eq_false (Int64.not_lt.mpr c90)]; rfl)) _ _ hP hS ls (lv_sub hl [4, 5, 6, 7, 2, 1, 0] rfl)
                · have c69 := mt (lg_cmp_ge _ _).mpr c69
                  refine lv_iconst (v := nI 1) hx hb dX5_raise_72 (by decide) ?_
                  refine lv_goto (tgt := 77) hx hb dX5_raise_73 (by decide) ?_
                  refine lv_istore (lv' := [(4, .int (nI 1)), (7, .long (((gsP0 st (z * 4 + b)).toInt64) + v.toInt64)), (0, .ref h), (1, .int (nI 0)), (2, .int (nI b)), (3, .int v), (5, .int (gb ab)), (6, .int (nI z))]) hx hb dX5_raise_77 hl (by decide) rfl (fun ls hl => ?_)
                  refine lv_iload hx hb dX5_raise_79 (lv_at hl 6 rfl) ?_
                  refine lv_if_ne (tgt := 93) hx hb dX5_raise_81 (by decide) (fun c81 => ?_) (fun c81 => ?_)
                  · have c81 := gb_t c81
                    refine lv_iconst (v := nI 1) hx hb dX5_raise_93 (by decide) ?_
                    refine lv_goto (tgt := 98) hx hb dX5_raise_94 (by decide) ?_
                    refine lv_istore (lv' := [(5, .int (nI 1)), (4, .int (nI 1)), (7, .long (((gsP0 st (z * 4 + b)).toInt64) + v.toInt64)), (0, .ref h), (1, .int (nI 0)), (2, .int (nI b)), (3, .int v), (6, .int (nI z))]) hx hb dX5_raise_98 hl (by decide) rfl (fun ls hl => ?_)
                    refine lv_iinc (v := nI (z + 1)) (lv' := [(6, .int (nI (z + 1))), (5, .int (nI 1)), (4, .int (nI 1)), (7, .long (((gsP0 st (z * 4 + b)).toInt64) + v.toInt64)), (0, .ref h), (1, .int (nI 0)), (2, .int (nI b)), (3, .int v)]) hx hb dX5_raise_100 hl (k := 7) rfl (nI_inc _) (by decide) rfl (fun ls hl => ?_)
                    refine lv_goto (tgt := 33) hx hb dX5_raise_103 (by decide) ?_
                    exact ih33 (z + 1) true true (by omega) (by omega) (by show _ = (rB (fun i => decide (((gsP0 st) (i * 4 + b)).toInt64 + v.toInt64 < -20)) z || (fun i => decide (((gsP0 st) (i * 4 + b)).toInt64 + v.toInt64 < -20)) z); rw [← h1]; first | (rw [c60]; rfl) | (rw [c60]; show _ = (false || decide _); rw [decide_eq_true (Int64.not_le.mp c69)]; rfl) | (rw [c60]; show _ = (false || decide _); rw [decide_eq_false (Int64.not_lt.mpr c69)]; rfl)) (by show _ = (rB (fun i => decide (20 < ((gsP0 st) (i * 4 + b)).toInt64 + v.toInt64)) z || (fun i => decide (20 < ((gsP0 st) (i * 4 + b)).toInt64 + v.toInt64)) z); rw [← h2]; first | (rw [c81]; rfl) | (rw [c81]; show _ = (false || decide _); rw [decide_eq_true (Int64.not_le.mp c90)]; rfl) | (rw [c81]; show _ = (false || decide _); rw [decide_eq_false (Int64.not_lt.mpr c90)]; rfl)) _ _ hP hS ls (lv_sub hl [4, 5, 6, 7, 2, 1, 0] rfl)
                  · have c81 := gb_f c81
                    refine lv_lload hx hb dX5_raise_84 (lv_at hl 1 rfl) ?_
                    refine lv_ldc2 (v := (20 : Int64)) hx hb hC.1.2.2.2.1 (hC.1.2.2.2.2 _ q4_12) dX5_raise_86 ?_
                    refine W.lcmp hx hb dX5_raise_89 ?_
                    refine lv_if_le (tgt := 97) hx hb dX5_raise_90 (by decide) (fun c90 => ?_) (fun c90 => ?_)
                    · have c90 := (lg_cmp_le _ _).mp c90
                      refine lv_iconst (v := nI 0) hx hb dX5_raise_97 (by decide) ?_
                      refine lv_istore (lv' := [(5, .int (nI 0)), (4, .int (nI 1)), (7, .long (((gsP0 st (z * 4 + b)).toInt64) + v.toInt64)), (0, .ref h), (1, .int (nI 0)), (2, .int (nI b)), (3, .int v), (6, .int (nI z))]) hx hb dX5_raise_98 hl (by decide) rfl (fun ls hl => ?_)
                      refine lv_iinc (v := nI (z + 1)) (lv' := [(6, .int (nI (z + 1))), (5, .int (nI 0)), (4, .int (nI 1)), (7, .long (((gsP0 st (z * 4 + b)).toInt64) + v.toInt64)), (0, .ref h), (1, .int (nI 0)), (2, .int (nI b)), (3, .int v)]) hx hb dX5_raise_100 hl (k := 7) rfl (nI_inc _) (by decide) rfl (fun ls hl => ?_)
                      refine lv_goto (tgt := 33) hx hb dX5_raise_103 (by decide) ?_
                      exact ih33 (z + 1) true false (by omega) (by omega) (by show _ = (rB (fun i => decide (((gsP0 st) (i * 4 + b)).toInt64 + v.toInt64 < -20)) z || (fun i => decide (((gsP0 st) (i * 4 + b)).toInt64 + v.toInt64 < -20)) z); rw [← h1]; first | (rw [c60]; rfl) | (rw [c60]; show _ = (false || decide _); rw [decide_eq_true (Int64.not_le.mp c69)]; rfl) | (rw [c60]; show _ = (false || decide _); rw [decide_eq_false (Int64.not_lt.mpr c69)]; rfl)) (by show _ = (rB (fun i => decide (20 < ((gsP0 st) (i * 4 + b)).toInt64 + v.toInt64)) z || (fun i => decide (20 < ((gsP0 st) (i * 4 + b)).toInt64 + v.toInt64)) z); rw [← h2]; first | (rw [c81]; rfl) | (rw [c81]; show _ = (false || decide _); rw [decide_eq_true (Int64.not_le.mp c90)]; rfl) | (rw [c81]; show _ = (false || decide _); rw [decide_eq_false (Int64.not_lt.mpr c90)]; rfl)) _ _ hP hS ls (lv_sub hl [4, 5, 6, 7, 2, 1, 0] rfl)
                    · have c90 := mt (lg_cmp_le _ _).mpr c90
                      refine lv_iconst (v := nI 1) hx hb dX5_raise_93 (by decide) ?_
                      refine lv_goto (tgt := 98) hx hb dX5_raise_94 (by decide) ?_
                      refine lv_istore (lv' := [(5, .int (nI 1)), (4, .int (nI 1)), (7, .long (((gsP0 st (z * 4 + b)).toInt64) + v.toInt64)), (0, .ref h), (1, .int (nI 0)), (2, .int (nI b)), (3, .int v), (6, .int (nI z))]) hx hb dX5_raise_98 hl (by decide) rfl (fun ls hl => ?_)
                      refine lv_iinc (v := nI (z + 1)) (lv' := [(6, .int (nI (z + 1))), (5, .int (nI 1)), (4, .int (nI 1)), (7, .long (((gsP0 st (z * 4 + b)).toInt64) + v.toInt64)), (0, .ref h), (1, .int (nI 0)), (2, .int (nI b)), (3, .int v)]) hx hb dX5_raise_100 hl (k := 7) rfl (nI_inc _) (by decide) rfl (fun ls hl => ?_)
                      refine lv_goto (tgt := 33) hx hb dX5_raise_103 (by decide) ?_
                      exact ih33 (z + 1) true true (by omega) (by omega) (by show _ = (rB (fun i => decide (((gsP0 st) (i * 4 + b)).toInt64 + v.toInt64 < -20)) z || (fun i => decide (((gsP0 st) (i * 4 + b)).toInt64 + v.toInt64 < -20)) z); rw [← h1]; first | (rw [c60]; rfl) | (rw [c60]; show _ = (false || decide _); rw [decide_eq_true (Int64.not_le.mp c69)]; rfl) | (rw [c60]; show _ = (false || decide _); rw [decide_eq_false (Int64.not_lt.mpr c69)]; rfl)) (by show _ = (rB (fun i => decide (20 < ((gsP0 st) (i * 4 + b)).toInt64 + v.toInt64)) z || (fun i => decide (20 < ((gsP0 st) (i * 4 + b)).toInt64 + v.toInt64)) z); rw [← h2]; first | (rw [c81]; rfl) | (rw [c81]; show _ = (false || decide _); rw [decide_eq_true (Int64.not_le.mp c90)]; rfl) | (rw [c81]; show _ = (false || decide _); rw [decide_eq_false (Int64.not_lt.mpr c90)]; rfl)) _ _ hP hS ls (lv_sub hl [4, 5, 6, 7, 2, 1, 0] rfl)
        exact L33 5 0 false false (by omega) (by omega) rfl rfl _ _ hP hS ls (lv_sub hl [3, 4, 5, 6, 2, 1, 0] rfl)
      · have c15 := gb_f c15
        refine lv_aload_n hx hb dX5_raise_18 rfl (lv_at hl 0 rfl) ?_
        refine lv_iconst (v := (-1)) hx hb dX5_raise_19 (by decide) ?_
        refine g_cc (g_rV (As := [.int (-1 : Int32)]) hC hP (c_X5_refuse l hP (h := h) (q := (-1 : Int32)) (j := 1) (by first | assumption | omega) (by decide) (by omega)) hm.1 rfl ⟨q3_71, q3_68, q3_70, qs_25, q1_6⟩ dd_X5_refuse ⟨Nat.le_of_ble_eq_true rfl, Nat.le_of_ble_eq_true rfl, rfl, rfl⟩ hl.1 rfl (Nat.le_of_ble_eq_true rfl) dX5_raise_20 ⟨Nat.le_of_ble_eq_true rfl, Nat.le_of_ble_eq_true rfl⟩) hS (fun q h => h.elim (hTA q) (fun z => hA q (Nat.le_trans hS.1 z))) (fun r30 H26 locs27 hq31 hS hz28 hfr29 => ?_)
        obtain ⟨rfl, hP⟩ := hq31
        obtain ⟨I32, hI32, hP⟩ : ∃ I32 : gI, I32 = au I (h + 4) 1 (I (h + 4) 1 + 1) ∧ gP G T I32 J Q O H26 := ⟨_, rfl, hP⟩
        refine W.eq (g2 := F0 m 23 ls [.int (-1 : Int32)]) rfl ?_
        refine g_retci hC hS ?_ dX5_raise_23
        exact Or.inl ⟨Or.inr (Or.inl ⟨rfl, c15⟩), rfl, mo_ref hm hs0 (j := 1) (by decide) hI32 hP⟩
    · refine lv_aload_n hx hb dX5_raise_7 rfl (lv_at hl 0 rfl) ?_
      refine lv_iconst (v := nI 1) hx hb dX5_raise_8 (by decide) ?_
      refine lv_iload_n hx hb dX5_raise_9 rfl (lv_at hl 1 rfl) ?_
      refine lv_isub hx hb dX5_raise_10 ?_
      refine g_topi (y := nI 0) (by decide) ?_
      refine lv_iload_n hx hb dX5_raise_11 rfl (lv_at hl 2 rfl) ?_
      refine g_cp (g_rV (As := [.int (nI 0), .int k]) hC hP (c_X5_isChoice l hP (h := h) (q := nI 0) (k := k) (by first | assumption | omega) (by first | assumption | omega)) hm.1 rfl ⟨q3_82, q3_79, q3_81, qs_26, q1_6⟩ dd_X5_isChoice ⟨Nat.le_of_ble_eq_true rfl, Nat.le_of_ble_eq_true rfl, rfl, rfl⟩ hl.1 rfl (Nat.le_of_ble_eq_true rfl) dX5_raise_12 ⟨Nat.le_of_ble_eq_true rfl, Nat.le_of_ble_eq_true rfl⟩) ?_
      refine W.eq (g2 := F0 m 15 ls [.int (gb (inR k (gsm st)))]) rfl ?_
      refine lv_if_ne (tgt := 24) hx hb dX5_raise_15 (by decide) (fun c15 => ?_) (fun c15 => ?_)
      · have c15 := gb_t c15
        obtain ⟨b, hb2, rfl⟩ := inR_nI (by omega) c15
        refine lv_iconst (v := nI 0) hx hb dX5_raise_24 (by decide) ?_
        refine lv_istore (lv' := [(4, .int (nI 0)), (0, .ref h), (1, .int (nI 1)), (2, .int (nI b)), (3, .int v)]) hx hb dX5_raise_25 hl (by decide) rfl (fun ls hl => ?_)
        refine lv_iconst (v := nI 0) hx hb dX5_raise_27 (by decide) ?_
        refine lv_istore (lv' := [(5, .int (nI 0)), (4, .int (nI 0)), (0, .ref h), (1, .int (nI 1)), (2, .int (nI b)), (3, .int v)]) hx hb dX5_raise_28 hl (by decide) rfl (fun ls hl => ?_)
        refine lv_iconst (v := nI 0) hx hb dX5_raise_30 (by decide) ?_
        refine lv_istore (lv' := [(6, .int (nI 0)), (5, .int (nI 0)), (4, .int (nI 0)), (0, .ref h), (1, .int (nI 1)), (2, .int (nI b)), (3, .int v)]) hx hb dX5_raise_31 hl (by decide) rfl (fun ls hl => ?_)
        have L33 : ∀ (n33 : Nat) (z : Nat) (bl : Bool) (ab : Bool), 5 ≤ n33 + z → (z ≤ gsn st) → (bl = rB (fun i => decide (((gsP1 st) (i * 4 + b)).toInt64 + v.toInt64 < -20)) z) → (ab = rB (fun i => decide (20 < ((gsP1 st) (i * 4 + b)).toInt64 + v.toInt64)) z) → ∀ (Hl : Heap) (lcl : List Loc), gP G T I J Q O Hl → va_S A s.heap Hl lcl → ∀ ls : Array Slot, lv_has ls 9 [(0, .ref h), (1, .int (nI 1)), (2, .int (nI b)), (3, .int v), (4, .int (gb bl)), (5, .int (gb ab)), (6, .int (nI z))] → W p l e ({ frames := 2, cells := 0, slots := 0, locals := 47 } : Room) s m [.ref h, .int (nI 1), .int (nI b), .int v].toArray below meth c Hl lcl 0 0 (MQ below (gQc A (fun x H1 => rRaise st (fun x1 s1 => x = some (.int x1) ∧ moR G T h s1 H1) (nI 1) (nI b) v)) [.ref h, .int (nI 1), .int (nI b), .int v].toArray s 0 0 A) (F0 m 33 ls []) := by
          intro n33
          induction n33 with
          | zero => intro z bl ab hn33 hz h1 h2; exact absurd hn33 (by omega)
          | succ n33 ih33 =>
            intro z bl ab hn33 hz h1 h2 Hl lcl hP hS ls hl
            refine lv_iload hx hb dX5_raise_33 (lv_at hl 6 rfl) ?_
            refine lv_aload_n hx hb dX5_raise_35 rfl (lv_at hl 0 rfl) ?_
            refine g_get hC hP hm.1 rfl inX5 0 (by decide) q3_6 hm.2.1.1 dX5_raise_36 ?_
            refine lv_iload_n hx hb dX5_raise_39 rfl (lv_at hl 1 rfl) ?_
            refine g_iald hC hP hm.2.1.2 (vp_in_nI (by omega) (by decide)) dX5_raise_40 ?_
            refine g_topi (y := nI (gsn st)) hs0.2.2.2.1 ?_
            refine lv_icmp_ge (tgt := 106) hx hb dX5_raise_41 (by decide) (fun c41 => ?_) (fun c41 => ?_)
            · have c41 := (nI_leI (by omega) (by omega)).mp c41
              refine lv_iload hx hb dX5_raise_106 (lv_at hl 4 rfl) ?_
              refine lv_if_eq (tgt := 118) hx hb dX5_raise_108 (by decide) (fun c108 => ?_) (fun c108 => ?_)
              · have c108 := gb_f c108
                refine lv_iload hx hb dX5_raise_118 (lv_at hl 5 rfl) ?_
                refine lv_if_eq (tgt := 130) hx hb dX5_raise_120 (by decide) (fun c120 => ?_) (fun c120 => ?_)
                · have c120 := gb_f c120
                  refine lv_iconst (v := nI 0) hx hb dX5_raise_130 (by decide) ?_
                  refine lv_istore (lv' := [(6, .int (nI 0)), (0, .ref h), (1, .int (nI 1)), (2, .int (nI b)), (3, .int v), (4, .int (gb bl)), (5, .int (gb ab))]) hx hb dX5_raise_131 hl (by decide) rfl (fun ls hl => ?_)
                  have L133 : ∀ (n133 : Nat) (z2 : Nat) (I9 : gI), 5 ≤ n133 + z2 → (z2 ≤ gsn st) → (I9 = gu I (h + 2) (adR1 (I (h + 2)) b v z2)) → ∀ (Hl : Heap) (lcl : List Loc), gP G T I9 J Q O Hl → va_S A s.heap Hl lcl → ∀ ls : Array Slot, lv_has ls 9 [(0, .ref h), (1, .int (nI 1)), (2, .int (nI b)), (3, .int v), (6, .int (nI z2))] → W p l e ({ frames := 2, cells := 0, slots := 0, locals := 47 } : Room) s m [.ref h, .int (nI 1), .int (nI b), .int v].toArray below meth c Hl lcl 0 0 (MQ below (gQc A (fun x H1 => rRaise st (fun x1 s1 => x = some (.int x1) ∧ moR G T h s1 H1) (nI 1) (nI b) v)) [.ref h, .int (nI 1), .int (nI b), .int v].toArray s 0 0 A) (F0 m 133 ls []) := by
                    intro n133
                    induction n133 with
                    | zero => intro z2 I9 hn133 hz2 g1; exact absurd hn133 (by omega)
                    | succ n133 ih133 =>
                      intro z2 I9 hn133 hz2 g1 Hl lcl hP hS ls hl
                      refine lv_iload hx hb dX5_raise_133 (lv_at hl 4 rfl) ?_
                      refine lv_aload_n hx hb dX5_raise_135 rfl (lv_at hl 0 rfl) ?_
                      refine g_get hC hP hm.1 rfl inX5 0 (by decide) q3_6 hm.2.1.1 dX5_raise_136 ?_
                      refine lv_iload_n hx hb dX5_raise_139 rfl (lv_at hl 1 rfl) ?_
                      refine g_iald hC hP hm.2.1.2 (vp_in_nI (by omega) (by decide)) dX5_raise_140 ?_
                      refine g_topi (y := nI (gsn st)) (by rw [g1, gu_ne _ _ (by omega)]; exact hs0.2.2.2.1) ?_
                      refine lv_icmp_ge (tgt := 167) hx hb dX5_raise_141 (by decide) (fun c141 => ?_) (fun c141 => ?_)
                      · have c141 := (nI_leI (by omega) (by omega)).mp c141
                        refine lv_iconst (v := nI 1) hx hb dX5_raise_167 (by decide) ?_
                        refine g_retci hC hS ?_ dX5_raise_168
                        have e1 : bl = decide _ := (h1.trans (by rw [show z = gsn st from by omega])).trans (least_b (by omega))
                        have e2 : ab = decide _ := (h2.trans (by rw [show z = gsn st from by omega])).trans (most_b (by omega))
                        rw [c108] at e1
                        rw [c120] at e2
                        exact Or.inr ⟨b, rfl, Or.inr ⟨rfl, hb2, Or.inr (Or.inr ⟨of_decide_eq_false e1.symm, of_decide_eq_false e2.symm, rfl, mo_raise1 hm hs0 (by omega) (by rw [g1, show z2 = gsn st from by omega]) hP⟩)⟩⟩
                      · have c141 := mt (nI_leI (by omega) (by omega)).mpr c141
                        refine lv_aload_n hx hb dX5_raise_144 rfl (lv_at hl 0 rfl) ?_
                        refine g_get hC hP hm.1 rfl inX5 1 (by decide) q3_7 hm.2.2.1.1 dX5_raise_145 ?_
                        refine lv_aload_n hx hb dX5_raise_148 rfl (lv_at hl 0 rfl) ?_
                        refine lv_iload_n hx hb dX5_raise_149 rfl (lv_at hl 1 rfl) ?_
                        refine lv_iload hx hb dX5_raise_150 (lv_at hl 4 rfl) ?_
                        refine lv_iload_n hx hb dX5_raise_152 rfl (lv_at hl 2 rfl) ?_
                        refine g_cp (g_rV (As := [.int (nI 1), .int (nI z2), .int (nI b)]) hC hP (c_X5_placeOf l hP (h := h) (w := 1) (i := z2) (k := b) (by first | assumption | omega) (by first | assumption | omega) (by first | assumption | omega)) hm.1 rfl ⟨q4_16, q4_13, q4_15, qs_47, q1_6⟩ dd_X5_placeOf ⟨Nat.le_of_ble_eq_true rfl, Nat.le_of_ble_eq_true rfl, rfl, rfl⟩ hl.1 rfl (Nat.le_of_ble_eq_true rfl) dX5_raise_153 ⟨Nat.le_of_ble_eq_true rfl, Nat.le_of_ble_eq_true rfl⟩) ?_
                        refine W.eq (g2 := F0 m 156 ls [.int (nI (16 + 4 * b + z2)), .ref (h + 2)]) rfl ?_
                        refine lv_dup2_11 hx hb dX5_raise_156 rfl rfl ?_
                        refine g_iald hC hP hm.2.2.1.2 (vp_in_nI (by omega) (by decide)) dX5_raise_157 ?_
                        refine g_topi (y := I9 (h + 2) (16 + 4 * b + z2)) (congrArg (I9 (h + 2)) (nI_clamp (by omega))) ?_
                        refine lv_iload_n hx hb dX5_raise_158 rfl (lv_at hl 3 rfl) ?_
                        refine lv_iadd hx hb dX5_raise_159 ?_
                        refine g_iast hC hP hS hTA hm.2.2.1.2 (vp_in_nI (by omega) (by decide)) dX5_raise_160 (fun H33 locs34 hP hS hz36 => ?_)
                        rw [show (nI (16 + 4 * b + z2)).toNatClampNeg = 16 + 4 * b + z2 from nI_clamp (by omega)] at hP
                        obtain ⟨I35, hI35, hP⟩ : ∃ X : gI, X = au I9 (h + 2) (16 + 4 * b + z2) ((I9 (h + 2) (16 + 4 * b + z2)) + v) ∧ gP G T X J Q O H33 := ⟨_, rfl, hP⟩
                        refine lv_iinc (v := nI (z2 + 1)) (lv' := [(6, .int (nI (z2 + 1))), (0, .ref h), (1, .int (nI 1)), (2, .int (nI b)), (3, .int v)]) hx hb dX5_raise_161 hl (k := 4) rfl (nI_inc _) (by decide) rfl (fun ls hl => ?_)
                        refine lv_goto (tgt := 133) hx hb dX5_raise_164 (by decide) ?_
                        exact ih133 (z2 + 1) I35 (by omega) (by omega) (by rw [hI35, g1, au_gu, gu_eq]; exact congrArg _ (adR1_s (by omega) (by omega))) _ _ hP hS ls (lv_sub hl [1, 2, 3, 4, 0] rfl)
                  exact L133 5 0 I (by omega) (by omega) (by rw [adR1_0, gu_self]) _ _ hP hS ls (lv_sub hl [1, 2, 3, 4, 0] rfl)
                · have c120 := gb_t c120
                  refine lv_aload_n hx hb dX5_raise_123 rfl (lv_at hl 0 rfl) ?_
                  refine lv_bipush (v := (-6)) hx hb dX5_raise_124 (by decide) ?_
                  refine g_cc (g_rV (As := [.int (-6 : Int32)]) hC hP (c_X5_refuse l hP (h := h) (q := (-6 : Int32)) (j := 6) (by first | assumption | omega) (by decide) (by omega)) hm.1 rfl ⟨q3_71, q3_68, q3_70, qs_25, q1_6⟩ dd_X5_refuse ⟨Nat.le_of_ble_eq_true rfl, Nat.le_of_ble_eq_true rfl, rfl, rfl⟩ hl.1 rfl (Nat.le_of_ble_eq_true rfl) dX5_raise_126 ⟨Nat.le_of_ble_eq_true rfl, Nat.le_of_ble_eq_true rfl⟩) hS (fun q h => h.elim (hTA q) (fun z => hA q (Nat.le_trans hS.1 z))) (fun r41 H37 locs38 hq42 hS hz39 hfr40 => ?_)
                  obtain ⟨rfl, hP⟩ := hq42
                  obtain ⟨I43, hI43, hP⟩ : ∃ I43 : gI, I43 = au I (h + 4) 6 (I (h + 4) 6 + 1) ∧ gP G T I43 J Q O H37 := ⟨_, rfl, hP⟩
                  refine W.eq (g2 := F0 m 129 ls [.int (-6 : Int32)]) rfl ?_
                  refine g_retci hC hS ?_ dX5_raise_129
                  have e1 : bl = decide _ := (h1.trans (by rw [show z = gsn st from by omega])).trans (least_b (by omega))
                  have e2 : ab = decide _ := (h2.trans (by rw [show z = gsn st from by omega])).trans (most_b (by omega))
                  rw [c108] at e1
                  rw [c120] at e2
                  exact Or.inr ⟨b, rfl, Or.inr ⟨rfl, hb2, Or.inr (Or.inl ⟨of_decide_eq_false e1.symm, of_decide_eq_true e2.symm, rfl, mo_ref hm hs0 (j := 6) (by decide) hI43 hP⟩)⟩⟩
              · have c108 := gb_t c108
                refine lv_aload_n hx hb dX5_raise_111 rfl (lv_at hl 0 rfl) ?_
                refine lv_bipush (v := (-4)) hx hb dX5_raise_112 (by decide) ?_
                refine g_cc (g_rV (As := [.int (-4 : Int32)]) hC hP (c_X5_refuse l hP (h := h) (q := (-4 : Int32)) (j := 4) (by first | assumption | omega) (by decide) (by omega)) hm.1 rfl ⟨q3_71, q3_68, q3_70, qs_25, q1_6⟩ dd_X5_refuse ⟨Nat.le_of_ble_eq_true rfl, Nat.le_of_ble_eq_true rfl, rfl, rfl⟩ hl.1 rfl (Nat.le_of_ble_eq_true rfl) dX5_raise_114 ⟨Nat.le_of_ble_eq_true rfl, Nat.le_of_ble_eq_true rfl⟩) hS (fun q h => h.elim (hTA q) (fun z => hA q (Nat.le_trans hS.1 z))) (fun r48 H44 locs45 hq49 hS hz46 hfr47 => ?_)
                obtain ⟨rfl, hP⟩ := hq49
                obtain ⟨I50, hI50, hP⟩ : ∃ I50 : gI, I50 = au I (h + 4) 4 (I (h + 4) 4 + 1) ∧ gP G T I50 J Q O H44 := ⟨_, rfl, hP⟩
                refine W.eq (g2 := F0 m 117 ls [.int (-4 : Int32)]) rfl ?_
                refine g_retci hC hS ?_ dX5_raise_117
                have e1 : bl = decide _ := (h1.trans (by rw [show z = gsn st from by omega])).trans (least_b (by omega))
                rw [c108] at e1
                exact Or.inr ⟨b, rfl, Or.inr ⟨rfl, hb2, Or.inl ⟨of_decide_eq_true e1.symm, rfl, mo_ref hm hs0 (j := 4) (by decide) hI50 hP⟩⟩⟩
            · have c41 := mt (nI_leI (by omega) (by omega)).mpr c41
              refine lv_aload_n hx hb dX5_raise_44 rfl (lv_at hl 0 rfl) ?_
              refine lv_iload_n hx hb dX5_raise_45 rfl (lv_at hl 1 rfl) ?_
              refine lv_iload hx hb dX5_raise_46 (lv_at hl 6 rfl) ?_
              refine lv_iload_n hx hb dX5_raise_48 rfl (lv_at hl 2 rfl) ?_
              refine g_cp (g_rV (As := [.int (nI 1), .int (nI z), .int (nI b)]) hC hP (c_X5_get l hP (h := h) (w := 1) (i := z) (k := b) (by first | assumption | omega) (by first | assumption | omega) (by first | assumption | omega) (by first | assumption | omega) (by first | assumption | omega)) hm.1 rfl ⟨q3_139, q3_136, q3_138, qs_34, q1_6⟩ dd_X5_get ⟨Nat.le_of_ble_eq_true rfl, Nat.le_of_ble_eq_true rfl, rfl, rfl⟩ hl.1 rfl (Nat.le_of_ble_eq_true rfl) dX5_raise_49 ⟨Nat.le_of_ble_eq_true rfl, Nat.le_of_ble_eq_true rfl⟩) ?_
              refine W.eq (g2 := F0 m 52 ls [.int (gsP1 st (z * 4 + b))]) rfl ?_
              refine lv_i2l hx hb dX5_raise_52 rfl ?_
              refine lv_iload_n hx hb dX5_raise_53 rfl (lv_at hl 3 rfl) ?_
              refine lv_i2l hx hb dX5_raise_54 rfl ?_
              refine lv_ladd hx hb dX5_raise_55 ?_
              refine lv_lstore (lv' := [(7, .long (((gsP1 st (z * 4 + b)).toInt64) + v.toInt64)), (0, .ref h), (1, .int (nI 1)), (2, .int (nI b)), (3, .int v), (4, .int (gb bl)), (5, .int (gb ab)), (6, .int (nI z))]) hx hb dX5_raise_56 hl (by decide) rfl (fun ls hl => ?_)
              refine lv_iload hx hb dX5_raise_58 (lv_at hl 5 rfl) ?_
              refine lv_if_ne (tgt := 72) hx hb dX5_raise_60 (by decide) (fun c60 => ?_) (fun c60 => ?_)
              · have c60 := gb_t c60
                refine lv_iconst (v := nI 1) hx hb dX5_raise_72 (by decide) ?_
                refine lv_goto (tgt := 77) hx hb dX5_raise_73 (by decide) ?_
                refine lv_istore (lv' := [(4, .int (nI 1)), (7, .long (((gsP1 st (z * 4 + b)).toInt64) + v.toInt64)), (0, .ref h), (1, .int (nI 1)), (2, .int (nI b)), (3, .int v), (5, .int (gb ab)), (6, .int (nI z))]) hx hb dX5_raise_77 hl (by decide) rfl (fun ls hl => ?_)
                refine lv_iload hx hb dX5_raise_79 (lv_at hl 6 rfl) ?_
                refine lv_if_ne (tgt := 93) hx hb dX5_raise_81 (by decide) (fun c81 => ?_) (fun c81 => ?_)
                · have c81 := gb_t c81
                  refine lv_iconst (v := nI 1) hx hb dX5_raise_93 (by decide) ?_
                  refine lv_goto (tgt := 98) hx hb dX5_raise_94 (by decide) ?_
                  refine lv_istore (lv' := [(5, .int (nI 1)), (4, .int (nI 1)), (7, .long (((gsP1 st (z * 4 + b)).toInt64) + v.toInt64)), (0, .ref h), (1, .int (nI 1)), (2, .int (nI b)), (3, .int v), (6, .int (nI z))]) hx hb dX5_raise_98 hl (by decide) rfl (fun ls hl => ?_)
                  refine lv_iinc (v := nI (z + 1)) (lv' := [(6, .int (nI (z + 1))), (5, .int (nI 1)), (4, .int (nI 1)), (7, .long (((gsP1 st (z * 4 + b)).toInt64) + v.toInt64)), (0, .ref h), (1, .int (nI 1)), (2, .int (nI b)), (3, .int v)]) hx hb dX5_raise_100 hl (k := 7) rfl (nI_inc _) (by decide) rfl (fun ls hl => ?_)
                  refine lv_goto (tgt := 33) hx hb dX5_raise_103 (by decide) ?_
                  exact ih33 (z + 1) true true (by omega) (by omega) (by show _ = (rB (fun i => decide (((gsP1 st) (i * 4 + b)).toInt64 + v.toInt64 < -20)) z || (fun i => decide (((gsP1 st) (i * 4 + b)).toInt64 + v.toInt64 < -20)) z); rw [← h1]; first | (rw [c60]; rfl) | (rw [c60]; show _ = (false || decide _); rw [decide_eq_true (Int64.not_le.mp c69)]; rfl) | (rw [c60]; show _ = (false || decide _); rw [decide_eq_false (Int64.not_lt.mpr c69)]; rfl)) (by show _ = (rB (fun i => decide (20 < ((gsP1 st) (i * 4 + b)).toInt64 + v.toInt64)) z || (fun i => decide (20 < ((gsP1 st) (i * 4 + b)).toInt64 + v.toInt64)) z); rw [← h2]; first | (rw [c81]; rfl) | (rw [c81]; show _ = (false || decide _); rw [decide_eq_true (Int64.not_le.mp c90)]; rfl) | (rw [c81]; show _ = (false || decide _); rw [decide_eq_false (Int64.not_lt.mpr c90)]; rfl)) _ _ hP hS ls (lv_sub hl [4, 5, 6, 7, 2, 1, 0] rfl)
                · have c81 := gb_f c81
                  refine lv_lload hx hb dX5_raise_84 (lv_at hl 1 rfl) ?_
                  refine lv_ldc2 (v := (20 : Int64)) hx hb hC.1.2.2.2.1 (hC.1.2.2.2.2 _ q4_12) dX5_raise_86 ?_
                  refine W.lcmp hx hb dX5_raise_89 ?_
                  refine lv_if_le (tgt := 97) hx hb dX5_raise_90 (by decide) (fun c90 => ?_) (fun c90 => ?_)
                  · have c90 := (lg_cmp_le _ _).mp c90
                    refine lv_iconst (v := nI 0) hx hb dX5_raise_97 (by decide) ?_
                    refine lv_istore (lv' := [(5, .int (nI 0)), (4, .int (nI 1)), (7, .long (((gsP1 st (z * 4 + b)).toInt64) + v.toInt64)), (0, .ref h), (1, .int (nI 1)), (2, .int (nI b)), (3, .int v), (6, .int (nI z))]) hx hb dX5_raise_98 hl (by decide) rfl (fun ls hl => ?_)
                    refine lv_iinc (v := nI (z + 1)) (lv' := [(6, .int (nI (z + 1))), (5, .int (nI 0)), (4, .int (nI 1)), (7, .long (((gsP1 st (z * 4 + b)).toInt64) + v.toInt64)), (0, .ref h), (1, .int (nI 1)), (2, .int (nI b)), (3, .int v)]) hx hb dX5_raise_100 hl (k := 7) rfl (nI_inc _) (by decide) rfl (fun ls hl => ?_)
                    refine lv_goto (tgt := 33) hx hb dX5_raise_103 (by decide) ?_
                    exact ih33 (z + 1) true false (by omega) (by omega) (by show _ = (rB (fun i => decide (((gsP1 st) (i * 4 + b)).toInt64 + v.toInt64 < -20)) z || (fun i => decide (((gsP1 st) (i * 4 + b)).toInt64 + v.toInt64 < -20)) z); rw [← h1]; first | (rw [c60]; rfl) | (rw [c60]; show _ = (false || decide _); rw [decide_eq_true (Int64.not_le.mp c69)]; rfl) | (rw [c60]; show _ = (false || decide _); rw [decide_eq_false (Int64.not_lt.mpr c69)]; rfl)) (by show _ = (rB (fun i => decide (20 < ((gsP1 st) (i * 4 + b)).toInt64 + v.toInt64)) z || (fun i => decide (20 < ((gsP1 st) (i * 4 + b)).toInt64 + v.toInt64)) z); rw [← h2]; first | (rw [c81]; rfl) | (rw [c81]; show _ = (false || decide _); rw [decide_eq_true (Int64.not_le.mp c90)]; rfl) | (rw [c81]; show _ = (false || decide _); rw [decide_eq_false (Int64.not_lt.mpr c90)]; rfl)) _ _ hP hS ls (lv_sub hl [4, 5, 6, 7, 2, 1, 0] rfl)
                  · have c90 := mt (lg_cmp_le _ _).mpr c90
                    refine lv_iconst (v := nI 1) hx hb dX5_raise_93 (by decide) ?_
                    refine lv_goto (tgt := 98) hx hb dX5_raise_94 (by decide) ?_
                    refine lv_istore (lv' := [(5, .int (nI 1)), (4, .int (nI 1)), (7, .long (((gsP1 st (z * 4 + b)).toInt64) + v.toInt64)), (0, .ref h), (1, .int (nI 1)), (2, .int (nI b)), (3, .int v), (6, .int (nI z))]) hx hb dX5_raise_98 hl (by decide) rfl (fun ls hl => ?_)
                    refine lv_iinc (v := nI (z + 1)) (lv' := [(6, .int (nI (z + 1))), (5, .int (nI 1)), (4, .int (nI 1)), (7, .long (((gsP1 st (z * 4 + b)).toInt64) + v.toInt64)), (0, .ref h), (1, .int (nI 1)), (2, .int (nI b)), (3, .int v)]) hx hb dX5_raise_100 hl (k := 7) rfl (nI_inc _) (by decide) rfl (fun ls hl => ?_)
                    refine lv_goto (tgt := 33) hx hb dX5_raise_103 (by decide) ?_
                    exact ih33 (z + 1) true true (by omega) (by omega) (by show _ = (rB (fun i => decide (((gsP1 st) (i * 4 + b)).toInt64 + v.toInt64 < -20)) z || (fun i => decide (((gsP1 st) (i * 4 + b)).toInt64 + v.toInt64 < -20)) z); rw [← h1]; first | (rw [c60]; rfl) | (rw [c60]; show _ = (false || decide _); rw [decide_eq_true (Int64.not_le.mp c69)]; rfl) | (rw [c60]; show _ = (false || decide _); rw [decide_eq_false (Int64.not_lt.mpr c69)]; rfl)) (by show _ = (rB (fun i => decide (20 < ((gsP1 st) (i * 4 + b)).toInt64 + v.toInt64)) z || (fun i => decide (20 < ((gsP1 st) (i * 4 + b)).toInt64 + v.toInt64)) z); rw [← h2]; first | (rw [c81]; rfl) | (rw [c81]; show _ = (false || decide _); rw [decide_eq_true (Int64.not_le.mp c90)]; rfl) | (rw [c81]; show _ = (false || decide _); rw [decide_eq_false (Int64.not_lt.mpr c90)]; rfl)) _ _ hP hS ls (lv_sub hl [4, 5, 6, 7, 2, 1, 0] rfl)
              · have c60 := gb_f c60
                refine lv_lload hx hb dX5_raise_63 (lv_at hl 0 rfl) ?_
                refine lv_ldc2 (v := (-20 : Int64)) hx hb hC.1.2.2.2.1 (hC.1.2.2.2.2 _ q4_11) dX5_raise_65 ?_
                refine W.lcmp hx hb dX5_raise_68 ?_
                refine lv_if_ge (tgt := 76) hx hb dX5_raise_69 (by decide) (fun c69 => ?_) (fun c69 => ?_)
                · have c69 := (lg_cmp_ge _ _).mp c69
                  refine lv_iconst (v := nI 0) hx hb dX5_raise_76 (by decide) ?_
                  refine lv_istore (lv' := [(4, .int (nI 0)), (7, .long (((gsP1 st (z * 4 + b)).toInt64) + v.toInt64)), (0, .ref h), (1, .int (nI 1)), (2, .int (nI b)), (3, .int v), (5, .int (gb ab)), (6, .int (nI z))]) hx hb dX5_raise_77 hl (by decide) rfl (fun ls hl => ?_)
                  refine lv_iload hx hb dX5_raise_79 (lv_at hl 6 rfl) ?_
                  refine lv_if_ne (tgt := 93) hx hb dX5_raise_81 (by decide) (fun c81 => ?_) (fun c81 => ?_)
                  · have c81 := gb_t c81
                    refine lv_iconst (v := nI 1) hx hb dX5_raise_93 (by decide) ?_
                    refine lv_goto (tgt := 98) hx hb dX5_raise_94 (by decide) ?_
                    refine lv_istore (lv' := [(5, .int (nI 1)), (4, .int (nI 0)), (7, .long (((gsP1 st (z * 4 + b)).toInt64) + v.toInt64)), (0, .ref h), (1, .int (nI 1)), (2, .int (nI b)), (3, .int v), (6, .int (nI z))]) hx hb dX5_raise_98 hl (by decide) rfl (fun ls hl => ?_)
                    refine lv_iinc (v := nI (z + 1)) (lv' := [(6, .int (nI (z + 1))), (5, .int (nI 1)), (4, .int (nI 0)), (7, .long (((gsP1 st (z * 4 + b)).toInt64) + v.toInt64)), (0, .ref h), (1, .int (nI 1)), (2, .int (nI b)), (3, .int v)]) hx hb dX5_raise_100 hl (k := 7) rfl (nI_inc _) (by decide) rfl (fun ls hl => ?_)
                    refine lv_goto (tgt := 33) hx hb dX5_raise_103 (by decide) ?_
                    exact ih33 (z + 1) false true (by omega) (by omega) (by show _ = (rB (fun i => decide (((gsP1 st) (i * 4 + b)).toInt64 + v.toInt64 < -20)) z || (fun i => decide (((gsP1 st) (i * 4 + b)).toInt64 + v.toInt64 < -20)) z); rw [← h1]; first | (rw [c60]; rfl) | (rw [c60]; show _ = (false || decide _); rw [decide_eq_true (Int64.not_le.mp c69)]; rfl) | (rw [c60]; show _ = (false || decide _); rw [decide_eq_false (Int64.not_lt.mpr c69)]; rfl)) (by show _ = (rB (fun i => decide (20 < ((gsP1 st) (i * 4 + b)).toInt64 + v.toInt64)) z || (fun i => decide (20 < ((gsP1 st) (i * 4 + b)).toInt64 + v.toInt64)) z); rw [← h2]; first | (rw [c81]; rfl) | (rw [c81]; show _ = (false || decide _); rw [decide_eq_true (Int64.not_le.mp c90)]; rfl) | (rw [c81]; show _ = (false || decide _); rw [decide_eq_false (Int64.not_lt.mpr c90)]; rfl)) _ _ hP hS ls (lv_sub hl [4, 5, 6, 7, 2, 1, 0] rfl)
                  · have c81 := gb_f c81
                    refine lv_lload hx hb dX5_raise_84 (lv_at hl 1 rfl) ?_
                    refine lv_ldc2 (v := (20 : Int64)) hx hb hC.1.2.2.2.1 (hC.1.2.2.2.2 _ q4_12) dX5_raise_86 ?_
                    refine W.lcmp hx hb dX5_raise_89 ?_
                    refine lv_if_le (tgt := 97) hx hb dX5_raise_90 (by decide) (fun c90 => ?_) (fun c90 => ?_)
                    · have c90 := (lg_cmp_le _ _).mp c90
                      refine lv_iconst (v := nI 0) hx hb dX5_raise_97 (by decide) ?_
                      refine lv_istore (lv' := [(5, .int (nI 0)), (4, .int (nI 0)), (7, .long (((gsP1 st (z * 4 + b)).toInt64) + v.toInt64)), (0, .ref h), (1, .int (nI 1)), (2, .int (nI b)), (3, .int v), (6, .int (nI z))]) hx hb dX5_raise_98 hl (by decide) rfl (fun ls hl => ?_)
                      refine lv_iinc (v := nI (z + 1)) (lv' := [(6, .int (nI (z + 1))), (5, .int (nI 0)), (4, .int (nI 0)), (7, .long (((gsP1 st (z * 4 + b)).toInt64) + v.toInt64)), (0, .ref h), (1, .int (nI 1)), (2, .int (nI b)), (3, .int v)]) hx hb dX5_raise_100 hl (k := 7) rfl (nI_inc _) (by decide) rfl (fun ls hl => ?_)
                      refine lv_goto (tgt := 33) hx hb dX5_raise_103 (by decide) ?_
                      exact ih33 (z + 1) false false (by omega) (by omega) (by show _ = (rB (fun i => decide (((gsP1 st) (i * 4 + b)).toInt64 + v.toInt64 < -20)) z || (fun i => decide (((gsP1 st) (i * 4 + b)).toInt64 + v.toInt64 < -20)) z); rw [← h1]; first | (rw [c60]; rfl) | (rw [c60]; show _ = (false || decide _); rw [decide_eq_true (Int64.not_le.mp c69)]; rfl) | (rw [c60]; show _ = (false || decide _); rw [decide_eq_false (Int64.not_lt.mpr c69)]; rfl)) (by show _ = (rB (fun i => decide (20 < ((gsP1 st) (i * 4 + b)).toInt64 + v.toInt64)) z || (fun i => decide (20 < ((gsP1 st) (i * 4 + b)).toInt64 + v.toInt64)) z); rw [← h2]; first | (rw [c81]; rfl) | (rw [c81]; show _ = (false || decide _); rw [decide_eq_true (Int64.not_le.mp c90)]; rfl) | (rw [c81]; show _ = (false || decide _); rw [decide_eq_false (Int64.not_lt.mpr c90)]; rfl)) _ _ hP hS ls (lv_sub hl [4, 5, 6, 7, 2, 1, 0] rfl)
                    · have c90 := mt (lg_cmp_le _ _).mpr c90
                      refine lv_iconst (v := nI 1) hx hb dX5_raise_93 (by decide) ?_
                      refine lv_goto (tgt := 98) hx hb dX5_raise_94 (by decide) ?_
                      refine lv_istore (lv' := [(5, .int (nI 1)), (4, .int (nI 0)), (7, .long (((gsP1 st (z * 4 + b)).toInt64) + v.toInt64)), (0, .ref h), (1, .int (nI 1)), (2, .int (nI b)), (3, .int v), (6, .int (nI z))]) hx hb dX5_raise_98 hl (by decide) rfl (fun ls hl => ?_)
                      refine lv_iinc (v := nI (z + 1)) (lv' := [(6, .int (nI (z + 1))), (5, .int (nI 1)), (4, .int (nI 0)), (7, .long (((gsP1 st (z * 4 + b)).toInt64) + v.toInt64)), (0, .ref h), (1, .int (nI 1)), (2, .int (nI b)), (3, .int v)]) hx hb dX5_raise_100 hl (k := 7) rfl (nI_inc _) (by decide) rfl (fun ls hl => ?_)
                      refine lv_goto (tgt := 33) hx hb dX5_raise_103 (by decide) ?_
                      exact ih33 (z + 1) false true (by omega) (by omega) (by show _ = (rB (fun i => decide (((gsP1 st) (i * 4 + b)).toInt64 + v.toInt64 < -20)) z || (fun i => decide (((gsP1 st) (i * 4 + b)).toInt64 + v.toInt64 < -20)) z); rw [← h1]; first | (rw [c60]; rfl) | (rw [c60]; show _ = (false || decide _); rw [decide_eq_true (Int64.not_le.mp c69)]; rfl) | (rw [c60]; show _ = (false || decide _); rw [decide_eq_false (Int64.not_lt.mpr c69)]; rfl)) (by show _ = (rB (fun i => decide (20 < ((gsP1 st) (i * 4 + b)).toInt64 + v.toInt64)) z || (fun i => decide (20 < ((gsP1 st) (i * 4 + b)).toInt64 + v.toInt64)) z); rw [← h2]; first | (rw [c81]; rfl) | (rw [c81]; show _ = (false || decide _); rw [decide_eq_true (Int64.not_le.mp c90)]; rfl) | (rw [c81]; show _ = (false || decide _); rw [decide_eq_false (Int64.not_lt.mpr c90)]; rfl)) _ _ hP hS ls (lv_sub hl [4, 5, 6, 7, 2, 1, 0] rfl)
                · have c69 := mt (lg_cmp_ge _ _).mpr c69
                  refine lv_iconst (v := nI 1) hx hb dX5_raise_72 (by decide) ?_
                  refine lv_goto (tgt := 77) hx hb dX5_raise_73 (by decide) ?_
                  refine lv_istore (lv' := [(4, .int (nI 1)), (7, .long (((gsP1 st (z * 4 + b)).toInt64) + v.toInt64)), (0, .ref h), (1, .int (nI 1)), (2, .int (nI b)), (3, .int v), (5, .int (gb ab)), (6, .int (nI z))]) hx hb dX5_raise_77 hl (by decide) rfl (fun ls hl => ?_)
                  refine lv_iload hx hb dX5_raise_79 (lv_at hl 6 rfl) ?_
                  refine lv_if_ne (tgt := 93) hx hb dX5_raise_81 (by decide) (fun c81 => ?_) (fun c81 => ?_)
                  · have c81 := gb_t c81
                    refine lv_iconst (v := nI 1) hx hb dX5_raise_93 (by decide) ?_
                    refine lv_goto (tgt := 98) hx hb dX5_raise_94 (by decide) ?_
                    refine lv_istore (lv' := [(5, .int (nI 1)), (4, .int (nI 1)), (7, .long (((gsP1 st (z * 4 + b)).toInt64) + v.toInt64)), (0, .ref h), (1, .int (nI 1)), (2, .int (nI b)), (3, .int v), (6, .int (nI z))]) hx hb dX5_raise_98 hl (by decide) rfl (fun ls hl => ?_)
                    refine lv_iinc (v := nI (z + 1)) (lv' := [(6, .int (nI (z + 1))), (5, .int (nI 1)), (4, .int (nI 1)), (7, .long (((gsP1 st (z * 4 + b)).toInt64) + v.toInt64)), (0, .ref h), (1, .int (nI 1)), (2, .int (nI b)), (3, .int v)]) hx hb dX5_raise_100 hl (k := 7) rfl (nI_inc _) (by decide) rfl (fun ls hl => ?_)
                    refine lv_goto (tgt := 33) hx hb dX5_raise_103 (by decide) ?_
                    exact ih33 (z + 1) true true (by omega) (by omega) (by show _ = (rB (fun i => decide (((gsP1 st) (i * 4 + b)).toInt64 + v.toInt64 < -20)) z || (fun i => decide (((gsP1 st) (i * 4 + b)).toInt64 + v.toInt64 < -20)) z); rw [← h1]; first | (rw [c60]; rfl) | (rw [c60]; show _ = (false || decide _); rw [decide_eq_true (Int64.not_le.mp c69)]; rfl) | (rw [c60]; show _ = (false || decide _); rw [decide_eq_false (Int64.not_lt.mpr c69)]; rfl)) (by show _ = (rB (fun i => decide (20 < ((gsP1 st) (i * 4 + b)).toInt64 + v.toInt64)) z || (fun i => decide (20 < ((gsP1 st) (i * 4 + b)).toInt64 + v.toInt64)) z); rw [← h2]; first | (rw [c81]; rfl) | (rw [c81]; show _ = (false || decide _); rw [decide_eq_true (Int64.not_le.mp c90)]; rfl) | (rw [c81]; show _ = (false || decide _); rw [decide_eq_false (Int64.not_lt.mpr c90)]; rfl)) _ _ hP hS ls (lv_sub hl [4, 5, 6, 7, 2, 1, 0] rfl)
                  · have c81 := gb_f c81
                    refine lv_lload hx hb dX5_raise_84 (lv_at hl 1 rfl) ?_
                    refine lv_ldc2 (v := (20 : Int64)) hx hb hC.1.2.2.2.1 (hC.1.2.2.2.2 _ q4_12) dX5_raise_86 ?_
                    refine W.lcmp hx hb dX5_raise_89 ?_
                    refine lv_if_le (tgt := 97) hx hb dX5_raise_90 (by decide) (fun c90 => ?_) (fun c90 => ?_)
                    · have c90 := (lg_cmp_le _ _).mp c90
                      refine lv_iconst (v := nI 0) hx hb dX5_raise_97 (by decide) ?_
                      refine lv_istore (lv' := [(5, .int (nI 0)), (4, .int (nI 1)), (7, .long (((gsP1 st (z * 4 + b)).toInt64) + v.toInt64)), (0, .ref h), (1, .int (nI 1)), (2, .int (nI b)), (3, .int v), (6, .int (nI z))]) hx hb dX5_raise_98 hl (by decide) rfl (fun ls hl => ?_)
                      refine lv_iinc (v := nI (z + 1)) (lv' := [(6, .int (nI (z + 1))), (5, .int (nI 0)), (4, .int (nI 1)), (7, .long (((gsP1 st (z * 4 + b)).toInt64) + v.toInt64)), (0, .ref h), (1, .int (nI 1)), (2, .int (nI b)), (3, .int v)]) hx hb dX5_raise_100 hl (k := 7) rfl (nI_inc _) (by decide) rfl (fun ls hl => ?_)
                      refine lv_goto (tgt := 33) hx hb dX5_raise_103 (by decide) ?_
                      exact ih33 (z + 1) true false (by omega) (by omega) (by show _ = (rB (fun i => decide (((gsP1 st) (i * 4 + b)).toInt64 + v.toInt64 < -20)) z || (fun i => decide (((gsP1 st) (i * 4 + b)).toInt64 + v.toInt64 < -20)) z); rw [← h1]; first | (rw [c60]; rfl) | (rw [c60]; show _ = (false || decide _); rw [decide_eq_true (Int64.not_le.mp c69)]; rfl) | (rw [c60]; show _ = (false || decide _); rw [decide_eq_false (Int64.not_lt.mpr c69)]; rfl)) (by show _ = (rB (fun i => decide (20 < ((gsP1 st) (i * 4 + b)).toInt64 + v.toInt64)) z || (fun i => decide (20 < ((gsP1 st) (i * 4 + b)).toInt64 + v.toInt64)) z); rw [← h2]; first | (rw [c81]; rfl) | (rw [c81]; show _ = (false || decide _); rw [decide_eq_true (Int64.not_le.mp c90)]; rfl) | (rw [c81]; show _ = (false || decide _); rw [decide_eq_false (Int64.not_lt.mpr c90)]; rfl)) _ _ hP hS ls (lv_sub hl [4, 5, 6, 7, 2, 1, 0] rfl)
                    · have c90 := mt (lg_cmp_le _ _).mpr c90
                      refine lv_iconst (v := nI 1) hx hb dX5_raise_93 (by decide) ?_
                      refine lv_goto (tgt := 98) hx hb dX5_raise_94 (by decide) ?_
                      refine lv_istore (lv' := [(5, .int (nI 1)), (4, .int (nI 1)), (7, .long (((gsP1 st (z * 4 + b)).toInt64) + v.toInt64)), (0, .ref h), (1, .int (nI 1)), (2, .int (nI b)), (3, .int v), (6, .int (nI z))]) hx hb dX5_raise_98 hl (by decide) rfl (fun ls hl => ?_)
                      refine lv_iinc (v := nI (z + 1)) (lv' := [(6, .int (nI (z + 1))), (5, .int (nI 1)), (4, .int (nI 1)), (7, .long (((gsP1 st (z * 4 + b)).toInt64) + v.toInt64)), (0, .ref h), (1, .int (nI 1)), (2, .int (nI b)), (3, .int v)]) hx hb dX5_raise_100 hl (k := 7) rfl (nI_inc _) (by decide) rfl (fun ls hl => ?_)
                      refine lv_goto (tgt := 33) hx hb dX5_raise_103 (by decide) ?_
                      exact ih33 (z + 1) true true (by omega) (by omega) (by show _ = (rB (fun i => decide (((gsP1 st) (i * 4 + b)).toInt64 + v.toInt64 < -20)) z || (fun i => decide (((gsP1 st) (i * 4 + b)).toInt64 + v.toInt64 < -20)) z); rw [← h1]; first | (rw [c60]; rfl) | (rw [c60]; show _ = (false || decide _); rw [decide_eq_true (Int64.not_le.mp c69)]; rfl) | (rw [c60]; show _ = (false || decide _); rw [decide_eq_false (Int64.not_lt.mpr c69)]; rfl)) (by show _ = (rB (fun i => decide (20 < ((gsP1 st) (i * 4 + b)).toInt64 + v.toInt64)) z || (fun i => decide (20 < ((gsP1 st) (i * 4 + b)).toInt64 + v.toInt64)) z); rw [← h2]; first | (rw [c81]; rfl) | (rw [c81]; show _ = (false || decide _); rw [decide_eq_true (Int64.not_le.mp c90)]; rfl) | (rw [c81]; show _ = (false || decide _); rw [decide_eq_false (Int64.not_lt.mpr c90)]; rfl)) _ _ hP hS ls (lv_sub hl [4, 5, 6, 7, 2, 1, 0] rfl)
        exact L33 5 0 false false (by omega) (by omega) rfl rfl _ _ hP hS ls (lv_sub hl [3, 4, 5, 6, 2, 1, 0] rfl)
      · have c15 := gb_f c15
        refine lv_aload_n hx hb dX5_raise_18 rfl (lv_at hl 0 rfl) ?_
        refine lv_iconst (v := (-1)) hx hb dX5_raise_19 (by decide) ?_
        refine g_cc (g_rV (As := [.int (-1 : Int32)]) hC hP (c_X5_refuse l hP (h := h) (q := (-1 : Int32)) (j := 1) (by first | assumption | omega) (by decide) (by omega)) hm.1 rfl ⟨q3_71, q3_68, q3_70, qs_25, q1_6⟩ dd_X5_refuse ⟨Nat.le_of_ble_eq_true rfl, Nat.le_of_ble_eq_true rfl, rfl, rfl⟩ hl.1 rfl (Nat.le_of_ble_eq_true rfl) dX5_raise_20 ⟨Nat.le_of_ble_eq_true rfl, Nat.le_of_ble_eq_true rfl⟩) hS (fun q h => h.elim (hTA q) (fun z => hA q (Nat.le_trans hS.1 z))) (fun r55 H51 locs52 hq56 hS hz53 hfr54 => ?_)
        obtain ⟨rfl, hP⟩ := hq56
        obtain ⟨I57, hI57, hP⟩ : ∃ I57 : gI, I57 = au I (h + 4) 1 (I (h + 4) 1 + 1) ∧ gP G T I57 J Q O H51 := ⟨_, rfl, hP⟩
        refine W.eq (g2 := F0 m 23 ls [.int (-1 : Int32)]) rfl ?_
        refine g_retci hC hS ?_ dX5_raise_23
        exact Or.inl ⟨Or.inr (Or.inr ⟨rfl, c15⟩), rfl, mo_ref hm hs0 (j := 1) (by decide) hI57 hP⟩
