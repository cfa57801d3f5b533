/-! ===== the reference: game, pay, paid, weight ===== -/
def moR (G : gG) (T : gTy) (h : Nat) (s : GS) (H1 : Heap) : Prop := ∃ (I2 : gI) (J2 : gJ) (Q2 : gR) (O2 : gO), gP G T I2 J2 Q2 O2 H1 ∧ isMo T O2 h ∧ moS I2 h s
theorem mo_same {G : gG} {T : gTy} {I : gI} {J : gJ} {Q : gR} {O : gO} {H1 : Heap} {h : Nat} {st : GS} (hm : isMo T O h) (hs : moS I h st) (hP : gP G T I J Q O H1) : moR G T h st H1 := ⟨I, J, Q, O, hP, hm, hs⟩
theorem mo_ref {G : gG} {T : gTy} {I I2 : gI} {J : gJ} {Q : gR} {O : gO} {H1 : Heap} {h j : Nat} {st : GS} (hm : isMo T O h) (hs : moS I h st) (hj : j < 7) (hI : I2 = au I (h + 4) j (I (h + 4) j + 1)) (hP : gP G T I2 J Q O H1) : moR G T h (gsRef st j) H1 := by
  obtain ⟨a1, a2, a3, a4, a5, a6, a7, a8, a9⟩ := hs
  have e : ∀ q, q ≠ h + 4 → I2 q = I q := fun q hq => by rw [hI, au_ne _ _ _ hq]
  refine ⟨I2, J, Q, O, hP, hm, a1, a2, by rw [e _ (by omega)]; exact a3, by rw [e _ (by omega)]; exact a4, by rw [e _ (by omega)]; exact a5, by rw [e _ (by omega)]; exact a6, by rw [e _ (by omega)]; exact a7, by rw [e _ (by omega)]; exact a8, fun q hq => ?_⟩
  rw [hI, au_row, a9 j hj]
  show gu (I (h + 4)) j _ q = gu (gsrf st) j _ q
  unfold gu
  split
  · rfl
  · exact a9 q hq
theorem mo_pay0 {G : gG} {T : gTy} {I I2 : gI} {J : gJ} {Q : gR} {O : gO} {H1 : Heap} {h a b x : Nat} {v : Int32} {st : GS} (hm : isMo T O h) (hs : moS I h st) (ha : a < 4) (hb : b < 4) (hx : x = 4 * a + b) (hI : I2 = au I (h + 2) x v) (hP : gP G T I2 J Q O H1) : moR G T h (gsSetP st (gu (gsP0 st) (a * 4 + b) v) (gsP1 st)) H1 := by
  obtain ⟨a1, a2, a3, a4, a5, a6, a7, a8, a9⟩ := hs
  have e : ∀ q, q ≠ h + 2 → I2 q = I q := fun q hq => by rw [hI, au_ne _ _ _ hq]
  refine ⟨I2, J, Q, O, hP, hm, a1, a2, by rw [e _ (by omega)]; exact a3, by rw [e _ (by omega)]; exact a4, fun i k hi hk => ?_, fun i k hi hk => ?_, by rw [e _ (by omega)]; exact a7, by rw [e _ (by omega)]; exact a8, by rw [e _ (by omega)]; exact a9⟩
  · rw [hI, au_row]
    show gu (I (h + 2)) x v (4 * i + k) = gu (gsP0 st) (a * 4 + b) v (i * 4 + k)
    unfold gu
    by_cases c : 4 * i + k = x
    · rw [if_pos c, if_pos (by omega)]
    · rw [if_neg c, if_neg (by omega)]; exact a5 i k hi hk
  · rw [hI, au_row, gu_ne _ _ (by omega)]; exact a6 i k hi hk
theorem mo_pay1 {G : gG} {T : gTy} {I I2 : gI} {J : gJ} {Q : gR} {O : gO} {H1 : Heap} {h a b x : Nat} {v : Int32} {st : GS} (hm : isMo T O h) (hs : moS I h st) (ha : a < 4) (hb : b < 4) (hx : x = 16 + 4 * a + b) (hI : I2 = au I (h + 2) x v) (hP : gP G T I2 J Q O H1) : moR G T h (gsSetP st (gsP0 st) (gu (gsP1 st) (b * 4 + a) v)) H1 := by
  obtain ⟨a1, a2, a3, a4, a5, a6, a7, a8, a9⟩ := hs
  have e : ∀ q, q ≠ h + 2 → I2 q = I q := fun q hq => by rw [hI, au_ne _ _ _ hq]
  refine ⟨I2, J, Q, O, hP, hm, a1, a2, by rw [e _ (by omega)]; exact a3, by rw [e _ (by omega)]; exact a4, fun i k hi hk => ?_, fun i k hi hk => ?_, by rw [e _ (by omega)]; exact a7, by rw [e _ (by omega)]; exact a8, by rw [e _ (by omega)]; exact a9⟩
  · rw [hI, au_row, gu_ne _ _ (by omega)]; exact a5 i k hi hk
  · rw [hI, au_row]
    show gu (I (h + 2)) x v (16 + 4 * i + k) = gu (gsP1 st) (b * 4 + a) v (k * 4 + i)
    unfold gu
    by_cases c : 16 + 4 * i + k = x
    · rw [if_pos c, if_pos (by omega)]
    · rw [if_neg c, if_neg (by omega)]; exact a6 i k hi hk
theorem mo_w0 {G : gG} {T : gTy} {I I2 : gI} {J : gJ} {Q : gR} {O : gO} {H1 : Heap} {h b x : Nat} {v : Int32} {st : GS} (hm : isMo T O h) (hs : moS I h st) (hb : b < 4) (hx : x = b) (hI : I2 = au I (h + 3) x v) (hP : gP G T I2 J Q O H1) : moR G T h (gsSetW st (gu (gsw0 st) b v) (gsw1 st)) H1 := by
  obtain ⟨a1, a2, a3, a4, a5, a6, a7, a8, a9⟩ := hs
  have e : ∀ q, q ≠ h + 3 → I2 q = I q := fun q hq => by rw [hI, au_ne _ _ _ hq]
  refine ⟨I2, J, Q, O, hP, hm, a1, a2, by rw [e _ (by omega)]; exact a3, by rw [e _ (by omega)]; exact a4, by rw [e _ (by omega)]; exact a5, by rw [e _ (by omega)]; exact a6, fun j hj => ?_, fun j hj => ?_, by rw [e _ (by omega)]; exact a9⟩
  · rw [hI, au_row, hx]
    show gu (I (h + 3)) b v j = gu (gsw0 st) b v j
    unfold gu
    split
    · rfl
    · exact a7 j hj
  · rw [hI, au_row, gu_ne _ _ (by omega)]; exact a8 j hj
theorem mo_w1 {G : gG} {T : gTy} {I I2 : gI} {J : gJ} {Q : gR} {O : gO} {H1 : Heap} {h b x : Nat} {v : Int32} {st : GS} (hm : isMo T O h) (hs : moS I h st) (hb : b < 4) (hx : x = 4 + b) (hI : I2 = au I (h + 3) x v) (hP : gP G T I2 J Q O H1) : moR G T h (gsSetW st (gsw0 st) (gu (gsw1 st) b v)) H1 := by
  obtain ⟨a1, a2, a3, a4, a5, a6, a7, a8, a9⟩ := hs
  have e : ∀ q, q ≠ h + 3 → I2 q = I q := fun q hq => by rw [hI, au_ne _ _ _ hq]
  refine ⟨I2, J, Q, O, hP, hm, a1, a2, by rw [e _ (by omega)]; exact a3, by rw [e _ (by omega)]; exact a4, by rw [e _ (by omega)]; exact a5, by rw [e _ (by omega)]; exact a6, fun j hj => ?_, fun j hj => ?_, by rw [e _ (by omega)]; exact a9⟩
  · rw [hI, au_row, gu_ne _ _ (by omega)]; exact a7 j hj
  · rw [hI, au_row, hx]
    show gu (I (h + 3)) (4 + b) v (4 + j) = gu (gsw1 st) b v j
    unfold gu
    by_cases c : j = b
    · rw [if_pos (by omega), if_pos c]
    · rw [if_neg (by omega), if_neg c]; exact a8 j hj
theorem mo_game {G : gG} {T : gTy} {I I2 : gI} {J : gJ} {Q : gR} {O : gO} {H1 : Heap} {h i k : Nat} {st : GS} (hm : isMo T O h) (hs : moS I h st) (hi : 1 ≤ i ∧ i ≤ 4) (hk : 1 ≤ k ∧ k ≤ 4) (hI : I2 = gu (au (au I (h + 1) 0 (nI i)) (h + 1) 1 (nI k)) (h + 2) (z16 (I (h + 2)) 32)) (hP : gP G T I2 J Q O H1) : moR G T h (i, k, z16 (gsP0 st) 16, z16 (gsP1 st) 16, gsw0 st, gsw1 st, gsrf st) H1 := by
  obtain ⟨a1, a2, a3, a4, a5, a6, a7, a8, a9⟩ := hs
  have e : ∀ q, q ≠ h + 1 → q ≠ h + 2 → I2 q = I q := fun q h1 h2 => by rw [hI, gu_ne _ _ h2, au_ne _ _ _ h1, au_ne _ _ _ h1]
  have e2 : I2 (h + 2) = z16 (I (h + 2)) 32 := by rw [hI, gu_eq]
  refine ⟨I2, J, Q, O, hP, hm, hi, hk, ?_, ?_, fun i k hi hk => ?_, fun i k hi hk => ?_, by rw [e _ (by omega) (by omega)]; exact a7, by rw [e _ (by omega) (by omega)]; exact a8, by rw [e _ (by omega) (by omega)]; exact a9⟩
  · rw [hI, gu_ne _ _ (by omega), au_row, gu_ne _ _ (by decide), au_row, gu_eq]
  · rw [hI, gu_ne _ _ (by omega), au_row, gu_eq]
  · rw [e2]
    show (if _ then _ else _) = (if _ then _ else _)
    rw [if_pos (by omega), if_pos (by omega)]
  · rw [e2]
    show (if _ then _ else _) = (if _ then _ else _)
    rw [if_pos (by omega), if_pos (by omega)]
set_option maxHeartbeats 4000000 in
set_option maxRecDepth 100000 in
theorem c_X5_game (l : Launch) {G : gG} {T : gTy} {I : gI} {J : gJ} {Q : gR} {O : gO} {H : Heap} (hP : gP G T I J Q O H) {h : Nat} {st : GS} {a b2 : Int32} (hm : isMo T O h) (hs0 : moS I h st) : Met l yX5_game (gw yX5_game cX5_game 4 (some (.int))) ({ frames := 1, cells := 0, slots := 0, locals := 21 } : Room) (gPc G H [.ref h, .int a, .int b2]) (gQc (gF T H) (fun x H1 => rGame st (fun x1 s1 => x = some (.int x1) ∧ moR G T h s1 H1) a b2)) 0 0 (gF T H) := by
  refine g_met [(0, .ref h), (1, .int a), (2, .int b2)] (by decide) rfl (by exact Nat.le_of_ble_eq_true rfl) ?_
  intro p e s m below meth c hC hs ls hl
  have hx := hC.1.1
  have hb := hC.1.2.1
  have hS : va_S (gF T H) s.heap H [] := hs ▸ va_S.rf
  have hTA : ∀ q, (T q).1 ≠ 0 → gF T H q := fun q h => Or.inl h
  have hA : ∀ q, s.heap.size ≤ q → gF T H q := fun q h => Or.inr (hs ▸ h)
  generalize hAe : gF T H = A at hS hTA hA ⊢
  have hms := hs0.1
  have hns := hs0.2.1
  refine lv_iload_n hx hb dX5_game_0 rfl (lv_at hl 1 rfl) ?_
  refine lv_iconst (v := nI 1) hx hb dX5_game_1 (by decide) ?_
  refine lv_icmp_lt (tgt := 10) hx hb dX5_game_2 (by decide) (fun c2 => ?_) (fun c2 => ?_)
  · refine lv_aload_n hx hb dX5_game_10 rfl (lv_at hl 0 rfl) ?_
    refine lv_bipush (v := (-4)) hx hb dX5_game_11 (by decide) ?_
    refine g_cc (g_rV (As := [.int (-4 : Int32)]) hC hP (c_X5_refuse l hP (h := h) (q := (-4 : Int32)) (j := 4) (by first | assumption | omega) (by decide) (by omega)) hm.1 rfl ⟨q3_71, q3_68, q3_70, qs_25, q1_6⟩ dd_X5_refuse ⟨Nat.le_of_ble_eq_true rfl, Nat.le_of_ble_eq_true rfl, rfl, rfl⟩ hl.1 rfl (Nat.le_of_ble_eq_true rfl) dX5_game_13 ⟨Nat.le_of_ble_eq_true rfl, Nat.le_of_ble_eq_true rfl⟩) hS (fun q h => h.elim (hTA q) (fun z => hA q (Nat.le_trans hS.1 z))) (fun r5 H1 locs2 hq6 hS hz3 hfr4 => ?_)
    obtain ⟨rfl, hP⟩ := hq6
    obtain ⟨I7, hI7, hP⟩ : ∃ I7 : gI, I7 = au I (h + 4) 4 (I (h + 4) 4 + 1) ∧ gP G T I7 J Q O H1 := ⟨_, rfl, hP⟩
    refine W.eq (g2 := F0 m 16 ls [.int (-4 : Int32)]) rfl ?_
    refine g_retci hC hS ?_ dX5_game_16
    refine Or.inl ⟨?_, rfl, mo_ref hm hs0 (j := 4) (by decide) hI7 hP⟩
    first | exact Or.inl c2 | exact Or.inr (Int32.not_le.mp c7)
  · refine lv_iload_n hx hb dX5_game_5 rfl (lv_at hl 2 rfl) ?_
    refine lv_iconst (v := nI 1) hx hb dX5_game_6 (by decide) ?_
    refine lv_icmp_ge (tgt := 17) hx hb dX5_game_7 (by decide) (fun c7 => ?_) (fun c7 => ?_)
    · refine lv_iload_n hx hb dX5_game_17 rfl (lv_at hl 1 rfl) ?_
      refine lv_iconst (v := nI 4) hx hb dX5_game_18 (by decide) ?_
      refine lv_icmp_gt (tgt := 27) hx hb dX5_game_19 (by decide) (fun c19 => ?_) (fun c19 => ?_)
      · refine lv_aload_n hx hb dX5_game_27 rfl (lv_at hl 0 rfl) ?_
        refine lv_bipush (v := (-6)) hx hb dX5_game_28 (by decide) ?_
        refine g_cc (g_rV (As := [.int (-6 : Int32)]) hC hP (c_X5_refuse l hP (h := h) (q := (-6 : Int32)) (j := 6) (by first | assumption | omega) (by decide) (by omega)) hm.1 rfl ⟨q3_71, q3_68, q3_70, qs_25, q1_6⟩ dd_X5_refuse ⟨Nat.le_of_ble_eq_true rfl, Nat.le_of_ble_eq_true rfl, rfl, rfl⟩ hl.1 rfl (Nat.le_of_ble_eq_true rfl) dX5_game_30 ⟨Nat.le_of_ble_eq_true rfl, Nat.le_of_ble_eq_true rfl⟩) hS (fun q h => h.elim (hTA q) (fun z => hA q (Nat.le_trans hS.1 z))) (fun r12 H8 locs9 hq13 hS hz10 hfr11 => ?_)
        obtain ⟨rfl, hP⟩ := hq13
        obtain ⟨I14, hI14, hP⟩ : ∃ I14 : gI, I14 = au I (h + 4) 6 (I (h + 4) 6 + 1) ∧ gP G T I14 J Q O H8 := ⟨_, rfl, hP⟩
        refine W.eq (g2 := F0 m 33 ls [.int (-6 : Int32)]) rfl ?_
        refine g_retci hC hS ?_ dX5_game_33
        refine Or.inr (Or.inl ⟨?_, ?_, rfl, mo_ref hm hs0 (j := 6) (by decide) hI14 hP⟩)
        · rintro (h | h)
          · exact c2 h
          · exact Int32.not_lt.mpr c7 h
        · first | exact Or.inl c19 | exact Or.inr (Int32.not_le.mp c24)
      · refine lv_iload_n hx hb dX5_game_22 rfl (lv_at hl 2 rfl) ?_
        refine lv_iconst (v := nI 4) hx hb dX5_game_23 (by decide) ?_
        refine lv_icmp_le (tgt := 34) hx hb dX5_game_24 (by decide) (fun c24 => ?_) (fun c24 => ?_)
        · have k2 : ¬ nI 4 < b2 := Int32.not_lt.mpr c24
          obtain ⟨i, hi1, hi4, ea⟩ := g14 c2 c19
          obtain ⟨k, hk1, hk4, eb⟩ := g14 (Int32.not_lt.mpr c7) k2
          refine lv_aload_n hx hb dX5_game_34 rfl (lv_at hl 0 rfl) ?_
          refine g_get hC hP hm.1 rfl inX5 0 (by decide) q3_6 hm.2.1.1 dX5_game_35 ?_
          refine lv_iconst (v := nI 0) hx hb dX5_game_38 (by decide) ?_
          refine lv_iload_n hx hb dX5_game_39 rfl (lv_at hl 1 rfl) ?_
          refine g_iast hC hP hS hTA hm.2.1.2 (vp_in_nI (by omega) (by decide)) dX5_game_40 (fun H15 locs16 hP hS hz18 => ?_)
          rw [show (nI 0).toNatClampNeg = 0 from nI_clamp (by omega)] at hP
          obtain ⟨I17, hI17, hP⟩ : ∃ X : gI, X = au I (h + 1) 0 a ∧ gP G T X J Q O H15 := ⟨_, rfl, hP⟩
          refine lv_aload_n hx hb dX5_game_41 rfl (lv_at hl 0 rfl) ?_
          refine g_get hC hP hm.1 rfl inX5 0 (by decide) q3_6 hm.2.1.1 dX5_game_42 ?_
          refine lv_iconst (v := nI 1) hx hb dX5_game_45 (by decide) ?_
          refine lv_iload_n hx hb dX5_game_46 rfl (lv_at hl 2 rfl) ?_
          refine g_iast hC hP hS hTA hm.2.1.2 (vp_in_nI (by omega) (by decide)) dX5_game_47 (fun H19 locs20 hP hS hz22 => ?_)
          rw [show (nI 1).toNatClampNeg = 1 from nI_clamp (by omega)] at hP
          obtain ⟨I21, hI21, hP⟩ : ∃ X : gI, X = au I17 (h + 1) 1 b2 ∧ gP G T X J Q O H19 := ⟨_, rfl, hP⟩
          refine lv_iconst (v := nI 0) hx hb dX5_game_48 (by decide) ?_
          refine lv_istore_n (lv' := [(3, .int (nI 0)), (0, .ref h), (1, .int a), (2, .int b2)]) hx hb dX5_game_49 rfl hl (by decide) rfl (fun ls hl => ?_)
          have L50 : ∀ (n50 : Nat) (z : Nat) (I9 : gI), 33 ≤ n50 + z → (z ≤ 32) → (I9 = gu (au (au I (h + 1) 0 a) (h + 1) 1 b2) (h + 2) (z16 (I (h + 2)) z)) → ∀ (Hl : Heap) (lcl : List Loc), gP G T I9 J Q O Hl → va_S A s.heap Hl lcl → ∀ ls : Array Slot, lv_has ls 4 [(0, .ref h), (1, .int a), (2, .int b2), (3, .int (nI z))] → W p l e ({ frames := 1, cells := 0, slots := 0, locals := 21 } : Room) s m [.ref h, .int a, .int b2].toArray below meth c Hl lcl 0 0 (MQ below (gQc A (fun x H1 => rGame st (fun x1 s1 => x = some (.int x1) ∧ moR G T h s1 H1) a b2)) [.ref h, .int a, .int b2].toArray s 0 0 A) (F0 m 50 ls []) := by
            intro n50
            induction n50 with
            | zero => intro z I9 hn50 hz h1; exact absurd hn50 (by omega)
            | succ n50 ih50 =>
              intro z I9 hn50 hz h1 Hl lcl hP hS ls hl
              refine lv_iload_n hx hb dX5_game_50 rfl (lv_at hl 3 rfl) ?_
              refine lv_bipush (v := nI 32) hx hb dX5_game_51 (by decide) ?_
              refine lv_icmp_ge (tgt := 69) hx hb dX5_game_53 (by decide) (fun c53 => ?_) (fun c53 => ?_)
              · have c53 := (nI_leI (by omega) (by omega)).mp c53
                refine lv_iconst (v := nI 1) hx hb dX5_game_69 (by decide) ?_
                refine g_retci hC hS ?_ dX5_game_70
                refine Or.inr (Or.inr ⟨i, k, ⟨hi1, hi4⟩, ⟨hk1, hk4⟩, ea, eb, rfl, mo_game hm hs0 ⟨hi1, hi4⟩ ⟨hk1, hk4⟩ ?_ hP⟩)
                rw [h1, ea, eb, show z = 32 from (by omega)]
              · have c53 := mt (nI_leI (by omega) (by omega)).mpr c53
                refine lv_aload_n hx hb dX5_game_56 rfl (lv_at hl 0 rfl) ?_
                refine g_get hC hP hm.1 rfl inX5 1 (by decide) q3_7 hm.2.2.1.1 dX5_game_57 ?_
                refine lv_iload_n hx hb dX5_game_60 rfl (lv_at hl 3 rfl) ?_
                refine lv_iconst (v := nI 0) hx hb dX5_game_61 (by decide) ?_
                refine g_iast hC hP hS hTA hm.2.2.1.2 (vp_in_nI (by omega) (by decide)) dX5_game_62 (fun H23 locs24 hP hS hz26 => ?_)
                rw [show (nI z).toNatClampNeg = z from nI_clamp (by omega)] at hP
                obtain ⟨I25, hI25, hP⟩ : ∃ X : gI, X = au I9 (h + 2) z (nI 0) ∧ gP G T X J Q O H23 := ⟨_, rfl, hP⟩
                refine lv_iinc (v := nI (z + 1)) (lv' := [(3, .int (nI (z + 1))), (0, .ref h), (1, .int a), (2, .int b2)]) hx hb dX5_game_63 hl (k := 3) rfl (nI_inc _) (by decide) rfl (fun ls hl => ?_)
                refine lv_goto (tgt := 50) hx hb dX5_game_66 (by decide) ?_
                exact ih50 (z + 1) I25 (by omega) (by omega) (by rw [hI25, h1, au_gu]; exact congrArg _ (z16_s _ _)) _ _ hP hS ls (lv_sub hl [1, 2, 3, 0] rfl)
          exact L50 33 0 I21 (by omega) (by omega) (by simp only [*]; rw [show z16 (I (h + 2)) 0 = I (h + 2) from funext fun j => by simp [z16]]; funext q; unfold gu au; by_cases e : q = h + 2 <;> simp [e, gu]) _ _ hP hS ls (lv_sub hl [1, 2, 3, 0] rfl)
        · refine lv_aload_n hx hb dX5_game_27 rfl (lv_at hl 0 rfl) ?_
          refine lv_bipush (v := (-6)) hx hb dX5_game_28 (by decide) ?_
          refine g_cc (g_rV (As := [.int (-6 : Int32)]) hC hP (c_X5_refuse l hP (h := h) (q := (-6 : Int32)) (j := 6) (by first | assumption | omega) (by decide) (by omega)) hm.1 rfl ⟨q3_71, q3_68, q3_70, qs_25, q1_6⟩ dd_X5_refuse ⟨Nat.le_of_ble_eq_true rfl, Nat.le_of_ble_eq_true rfl, rfl, rfl⟩ hl.1 rfl (Nat.le_of_ble_eq_true rfl) dX5_game_30 ⟨Nat.le_of_ble_eq_true rfl, Nat.le_of_ble_eq_true rfl⟩) hS (fun q h => h.elim (hTA q) (fun z => hA q (Nat.le_trans hS.1 z))) (fun r31 H27 locs28 hq32 hS hz29 hfr30 => ?_)
          obtain ⟨rfl, hP⟩ := hq32
          obtain ⟨I33, hI33, hP⟩ : ∃ I33 : gI, I33 = au I (h + 4) 6 (I (h + 4) 6 + 1) ∧ gP G T I33 J Q O H27 := ⟨_, rfl, hP⟩
          refine W.eq (g2 := F0 m 33 ls [.int (-6 : Int32)]) rfl ?_
          refine g_retci hC hS ?_ dX5_game_33
          refine Or.inr (Or.inl ⟨?_, ?_, rfl, mo_ref hm hs0 (j := 6) (by decide) hI33 hP⟩)
          · rintro (h | h)
            · exact c2 h
            · exact Int32.not_lt.mpr c7 h
          · first | exact Or.inl c19 | exact Or.inr (Int32.not_le.mp c24)
    · refine lv_aload_n hx hb dX5_game_10 rfl (lv_at hl 0 rfl) ?_
      refine lv_bipush (v := (-4)) hx hb dX5_game_11 (by decide) ?_
      refine g_cc (g_rV (As := [.int (-4 : Int32)]) hC hP (c_X5_refuse l hP (h := h) (q := (-4 : Int32)) (j := 4) (by first | assumption | omega) (by decide) (by omega)) hm.1 rfl ⟨q3_71, q3_68, q3_70, qs_25, q1_6⟩ dd_X5_refuse ⟨Nat.le_of_ble_eq_true rfl, Nat.le_of_ble_eq_true rfl, rfl, rfl⟩ hl.1 rfl (Nat.le_of_ble_eq_true rfl) dX5_game_13 ⟨Nat.le_of_ble_eq_true rfl, Nat.le_of_ble_eq_true rfl⟩) hS (fun q h => h.elim (hTA q) (fun z => hA q (Nat.le_trans hS.1 z))) (fun r38 H34 locs35 hq39 hS hz36 hfr37 => ?_)
      obtain ⟨rfl, hP⟩ := hq39
      obtain ⟨I40, hI40, hP⟩ : ∃ I40 : gI, I40 = au I (h + 4) 4 (I (h + 4) 4 + 1) ∧ gP G T I40 J Q O H34 := ⟨_, rfl, hP⟩
      refine W.eq (g2 := F0 m 16 ls [.int (-4 : Int32)]) rfl ?_
      refine g_retci hC hS ?_ dX5_game_16
      refine Or.inl ⟨?_, rfl, mo_ref hm hs0 (j := 4) (by decide) hI40 hP⟩
      first | exact Or.inl c2 | exact Or.inr (Int32.not_le.mp c7)
set_option maxHeartbeats 4000000 in
set_option maxRecDepth 100000 in
theorem c_X5_pay (l : Launch) {G : gG} {T : gTy} {I : gI} {J : gJ} {Q : gR} {O : gO} {H : Heap} (hP : gP G T I J Q O H) {h : Nat} {st : GS} {q i k v : Int32} (hm : isMo T O h) (hs0 : moS I h st) : Met l yX5_pay (gw yX5_pay cX5_pay 7 (some (.int))) ({ frames := 2, cells := 0, slots := 0, locals := 47 } : Room) (gPc G H [.ref h, .int q, .int i, .int k, .int v]) (gQc (gF T H) (fun x H1 => rPay st (fun x1 s1 => x = some (.int x1) ∧ moR G T h s1 H1) q i k v)) 0 0 (gF T H) := by
  refine g_met [(0, .ref h), (1, .int q), (2, .int i), (3, .int k), (4, .int v)] (by decide) rfl (by exact Nat.le_of_ble_eq_true rfl) ?_
  intro p e s m below meth c hC hs ls hl
  have hx := hC.1.1
  have hb := hC.1.2.1
  have hS : va_S (gF T H) s.heap H [] := hs ▸ va_S.rf
  have hTA : ∀ q, (T q).1 ≠ 0 → gF T H q := fun q h => Or.inl h
  have hA : ∀ q, s.heap.size ≤ q → gF T H q := fun q h => Or.inr (hs ▸ h)
  generalize hAe : gF T H = A at hS hTA hA ⊢
  have hms := hs0.1
  have hns := hs0.2.1
  refine lv_iload_n hx hb dX5_pay_0 rfl (lv_at hl 1 rfl) ?_
  refine g_cp (g_rS (As := [.int q]) hC (c_X5_isWho l (q := q)) ⟨q3_78, q3_76, q3_77, q1_6⟩ dd_X5_isWho ⟨Nat.le_of_ble_eq_true rfl, Nat.le_of_ble_eq_true rfl, rfl, rfl⟩ hl.1 rfl (Nat.le_of_ble_eq_true rfl) dX5_pay_1 ⟨Nat.le_of_ble_eq_true rfl, Nat.le_of_ble_eq_true rfl⟩) ?_
  refine W.eq (g2 := F0 m 4 ls [.int (gb (isW q))]) rfl ?_
  refine lv_if_eq (tgt := 25) hx hb dX5_pay_4 (by decide) (fun c4 => ?_) (fun c4 => ?_)
  · have c4 := gb_f c4
    refine lv_aload_n hx hb dX5_pay_25 rfl (lv_at hl 0 rfl) ?_
    refine lv_iconst (v := (-1)) hx hb dX5_pay_26 (by decide) ?_
    refine g_cc (g_rV (As := [.int (-1 : Int32)]) hC hP (c_X5_refuseBig l hP (h := h) (q := (-1 : Int32)) (j := 1) (by first | assumption | omega) (by decide) (by omega)) hm.1 rfl ⟨q3_89, q3_86, q3_88, qs_27, q1_6⟩ dd_X5_refuseBig ⟨Nat.le_of_ble_eq_true rfl, Nat.le_of_ble_eq_true rfl, rfl, rfl⟩ hl.1 rfl (Nat.le_of_ble_eq_true rfl) dX5_pay_27 ⟨Nat.le_of_ble_eq_true rfl, Nat.le_of_ble_eq_true rfl⟩) hS (fun q h => h.elim (hTA q) (fun z => hA q (Nat.le_trans hS.1 z))) (fun r5 H1 locs2 hq6 hS hz3 hfr4 => ?_)
    obtain ⟨rfl, hP⟩ := hq6
    obtain ⟨I7, hI7, hP⟩ : ∃ I7 : gI, I7 = au I (h + 4) 1 (I (h + 4) 1 + 1) ∧ gP G T I7 J Q O H1 := ⟨_, rfl, hP⟩
    refine W.eq (g2 := F0 m 30 ls [.int (1000000000 - (-1 : Int32))]) rfl ?_
    refine g_retci hC hS ?_ dX5_pay_30
    exact Or.inl ⟨(by unfold plOK; first | (rw [c4]; rfl) | (rw [c13, Bool.false_and, Bool.and_false]) | (rw [c22, Bool.and_false, Bool.and_false])), rfl, mo_ref hm hs0 (j := 1) (by decide) hI7 hP⟩
  · have c4 := gb_t c4
    refine lv_aload_n hx hb dX5_pay_7 rfl (lv_at hl 0 rfl) ?_
    refine lv_iconst (v := nI 0) hx hb dX5_pay_8 (by decide) ?_
    refine lv_iload_n hx hb dX5_pay_9 rfl (lv_at hl 2 rfl) ?_
    refine g_cp (g_rV (As := [.int (nI 0), .int i]) hC hP (c_X5_isChoice l hP (h := h) (q := nI 0) (k := i) (by first | assumption | omega) (by first | assumption | omega)) hm.1 rfl ⟨q3_82, q3_79, q3_81, qs_26, q1_6⟩ dd_X5_isChoice ⟨Nat.le_of_ble_eq_true rfl, Nat.le_of_ble_eq_true rfl, rfl, rfl⟩ hl.1 rfl (Nat.le_of_ble_eq_true rfl) dX5_pay_10 ⟨Nat.le_of_ble_eq_true rfl, Nat.le_of_ble_eq_true rfl⟩) ?_
    refine W.eq (g2 := F0 m 13 ls [.int (gb (inR i (gsm st)))]) rfl ?_
    refine lv_if_eq (tgt := 25) hx hb dX5_pay_13 (by decide) (fun c13 => ?_) (fun c13 => ?_)
    · have c13 := gb_f c13
      refine lv_aload_n hx hb dX5_pay_25 rfl (lv_at hl 0 rfl) ?_
      refine lv_iconst (v := (-1)) hx hb dX5_pay_26 (by decide) ?_
      refine g_cc (g_rV (As := [.int (-1 : Int32)]) hC hP (c_X5_refuseBig l hP (h := h) (q := (-1 : Int32)) (j := 1) (by first | assumption | omega) (by decide) (by omega)) hm.1 rfl ⟨q3_89, q3_86, q3_88, qs_27, q1_6⟩ dd_X5_refuseBig ⟨Nat.le_of_ble_eq_true rfl, Nat.le_of_ble_eq_true rfl, rfl, rfl⟩ hl.1 rfl (Nat.le_of_ble_eq_true rfl) dX5_pay_27 ⟨Nat.le_of_ble_eq_true rfl, Nat.le_of_ble_eq_true rfl⟩) hS (fun q h => h.elim (hTA q) (fun z => hA q (Nat.le_trans hS.1 z))) (fun r12 H8 locs9 hq13 hS hz10 hfr11 => ?_)
      obtain ⟨rfl, hP⟩ := hq13
      obtain ⟨I14, hI14, hP⟩ : ∃ I14 : gI, I14 = au I (h + 4) 1 (I (h + 4) 1 + 1) ∧ gP G T I14 J Q O H8 := ⟨_, rfl, hP⟩
      refine W.eq (g2 := F0 m 30 ls [.int (1000000000 - (-1 : Int32))]) rfl ?_
      refine g_retci hC hS ?_ dX5_pay_30
      exact Or.inl ⟨(by unfold plOK; first | (rw [c4]; rfl) | (rw [c13, Bool.false_and, Bool.and_false]) | (rw [c22, Bool.and_false, Bool.and_false])), rfl, mo_ref hm hs0 (j := 1) (by decide) hI14 hP⟩
    · have c13 := gb_t c13
      refine lv_aload_n hx hb dX5_pay_16 rfl (lv_at hl 0 rfl) ?_
      refine lv_iconst (v := nI 1) hx hb dX5_pay_17 (by decide) ?_
      refine lv_iload_n hx hb dX5_pay_18 rfl (lv_at hl 3 rfl) ?_
      refine g_cp (g_rV (As := [.int (nI 1), .int k]) hC hP (c_X5_isChoice l hP (h := h) (q := nI 1) (k := k) (by first | assumption | omega) (by first | assumption | omega)) hm.1 rfl ⟨q3_82, q3_79, q3_81, qs_26, q1_6⟩ dd_X5_isChoice ⟨Nat.le_of_ble_eq_true rfl, Nat.le_of_ble_eq_true rfl, rfl, rfl⟩ hl.1 rfl (Nat.le_of_ble_eq_true rfl) dX5_pay_19 ⟨Nat.le_of_ble_eq_true rfl, Nat.le_of_ble_eq_true rfl⟩) ?_
      refine W.eq (g2 := F0 m 22 ls [.int (gb (inR k (gsn st)))]) rfl ?_
      refine lv_if_ne (tgt := 31) hx hb dX5_pay_22 (by decide) (fun c22 => ?_) (fun c22 => ?_)
      · have c22 := gb_t c22
        refine lv_iload hx hb dX5_pay_31 (lv_at hl 4 rfl) ?_
        refine lv_bipush (v := (-20)) hx hb dX5_pay_33 (by decide) ?_
        refine lv_icmp_ge (tgt := 45) hx hb dX5_pay_35 (by decide) (fun c35 => ?_) (fun c35 => ?_)
        · refine lv_iload hx hb dX5_pay_45 (lv_at hl 4 rfl) ?_
          refine lv_bipush (v := nI 20) hx hb dX5_pay_47 (by decide) ?_
          refine lv_icmp_le (tgt := 59) hx hb dX5_pay_49 (by decide) (fun c49 => ?_) (fun c49 => ?_)
          · obtain ⟨a, ha, rfl⟩ := inR_nI (by omega) c13
            obtain ⟨b, hb2, rfl⟩ := inR_nI (by omega) c22
            rcases isW_c c4 with rfl | rfl
            · refine lv_bipush (v := nI 16) hx hb dX5_pay_59 (by decide) ?_
              refine lv_iload_n hx hb dX5_pay_61 rfl (lv_at hl 1 rfl) ?_
              refine lv_imul hx hb dX5_pay_62 ?_
              refine g_topi (y := nI (16 * 0)) (nI_mul _ _) ?_
              refine lv_iconst (v := nI 4) hx hb dX5_pay_63 (by decide) ?_
              refine lv_iload_n hx hb dX5_pay_64 rfl (lv_at hl 2 rfl) ?_
              refine lv_imul hx hb dX5_pay_65 ?_
              refine g_topi (y := nI (4 * a)) (nI_mul _ _) ?_
              refine lv_iadd hx hb dX5_pay_66 ?_
              refine g_topi (y := nI (16 * 0 + (4 * a))) (nI_add _ _) ?_
              refine lv_iload_n hx hb dX5_pay_67 rfl (lv_at hl 3 rfl) ?_
              refine lv_iadd hx hb dX5_pay_68 ?_
              refine g_topi (y := nI (16 * 0 + (4 * a) + b)) (nI_add _ _) ?_
              refine lv_istore (lv' := [(5, .int (nI (16 * 0 + (4 * a) + b))), (0, .ref h), (1, .int (nI 0)), (2, .int (nI a)), (3, .int (nI b)), (4, .int v)]) hx hb dX5_pay_69 hl (by decide) rfl (fun ls hl => ?_)
              refine lv_aload_n hx hb dX5_pay_71 rfl (lv_at hl 1 rfl) ?_
              refine g_get hC hP hm.1 rfl inX5 1 (by decide) q3_7 hm.2.2.1.1 dX5_pay_72 ?_
              refine lv_iload hx hb dX5_pay_75 (lv_at hl 0 rfl) ?_
              refine g_iald hC hP hm.2.2.1.2 (vp_in_nI (by omega) (by decide)) dX5_pay_77 ?_
              refine g_topi (y := gsP0 st (a * 4 + b)) ((congrArg (I (h + 2)) (nI_clamp (by omega))).trans (by rw [show 16 * 0 + 4 * a + b = 4 * a + b from by omega]; exact hs0.2.2.2.2.1 a b (by omega) (by omega))) ?_
              refine lv_istore (lv' := [(6, .int (gsP0 st (a * 4 + b))), (5, .int (nI (16 * 0 + (4 * a) + b))), (0, .ref h), (1, .int (nI 0)), (2, .int (nI a)), (3, .int (nI b)), (4, .int v)]) hx hb dX5_pay_78 hl (by decide) rfl (fun ls hl => ?_)
              refine lv_aload_n hx hb dX5_pay_80 rfl (lv_at hl 2 rfl) ?_
              refine g_get hC hP hm.1 rfl inX5 1 (by decide) q3_7 hm.2.2.1.1 dX5_pay_81 ?_
              refine lv_iload hx hb dX5_pay_84 (lv_at hl 1 rfl) ?_
              refine lv_iload hx hb dX5_pay_86 (lv_at hl 6 rfl) ?_
              refine g_iast hC hP hS hTA hm.2.2.1.2 (vp_in_nI (by omega) (by decide)) dX5_pay_88 (fun H15 locs16 hP hS hz18 => ?_)
              rw [show (nI (16 * 0 + (4 * a) + b)).toNatClampNeg = 16 * 0 + (4 * a) + b from nI_clamp (by omega)] at hP
              obtain ⟨I17, hI17, hP⟩ : ∃ X : gI, X = au I (h + 2) (16 * 0 + (4 * a) + b) v ∧ gP G T X J Q O H15 := ⟨_, rfl, hP⟩
              refine lv_iload hx hb dX5_pay_89 (lv_at hl 0 rfl) ?_
              refine g_retci hC hS ?_ dX5_pay_91
              exact Or.inr (Or.inr (Or.inr ⟨a, b, ha, hb2, rfl, rfl, Int32.not_lt.mpr c35, Int32.not_lt.mpr c49, Or.inl ⟨rfl, rfl, mo_pay0 hm hs0 (by omega) (by omega) (by omega) hI17 hP⟩⟩))
            · refine lv_bipush (v := nI 16) hx hb dX5_pay_59 (by decide) ?_
              refine lv_iload_n hx hb dX5_pay_61 rfl (lv_at hl 1 rfl) ?_
              refine lv_imul hx hb dX5_pay_62 ?_
              refine g_topi (y := nI (16 * 1)) (nI_mul _ _) ?_
              refine lv_iconst (v := nI 4) hx hb dX5_pay_63 (by decide) ?_
              refine lv_iload_n hx hb dX5_pay_64 rfl (lv_at hl 2 rfl) ?_
              refine lv_imul hx hb dX5_pay_65 ?_
              refine g_topi (y := nI (4 * a)) (nI_mul _ _) ?_
              refine lv_iadd hx hb dX5_pay_66 ?_
              refine g_topi (y := nI (16 * 1 + (4 * a))) (nI_add _ _) ?_
              refine lv_iload_n hx hb dX5_pay_67 rfl (lv_at hl 3 rfl) ?_
              refine lv_iadd hx hb dX5_pay_68 ?_
              refine g_topi (y := nI (16 * 1 + (4 * a) + b)) (nI_add _ _) ?_
              refine lv_istore (lv' := [(5, .int (nI (16 * 1 + (4 * a) + b))), (0, .ref h), (1, .int (nI 1)), (2, .int (nI a)), (3, .int (nI b)), (4, .int v)]) hx hb dX5_pay_69 hl (by decide) rfl (fun ls hl => ?_)
              refine lv_aload_n hx hb dX5_pay_71 rfl (lv_at hl 1 rfl) ?_
              refine g_get hC hP hm.1 rfl inX5 1 (by decide) q3_7 hm.2.2.1.1 dX5_pay_72 ?_
              refine lv_iload hx hb dX5_pay_75 (lv_at hl 0 rfl) ?_
              refine g_iald hC hP hm.2.2.1.2 (vp_in_nI (by omega) (by decide)) dX5_pay_77 ?_
              refine g_topi (y := gsP1 st (b * 4 + a)) ((congrArg (I (h + 2)) (nI_clamp (by omega))).trans (by exact hs0.2.2.2.2.2.1 a b (by omega) (by omega))) ?_
              refine lv_istore (lv' := [(6, .int (gsP1 st (b * 4 + a))), (5, .int (nI (16 * 1 + (4 * a) + b))), (0, .ref h), (1, .int (nI 1)), (2, .int (nI a)), (3, .int (nI b)), (4, .int v)]) hx hb dX5_pay_78 hl (by decide) rfl (fun ls hl => ?_)
              refine lv_aload_n hx hb dX5_pay_80 rfl (lv_at hl 2 rfl) ?_
              refine g_get hC hP hm.1 rfl inX5 1 (by decide) q3_7 hm.2.2.1.1 dX5_pay_81 ?_
              refine lv_iload hx hb dX5_pay_84 (lv_at hl 1 rfl) ?_
              refine lv_iload hx hb dX5_pay_86 (lv_at hl 6 rfl) ?_
              refine g_iast hC hP hS hTA hm.2.2.1.2 (vp_in_nI (by omega) (by decide)) dX5_pay_88 (fun H19 locs20 hP hS hz22 => ?_)
              rw [show (nI (16 * 1 + (4 * a) + b)).toNatClampNeg = 16 * 1 + (4 * a) + b from nI_clamp (by omega)] at hP
              obtain ⟨I21, hI21, hP⟩ : ∃ X : gI, X = au I (h + 2) (16 * 1 + (4 * a) + b) v ∧ gP G T X J Q O H19 := ⟨_, rfl, hP⟩
              refine lv_iload hx hb dX5_pay_89 (lv_at hl 0 rfl) ?_
              refine g_retci hC hS ?_ dX5_pay_91
              exact Or.inr (Or.inr (Or.inr ⟨a, b, ha, hb2, rfl, rfl, Int32.not_lt.mpr c35, Int32.not_lt.mpr c49, Or.inr ⟨rfl, rfl, mo_pay1 hm hs0 (by omega) (by omega) (by omega) hI21 hP⟩⟩))
          · refine lv_aload_n hx hb dX5_pay_52 rfl (lv_at hl 0 rfl) ?_
            refine lv_bipush (v := (-6)) hx hb dX5_pay_53 (by decide) ?_
            refine g_cc (g_rV (As := [.int (-6 : Int32)]) hC hP (c_X5_refuseBig l hP (h := h) (q := (-6 : Int32)) (j := 6) (by first | assumption | omega) (by decide) (by omega)) hm.1 rfl ⟨q3_89, q3_86, q3_88, qs_27, q1_6⟩ dd_X5_refuseBig ⟨Nat.le_of_ble_eq_true rfl, Nat.le_of_ble_eq_true rfl, rfl, rfl⟩ hl.1 rfl (Nat.le_of_ble_eq_true rfl) dX5_pay_55 ⟨Nat.le_of_ble_eq_true rfl, Nat.le_of_ble_eq_true rfl⟩) hS (fun q h => h.elim (hTA q) (fun z => hA q (Nat.le_trans hS.1 z))) (fun r27 H23 locs24 hq28 hS hz25 hfr26 => ?_)
            obtain ⟨rfl, hP⟩ := hq28
            obtain ⟨I29, hI29, hP⟩ : ∃ I29 : gI, I29 = au I (h + 4) 6 (I (h + 4) 6 + 1) ∧ gP G T I29 J Q O H23 := ⟨_, rfl, hP⟩
            refine W.eq (g2 := F0 m 58 ls [.int (1000000000 - (-6 : Int32))]) rfl ?_
            refine g_retci hC hS ?_ dX5_pay_58
            exact Or.inr (Or.inr (Or.inl ⟨(by unfold plOK; rw [c4, c13, c22]; rfl), Int32.not_lt.mpr c35, Int32.not_le.mp c49, rfl, mo_ref hm hs0 (j := 6) (by decide) hI29 hP⟩))
        · refine lv_aload_n hx hb dX5_pay_38 rfl (lv_at hl 0 rfl) ?_
          refine lv_bipush (v := (-4)) hx hb dX5_pay_39 (by decide) ?_
          refine g_cc (g_rV (As := [.int (-4 : Int32)]) hC hP (c_X5_refuseBig l hP (h := h) (q := (-4 : Int32)) (j := 4) (by first | assumption | omega) (by decide) (by omega)) hm.1 rfl ⟨q3_89, q3_86, q3_88, qs_27, q1_6⟩ dd_X5_refuseBig ⟨Nat.le_of_ble_eq_true rfl, Nat.le_of_ble_eq_true rfl, rfl, rfl⟩ hl.1 rfl (Nat.le_of_ble_eq_true rfl) dX5_pay_41 ⟨Nat.le_of_ble_eq_true rfl, Nat.le_of_ble_eq_true rfl⟩) hS (fun q h => h.elim (hTA q) (fun z => hA q (Nat.le_trans hS.1 z))) (fun r34 H30 locs31 hq35 hS hz32 hfr33 => ?_)
          obtain ⟨rfl, hP⟩ := hq35
          obtain ⟨I36, hI36, hP⟩ : ∃ I36 : gI, I36 = au I (h + 4) 4 (I (h + 4) 4 + 1) ∧ gP G T I36 J Q O H30 := ⟨_, rfl, hP⟩
          refine W.eq (g2 := F0 m 44 ls [.int (1000000000 - (-4 : Int32))]) rfl ?_
          refine g_retci hC hS ?_ dX5_pay_44
          exact Or.inr (Or.inl ⟨(by unfold plOK; rw [c4, c13, c22]; rfl), Int32.not_le.mp c35, rfl, mo_ref hm hs0 (j := 4) (by decide) hI36 hP⟩)
      · have c22 := gb_f c22
        refine lv_aload_n hx hb dX5_pay_25 rfl (lv_at hl 0 rfl) ?_
        refine lv_iconst (v := (-1)) hx hb dX5_pay_26 (by decide) ?_
        refine g_cc (g_rV (As := [.int (-1 : Int32)]) hC hP (c_X5_refuseBig l hP (h := h) (q := (-1 : Int32)) (j := 1) (by first | assumption | omega) (by decide) (by omega)) hm.1 rfl ⟨q3_89, q3_86, q3_88, qs_27, q1_6⟩ dd_X5_refuseBig ⟨Nat.le_of_ble_eq_true rfl, Nat.le_of_ble_eq_true rfl, rfl, rfl⟩ hl.1 rfl (Nat.le_of_ble_eq_true rfl) dX5_pay_27 ⟨Nat.le_of_ble_eq_true rfl, Nat.le_of_ble_eq_true rfl⟩) hS (fun q h => h.elim (hTA q) (fun z => hA q (Nat.le_trans hS.1 z))) (fun r41 H37 locs38 hq42 hS hz39 hfr40 => ?_)
        obtain ⟨rfl, hP⟩ := hq42
        obtain ⟨I43, hI43, hP⟩ : ∃ I43 : gI, I43 = au I (h + 4) 1 (I (h + 4) 1 + 1) ∧ gP G T I43 J Q O H37 := ⟨_, rfl, hP⟩
        refine W.eq (g2 := F0 m 30 ls [.int (1000000000 - (-1 : Int32))]) rfl ?_
        refine g_retci hC hS ?_ dX5_pay_30
        exact Or.inl ⟨(by unfold plOK; first | (rw [c4]; rfl) | (rw [c13, Bool.false_and, Bool.and_false]) | (rw [c22, Bool.and_false, Bool.and_false])), rfl, mo_ref hm hs0 (j := 1) (by decide) hI43 hP⟩
set_option maxHeartbeats 4000000 in
set_option maxRecDepth 100000 in
theorem c_X5_paid (l : Launch) {G : gG} {T : gTy} {I : gI} {J : gJ} {Q : gR} {O : gO} {H : Heap} (hP : gP G T I J Q O H) {h : Nat} {st : GS} {q i k : Int32} (hm : isMo T O h) (hs0 : moS I h st) : Met l yX5_paid (gw yX5_paid cX5_paid 4 (some (.int))) ({ frames := 2, cells := 0, slots := 0, locals := 47 } : Room) (gPc G H [.ref h, .int q, .int i, .int k]) (gQc (gF T H) (fun x H1 => rPaid st (fun x1 s1 => x = some (.int x1) ∧ moR G T h s1 H1) q i k)) 0 0 (gF T H) := by
  refine g_met [(0, .ref h), (1, .int q), (2, .int i), (3, .int k)] (by decide) rfl (by exact Nat.le_of_ble_eq_true rfl) ?_
  intro p e s m below meth c hC hs ls hl
  have hx := hC.1.1
  have hb := hC.1.2.1
  have hS : va_S (gF T H) s.heap H [] := hs ▸ va_S.rf
  have hTA : ∀ q, (T q).1 ≠ 0 → gF T H q := fun q h => Or.inl h
  have hA : ∀ q, s.heap.size ≤ q → gF T H q := fun q h => Or.inr (hs ▸ h)
  generalize hAe : gF T H = A at hS hTA hA ⊢
  have hms := hs0.1
  have hns := hs0.2.1
  refine lv_iload_n hx hb dX5_paid_0 rfl (lv_at hl 1 rfl) ?_
  refine g_cp (g_rS (As := [.int q]) hC (c_X5_isWho l (q := q)) ⟨q3_78, q3_76, q3_77, q1_6⟩ dd_X5_isWho ⟨Nat.le_of_ble_eq_true rfl, Nat.le_of_ble_eq_true rfl, rfl, rfl⟩ hl.1 rfl (Nat.le_of_ble_eq_true rfl) dX5_paid_1 ⟨Nat.le_of_ble_eq_true rfl, Nat.le_of_ble_eq_true rfl⟩) ?_
  refine W.eq (g2 := F0 m 4 ls [.int (gb (isW q))]) rfl ?_
  refine lv_if_eq (tgt := 43) hx hb dX5_paid_4 (by decide) (fun c4 => ?_) (fun c4 => ?_)
  · have c4 := gb_f c4
    refine lv_aload_n hx hb dX5_paid_43 rfl (lv_at hl 0 rfl) ?_
    refine lv_iconst (v := (-1)) hx hb dX5_paid_44 (by decide) ?_
    refine g_cc (g_rV (As := [.int (-1 : Int32)]) hC hP (c_X5_refuseBig l hP (h := h) (q := (-1 : Int32)) (j := 1) (by first | assumption | omega) (by decide) (by omega)) hm.1 rfl ⟨q3_89, q3_86, q3_88, qs_27, q1_6⟩ dd_X5_refuseBig ⟨Nat.le_of_ble_eq_true rfl, Nat.le_of_ble_eq_true rfl, rfl, rfl⟩ hl.1 rfl (Nat.le_of_ble_eq_true rfl) dX5_paid_45 ⟨Nat.le_of_ble_eq_true rfl, Nat.le_of_ble_eq_true rfl⟩) hS (fun q h => h.elim (hTA q) (fun z => hA q (Nat.le_trans hS.1 z))) (fun r5 H1 locs2 hq6 hS hz3 hfr4 => ?_)
    obtain ⟨rfl, hP⟩ := hq6
    obtain ⟨I7, hI7, hP⟩ : ∃ I7 : gI, I7 = au I (h + 4) 1 (I (h + 4) 1 + 1) ∧ gP G T I7 J Q O H1 := ⟨_, rfl, hP⟩
    refine W.eq (g2 := F0 m 48 ls [.int (1000000000 - (-1 : Int32))]) rfl ?_
    refine g_retci hC hS ?_ dX5_paid_48
    exact Or.inl ⟨(by unfold plOK; first | (rw [c4]; rfl) | (rw [c13, Bool.false_and, Bool.and_false]) | (rw [c22, Bool.and_false, Bool.and_false])), rfl, mo_ref hm hs0 (j := 1) (by decide) hI7 hP⟩
  · have c4 := gb_t c4
    refine lv_aload_n hx hb dX5_paid_7 rfl (lv_at hl 0 rfl) ?_
    refine lv_iconst (v := nI 0) hx hb dX5_paid_8 (by decide) ?_
    refine lv_iload_n hx hb dX5_paid_9 rfl (lv_at hl 2 rfl) ?_
    refine g_cp (g_rV (As := [.int (nI 0), .int i]) hC hP (c_X5_isChoice l hP (h := h) (q := nI 0) (k := i) (by first | assumption | omega) (by first | assumption | omega)) hm.1 rfl ⟨q3_82, q3_79, q3_81, qs_26, q1_6⟩ dd_X5_isChoice ⟨Nat.le_of_ble_eq_true rfl, Nat.le_of_ble_eq_true rfl, rfl, rfl⟩ hl.1 rfl (Nat.le_of_ble_eq_true rfl) dX5_paid_10 ⟨Nat.le_of_ble_eq_true rfl, Nat.le_of_ble_eq_true rfl⟩) ?_
    refine W.eq (g2 := F0 m 13 ls [.int (gb (inR i (gsm st)))]) rfl ?_
    refine lv_if_eq (tgt := 43) hx hb dX5_paid_13 (by decide) (fun c13 => ?_) (fun c13 => ?_)
    · have c13 := gb_f c13
      refine lv_aload_n hx hb dX5_paid_43 rfl (lv_at hl 0 rfl) ?_
      refine lv_iconst (v := (-1)) hx hb dX5_paid_44 (by decide) ?_
      refine g_cc (g_rV (As := [.int (-1 : Int32)]) hC hP (c_X5_refuseBig l hP (h := h) (q := (-1 : Int32)) (j := 1) (by first | assumption | omega) (by decide) (by omega)) hm.1 rfl ⟨q3_89, q3_86, q3_88, qs_27, q1_6⟩ dd_X5_refuseBig ⟨Nat.le_of_ble_eq_true rfl, Nat.le_of_ble_eq_true rfl, rfl, rfl⟩ hl.1 rfl (Nat.le_of_ble_eq_true rfl) dX5_paid_45 ⟨Nat.le_of_ble_eq_true rfl, Nat.le_of_ble_eq_true rfl⟩) hS (fun q h => h.elim (hTA q) (fun z => hA q (Nat.le_trans hS.1 z))) (fun r12 H8 locs9 hq13 hS hz10 hfr11 => ?_)
      obtain ⟨rfl, hP⟩ := hq13
      obtain ⟨I14, hI14, hP⟩ : ∃ I14 : gI, I14 = au I (h + 4) 1 (I (h + 4) 1 + 1) ∧ gP G T I14 J Q O H8 := ⟨_, rfl, hP⟩
      refine W.eq (g2 := F0 m 48 ls [.int (1000000000 - (-1 : Int32))]) rfl ?_
      refine g_retci hC hS ?_ dX5_paid_48
      exact Or.inl ⟨(by unfold plOK; first | (rw [c4]; rfl) | (rw [c13, Bool.false_and, Bool.and_false]) | (rw [c22, Bool.and_false, Bool.and_false])), rfl, mo_ref hm hs0 (j := 1) (by decide) hI14 hP⟩
    · have c13 := gb_t c13
      refine lv_aload_n hx hb dX5_paid_16 rfl (lv_at hl 0 rfl) ?_
      refine lv_iconst (v := nI 1) hx hb dX5_paid_17 (by decide) ?_
      refine lv_iload_n hx hb dX5_paid_18 rfl (lv_at hl 3 rfl) ?_
      refine g_cp (g_rV (As := [.int (nI 1), .int k]) hC hP (c_X5_isChoice l hP (h := h) (q := nI 1) (k := k) (by first | assumption | omega) (by first | assumption | omega)) hm.1 rfl ⟨q3_82, q3_79, q3_81, qs_26, q1_6⟩ dd_X5_isChoice ⟨Nat.le_of_ble_eq_true rfl, Nat.le_of_ble_eq_true rfl, rfl, rfl⟩ hl.1 rfl (Nat.le_of_ble_eq_true rfl) dX5_paid_19 ⟨Nat.le_of_ble_eq_true rfl, Nat.le_of_ble_eq_true rfl⟩) ?_
      refine W.eq (g2 := F0 m 22 ls [.int (gb (inR k (gsn st)))]) rfl ?_
      refine lv_if_eq (tgt := 43) hx hb dX5_paid_22 (by decide) (fun c22 => ?_) (fun c22 => ?_)
      · have c22 := gb_f c22
        refine lv_aload_n hx hb dX5_paid_43 rfl (lv_at hl 0 rfl) ?_
        refine lv_iconst (v := (-1)) hx hb dX5_paid_44 (by decide) ?_
        refine g_cc (g_rV (As := [.int (-1 : Int32)]) hC hP (c_X5_refuseBig l hP (h := h) (q := (-1 : Int32)) (j := 1) (by first | assumption | omega) (by decide) (by omega)) hm.1 rfl ⟨q3_89, q3_86, q3_88, qs_27, q1_6⟩ dd_X5_refuseBig ⟨Nat.le_of_ble_eq_true rfl, Nat.le_of_ble_eq_true rfl, rfl, rfl⟩ hl.1 rfl (Nat.le_of_ble_eq_true rfl) dX5_paid_45 ⟨Nat.le_of_ble_eq_true rfl, Nat.le_of_ble_eq_true rfl⟩) hS (fun q h => h.elim (hTA q) (fun z => hA q (Nat.le_trans hS.1 z))) (fun r19 H15 locs16 hq20 hS hz17 hfr18 => ?_)
        obtain ⟨rfl, hP⟩ := hq20
        obtain ⟨I21, hI21, hP⟩ : ∃ I21 : gI, I21 = au I (h + 4) 1 (I (h + 4) 1 + 1) ∧ gP G T I21 J Q O H15 := ⟨_, rfl, hP⟩
        refine W.eq (g2 := F0 m 48 ls [.int (1000000000 - (-1 : Int32))]) rfl ?_
        refine g_retci hC hS ?_ dX5_paid_48
        exact Or.inl ⟨(by unfold plOK; first | (rw [c4]; rfl) | (rw [c13, Bool.false_and, Bool.and_false]) | (rw [c22, Bool.and_false, Bool.and_false])), rfl, mo_ref hm hs0 (j := 1) (by decide) hI21 hP⟩
      · have c22 := gb_t c22
        obtain ⟨a, ha, rfl⟩ := inR_nI (by omega) c13
        obtain ⟨b, hb2, rfl⟩ := inR_nI (by omega) c22
        rcases isW_c c4 with rfl | rfl
        · refine lv_aload_n hx hb dX5_paid_25 rfl (lv_at hl 0 rfl) ?_
          refine g_get hC hP hm.1 rfl inX5 1 (by decide) q3_7 hm.2.2.1.1 dX5_paid_26 ?_
          refine lv_bipush (v := nI 16) hx hb dX5_paid_29 (by decide) ?_
          refine lv_iload_n hx hb dX5_paid_31 rfl (lv_at hl 1 rfl) ?_
          refine lv_imul hx hb dX5_paid_32 ?_
          refine g_topi (y := nI (16 * 0)) (nI_mul _ _) ?_
          refine lv_iconst (v := nI 4) hx hb dX5_paid_33 (by decide) ?_
          refine lv_iload_n hx hb dX5_paid_34 rfl (lv_at hl 2 rfl) ?_
          refine lv_imul hx hb dX5_paid_35 ?_
          refine g_topi (y := nI (4 * a)) (nI_mul _ _) ?_
          refine lv_iadd hx hb dX5_paid_36 ?_
          refine g_topi (y := nI (16 * 0 + (4 * a))) (nI_add _ _) ?_
          refine lv_iload_n hx hb dX5_paid_37 rfl (lv_at hl 3 rfl) ?_
          refine lv_iadd hx hb dX5_paid_38 ?_
          refine g_topi (y := nI (16 * 0 + (4 * a) + b)) (nI_add _ _) ?_
          refine g_iald hC hP hm.2.2.1.2 (vp_in_nI (by omega) (by decide)) dX5_paid_39 ?_
          refine g_topi (y := gsP0 st (a * 4 + b)) ((congrArg (I (h + 2)) (nI_clamp (by omega))).trans (by rw [show 16 * 0 + 4 * a + b = 4 * a + b from by omega]; exact hs0.2.2.2.2.1 a b (by omega) (by omega))) ?_
          refine lv_goto (tgt := 48) hx hb dX5_paid_40 (by decide) ?_
          refine g_retci hC hS ?_ dX5_paid_48
          exact Or.inr ⟨a, b, ha, hb2, rfl, rfl, Or.inl ⟨rfl, rfl, mo_same hm hs0 hP⟩⟩
        · refine lv_aload_n hx hb dX5_paid_25 rfl (lv_at hl 0 rfl) ?_
          refine g_get hC hP hm.1 rfl inX5 1 (by decide) q3_7 hm.2.2.1.1 dX5_paid_26 ?_
          refine lv_bipush (v := nI 16) hx hb dX5_paid_29 (by decide) ?_
          refine lv_iload_n hx hb dX5_paid_31 rfl (lv_at hl 1 rfl) ?_
          refine lv_imul hx hb dX5_paid_32 ?_
          refine g_topi (y := nI (16 * 1)) (nI_mul _ _) ?_
          refine lv_iconst (v := nI 4) hx hb dX5_paid_33 (by decide) ?_
          refine lv_iload_n hx hb dX5_paid_34 rfl (lv_at hl 2 rfl) ?_
          refine lv_imul hx hb dX5_paid_35 ?_
          refine g_topi (y := nI (4 * a)) (nI_mul _ _) ?_
          refine lv_iadd hx hb dX5_paid_36 ?_
          refine g_topi (y := nI (16 * 1 + (4 * a))) (nI_add _ _) ?_
          refine lv_iload_n hx hb dX5_paid_37 rfl (lv_at hl 3 rfl) ?_
          refine lv_iadd hx hb dX5_paid_38 ?_
          refine g_topi (y := nI (16 * 1 + (4 * a) + b)) (nI_add _ _) ?_
          refine g_iald hC hP hm.2.2.1.2 (vp_in_nI (by omega) (by decide)) dX5_paid_39 ?_
          refine g_topi (y := gsP1 st (b * 4 + a)) ((congrArg (I (h + 2)) (nI_clamp (by omega))).trans (by exact hs0.2.2.2.2.2.1 a b (by omega) (by omega))) ?_
          refine lv_goto (tgt := 48) hx hb dX5_paid_40 (by decide) ?_
          refine g_retci hC hS ?_ dX5_paid_48
          exact Or.inr ⟨a, b, ha, hb2, rfl, rfl, Or.inr ⟨rfl, rfl, mo_same hm hs0 hP⟩⟩
theorem inL_4 {x : Int32} : inL x.toInt64 0 (3 : Int64) = inR x 4 := inL_R (n := 4) (by decide) (by decide)
set_option maxHeartbeats 4000000 in
set_option maxRecDepth 100000 in
theorem c_X5_weight (l : Launch) {G : gG} {T : gTy} {I : gI} {J : gJ} {Q : gR} {O : gO} {H : Heap} (hP : gP G T I J Q O H) {h : Nat} {st : GS} {q k v : Int32} (hm : isMo T O h) (hs0 : moS I h st) : Met l yX5_weight (gw yX5_weight cX5_weight 5 (some (.int))) ({ frames := 1, cells := 0, slots := 0, locals := 25 } : Room) (gPc G H [.ref h, .int q, .int k, .int v]) (gQc (gF T H) (fun x H1 => rWeight st (fun x1 s1 => x = some (.int x1) ∧ moR G T h s1 H1) q k v)) 0 0 (gF T H) := by
  refine g_met [(0, .ref h), (1, .int q), (2, .int k), (3, .int v)] (by decide) rfl (by exact Nat.le_of_ble_eq_true rfl) ?_
  intro p e s m below meth c hC hs ls hl
  have hx := hC.1.1
  have hb := hC.1.2.1
  have hS : va_S (gF T H) s.heap H [] := hs ▸ va_S.rf
  have hTA : ∀ q, (T q).1 ≠ 0 → gF T H q := fun q h => Or.inl h
  have hA : ∀ q, s.heap.size ≤ q → gF T H q := fun q h => Or.inr (hs ▸ h)
  generalize hAe : gF T H = A at hS hTA hA ⊢
  have hms := hs0.1
  have hns := hs0.2.1
  refine lv_iload_n hx hb dX5_weight_0 rfl (lv_at hl 1 rfl) ?_
  refine g_cp (g_rS (As := [.int q]) hC (c_X5_isWho l (q := q)) ⟨q3_78, q3_76, q3_77, q1_6⟩ dd_X5_isWho ⟨Nat.le_of_ble_eq_true rfl, Nat.le_of_ble_eq_true rfl, rfl, rfl⟩ hl.1 rfl (Nat.le_of_ble_eq_true rfl) dX5_weight_1 ⟨Nat.le_of_ble_eq_true rfl, Nat.le_of_ble_eq_true rfl⟩) ?_
  refine W.eq (g2 := F0 m 4 ls [.int (gb (isW q))]) rfl ?_
  refine lv_if_eq (tgt := 19) hx hb dX5_weight_4 (by decide) (fun c4 => ?_) (fun c4 => ?_)
  · have c4 := gb_f c4
    refine lv_aload_n hx hb dX5_weight_19 rfl (lv_at hl 0 rfl) ?_
    refine lv_iconst (v := (-1)) hx hb dX5_weight_20 (by decide) ?_
    refine g_cc (g_rV (As := [.int (-1 : Int32)]) hC hP (c_X5_refuse l hP (h := h) (q := (-1 : Int32)) (j := 1) (by first | assumption | omega) (by decide) (by omega)) hm.1 rfl ⟨q3_71, q3_68, q3_70, qs_25, q1_6⟩ dd_X5_refuse ⟨Nat.le_of_ble_eq_true rfl, Nat.le_of_ble_eq_true rfl, rfl, rfl⟩ hl.1 rfl (Nat.le_of_ble_eq_true rfl) dX5_weight_21 ⟨Nat.le_of_ble_eq_true rfl, Nat.le_of_ble_eq_true rfl⟩) hS (fun q h => h.elim (hTA q) (fun z => hA q (Nat.le_trans hS.1 z))) (fun r5 H1 locs2 hq6 hS hz3 hfr4 => ?_)
    obtain ⟨rfl, hP⟩ := hq6
    obtain ⟨I7, hI7, hP⟩ : ∃ I7 : gI, I7 = au I (h + 4) 1 (I (h + 4) 1 + 1) ∧ gP G T I7 J Q O H1 := ⟨_, rfl, hP⟩
    refine W.eq (g2 := F0 m 24 ls [.int (-1 : Int32)]) rfl ?_
    refine g_retci hC hS ?_ dX5_weight_24
    exact Or.inl ⟨(by unfold wtOK; first | (rw [c4]; rfl) | (rw [c16, Bool.and_false])), rfl, mo_ref hm hs0 (j := 1) (by decide) hI7 hP⟩
  · have c4 := gb_t c4
    refine lv_iload_n hx hb dX5_weight_7 rfl (lv_at hl 2 rfl) ?_
    refine lv_i2l hx hb dX5_weight_8 rfl ?_
    refine lv_lconst (v := 0) hx hb dX5_weight_9 (by decide) ?_
    refine lv_ldc2 (v := (3 : Int64)) hx hb hC.1.2.2.2.1 (hC.1.2.2.2.2 _ q3_99) dX5_weight_10 ?_
    refine g_cp (g_rS (As := [.long k.toInt64, .long (0 : Int64), .long (3 : Int64)]) hC (c_X5_in l (a := k.toInt64) (b2 := (0 : Int64)) (d2 := (3 : Int64))) ⟨q3_85, q3_83, q3_84, q1_6⟩ dd_X5_in ⟨Nat.le_of_ble_eq_true rfl, Nat.le_of_ble_eq_true rfl, rfl, rfl⟩ hl.1 rfl (Nat.le_of_ble_eq_true rfl) dX5_weight_13 ⟨Nat.le_of_ble_eq_true rfl, Nat.le_of_ble_eq_true rfl⟩) ?_
    refine W.eq (g2 := F0 m 16 ls [.int (gb (inL k.toInt64 (0 : Int64) (3 : Int64)))]) rfl ?_
    refine lv_if_ne (tgt := 25) hx hb dX5_weight_16 (by decide) (fun c16 => ?_) (fun c16 => ?_)
    · have c16 := gb_t c16
      rw [inL_4] at c16
      refine lv_iload_n hx hb dX5_weight_25 rfl (lv_at hl 3 rfl) ?_
      refine lv_if_ge (tgt := 36) hx hb dX5_weight_26 (by decide) (fun c26 => ?_) (fun c26 => ?_)
      · refine lv_iload_n hx hb dX5_weight_36 rfl (lv_at hl 3 rfl) ?_
        refine lv_bipush (v := nI 99) hx hb dX5_weight_37 (by decide) ?_
        refine lv_icmp_le (tgt := 49) hx hb dX5_weight_39 (by decide) (fun c39 => ?_) (fun c39 => ?_)
        · obtain ⟨b, hb4, rfl⟩ := inR_nI (by decide) c16
          rcases isW_c c4 with rfl | rfl
          · refine lv_aload_n hx hb dX5_weight_49 rfl (lv_at hl 0 rfl) ?_
            refine g_get hC hP hm.1 rfl inX5 2 (by decide) q3_8 hm.2.2.2.1.1 dX5_weight_50 ?_
            refine lv_iconst (v := nI 4) hx hb dX5_weight_53 (by decide) ?_
            refine lv_iload_n hx hb dX5_weight_54 rfl (lv_at hl 1 rfl) ?_
            refine lv_imul hx hb dX5_weight_55 ?_
            refine g_topi (y := nI (4 * 0)) (nI_mul _ _) ?_
            refine lv_iload_n hx hb dX5_weight_56 rfl (lv_at hl 2 rfl) ?_
            refine lv_iadd hx hb dX5_weight_57 ?_
            refine g_topi (y := nI (4 * 0 + b)) (nI_add _ _) ?_
            refine g_iald hC hP hm.2.2.2.1.2 (vp_in_nI (by omega) (by decide)) dX5_weight_58 ?_
            refine g_topi (y := gsw0 st b) ((congrArg (I (h + 3)) (nI_clamp (by omega))).trans (by rw [show 4 * 0 + b = b from by omega]; exact hs0.2.2.2.2.2.2.1 b hb4)) ?_
            refine lv_istore (lv' := [(4, .int (gsw0 st b)), (0, .ref h), (1, .int (nI 0)), (2, .int (nI b)), (3, .int v)]) hx hb dX5_weight_59 hl (by decide) rfl (fun ls hl => ?_)
            refine lv_aload_n hx hb dX5_weight_61 rfl (lv_at hl 1 rfl) ?_
            refine g_get hC hP hm.1 rfl inX5 2 (by decide) q3_8 hm.2.2.2.1.1 dX5_weight_62 ?_
            refine lv_iconst (v := nI 4) hx hb dX5_weight_65 (by decide) ?_
            refine lv_iload_n hx hb dX5_weight_66 rfl (lv_at hl 2 rfl) ?_
            refine lv_imul hx hb dX5_weight_67 ?_
            refine g_topi (y := nI (4 * 0)) (nI_mul _ _) ?_
            refine lv_iload_n hx hb dX5_weight_68 rfl (lv_at hl 3 rfl) ?_
            refine lv_iadd hx hb dX5_weight_69 ?_
            refine g_topi (y := nI (4 * 0 + b)) (nI_add _ _) ?_
            refine lv_iload_n hx hb dX5_weight_70 rfl (lv_at hl 4 rfl) ?_
            refine g_iast hC hP hS hTA hm.2.2.2.1.2 (vp_in_nI (by omega) (by decide)) dX5_weight_71 (fun H8 locs9 hP hS hz11 => ?_)
            rw [show (nI (4 * 0 + b)).toNatClampNeg = 4 * 0 + b from nI_clamp (by omega)] at hP
            obtain ⟨I10, hI10, hP⟩ : ∃ X : gI, X = au I (h + 3) (4 * 0 + b) v ∧ gP G T X J Q O H8 := ⟨_, rfl, hP⟩
            refine lv_iload hx hb dX5_weight_72 (lv_at hl 0 rfl) ?_
            refine g_retci hC hS ?_ dX5_weight_74
            exact Or.inr (Or.inr (Or.inr ⟨b, hb4, rfl, Int32.not_lt.mpr c26, Int32.not_lt.mpr c39, Or.inl ⟨rfl, rfl, mo_w0 hm hs0 hb4 (by omega) hI10 hP⟩⟩))
          · refine lv_aload_n hx hb dX5_weight_49 rfl (lv_at hl 0 rfl) ?_
            refine g_get hC hP hm.1 rfl inX5 2 (by decide) q3_8 hm.2.2.2.1.1 dX5_weight_50 ?_
            refine lv_iconst (v := nI 4) hx hb dX5_weight_53 (by decide) ?_
            refine lv_iload_n hx hb dX5_weight_54 rfl (lv_at hl 1 rfl) ?_
            refine lv_imul hx hb dX5_weight_55 ?_
            refine g_topi (y := nI (4 * 1)) (nI_mul _ _) ?_
            refine lv_iload_n hx hb dX5_weight_56 rfl (lv_at hl 2 rfl) ?_
            refine lv_iadd hx hb dX5_weight_57 ?_
            refine g_topi (y := nI (4 * 1 + b)) (nI_add _ _) ?_
            refine g_iald hC hP hm.2.2.2.1.2 (vp_in_nI (by omega) (by decide)) dX5_weight_58 ?_
            refine g_topi (y := gsw1 st b) ((congrArg (I (h + 3)) (nI_clamp (by omega))).trans (by exact hs0.2.2.2.2.2.2.2.1 b hb4)) ?_
            refine lv_istore (lv' := [(4, .int (gsw1 st b)), (0, .ref h), (1, .int (nI 1)), (2, .int (nI b)), (3, .int v)]) hx hb dX5_weight_59 hl (by decide) rfl (fun ls hl => ?_)
            refine lv_aload_n hx hb dX5_weight_61 rfl (lv_at hl 1 rfl) ?_
            refine g_get hC hP hm.1 rfl inX5 2 (by decide) q3_8 hm.2.2.2.1.1 dX5_weight_62 ?_
            refine lv_iconst (v := nI 4) hx hb dX5_weight_65 (by decide) ?_
            refine lv_iload_n hx hb dX5_weight_66 rfl (lv_at hl 2 rfl) ?_
            refine lv_imul hx hb dX5_weight_67 ?_
            refine g_topi (y := nI (4 * 1)) (nI_mul _ _) ?_
            refine lv_iload_n hx hb dX5_weight_68 rfl (lv_at hl 3 rfl) ?_
            refine lv_iadd hx hb dX5_weight_69 ?_
            refine g_topi (y := nI (4 * 1 + b)) (nI_add _ _) ?_
            refine lv_iload_n hx hb dX5_weight_70 rfl (lv_at hl 4 rfl) ?_
            refine g_iast hC hP hS hTA hm.2.2.2.1.2 (vp_in_nI (by omega) (by decide)) dX5_weight_71 (fun H12 locs13 hP hS hz15 => ?_)
            rw [show (nI (4 * 1 + b)).toNatClampNeg = 4 * 1 + b from nI_clamp (by omega)] at hP
            obtain ⟨I14, hI14, hP⟩ : ∃ X : gI, X = au I (h + 3) (4 * 1 + b) v ∧ gP G T X J Q O H12 := ⟨_, rfl, hP⟩
            refine lv_iload hx hb dX5_weight_72 (lv_at hl 0 rfl) ?_
            refine g_retci hC hS ?_ dX5_weight_74
            exact Or.inr (Or.inr (Or.inr ⟨b, hb4, rfl, Int32.not_lt.mpr c26, Int32.not_lt.mpr c39, Or.inr ⟨rfl, rfl, mo_w1 hm hs0 hb4 (by omega) hI14 hP⟩⟩))
        · refine lv_aload_n hx hb dX5_weight_42 rfl (lv_at hl 0 rfl) ?_
          refine lv_bipush (v := (-6)) hx hb dX5_weight_43 (by decide) ?_
          refine g_cc (g_rV (As := [.int (-6 : Int32)]) hC hP (c_X5_refuse l hP (h := h) (q := (-6 : Int32)) (j := 6) (by first | assumption | omega) (by decide) (by omega)) hm.1 rfl ⟨q3_71, q3_68, q3_70, qs_25, q1_6⟩ dd_X5_refuse ⟨Nat.le_of_ble_eq_true rfl, Nat.le_of_ble_eq_true rfl, rfl, rfl⟩ hl.1 rfl (Nat.le_of_ble_eq_true rfl) dX5_weight_45 ⟨Nat.le_of_ble_eq_true rfl, Nat.le_of_ble_eq_true rfl⟩) hS (fun q h => h.elim (hTA q) (fun z => hA q (Nat.le_trans hS.1 z))) (fun r20 H16 locs17 hq21 hS hz18 hfr19 => ?_)
          obtain ⟨rfl, hP⟩ := hq21
          obtain ⟨I22, hI22, hP⟩ : ∃ I22 : gI, I22 = au I (h + 4) 6 (I (h + 4) 6 + 1) ∧ gP G T I22 J Q O H16 := ⟨_, rfl, hP⟩
          refine W.eq (g2 := F0 m 48 ls [.int (-6 : Int32)]) rfl ?_
          refine g_retci hC hS ?_ dX5_weight_48
          exact Or.inr (Or.inr (Or.inl ⟨(by unfold wtOK; rw [c4, c16]; rfl), Int32.not_lt.mpr c26, Int32.not_le.mp c39, rfl, mo_ref hm hs0 (j := 6) (by decide) hI22 hP⟩))
      · refine lv_aload_n hx hb dX5_weight_29 rfl (lv_at hl 0 rfl) ?_
        refine lv_bipush (v := (-4)) hx hb dX5_weight_30 (by decide) ?_
        refine g_cc (g_rV (As := [.int (-4 : Int32)]) hC hP (c_X5_refuse l hP (h := h) (q := (-4 : Int32)) (j := 4) (by first | assumption | omega) (by decide) (by omega)) hm.1 rfl ⟨q3_71, q3_68, q3_70, qs_25, q1_6⟩ dd_X5_refuse ⟨Nat.le_of_ble_eq_true rfl, Nat.le_of_ble_eq_true rfl, rfl, rfl⟩ hl.1 rfl (Nat.le_of_ble_eq_true rfl) dX5_weight_32 ⟨Nat.le_of_ble_eq_true rfl, Nat.le_of_ble_eq_true rfl⟩) hS (fun q h => h.elim (hTA q) (fun z => hA q (Nat.le_trans hS.1 z))) (fun r27 H23 locs24 hq28 hS hz25 hfr26 => ?_)
        obtain ⟨rfl, hP⟩ := hq28
        obtain ⟨I29, hI29, hP⟩ : ∃ I29 : gI, I29 = au I (h + 4) 4 (I (h + 4) 4 + 1) ∧ gP G T I29 J Q O H23 := ⟨_, rfl, hP⟩
        refine W.eq (g2 := F0 m 35 ls [.int (-4 : Int32)]) rfl ?_
        refine g_retci hC hS ?_ dX5_weight_35
        exact Or.inr (Or.inl ⟨(by unfold wtOK; rw [c4, c16]; rfl), Int32.not_le.mp c26, rfl, mo_ref hm hs0 (j := 4) (by decide) hI29 hP⟩)
    · have c16 := gb_f c16
      rw [inL_4] at c16
      refine lv_aload_n hx hb dX5_weight_19 rfl (lv_at hl 0 rfl) ?_
      refine lv_iconst (v := (-1)) hx hb dX5_weight_20 (by decide) ?_
      refine g_cc (g_rV (As := [.int (-1 : Int32)]) hC hP (c_X5_refuse l hP (h := h) (q := (-1 : Int32)) (j := 1) (by first | assumption | omega) (by decide) (by omega)) hm.1 rfl ⟨q3_71, q3_68, q3_70, qs_25, q1_6⟩ dd_X5_refuse ⟨Nat.le_of_ble_eq_true rfl, Nat.le_of_ble_eq_true rfl, rfl, rfl⟩ hl.1 rfl (Nat.le_of_ble_eq_true rfl) dX5_weight_21 ⟨Nat.le_of_ble_eq_true rfl, Nat.le_of_ble_eq_true rfl⟩) hS (fun q h => h.elim (hTA q) (fun z => hA q (Nat.le_trans hS.1 z))) (fun r34 H30 locs31 hq35 hS hz32 hfr33 => ?_)
      obtain ⟨rfl, hP⟩ := hq35
      obtain ⟨I36, hI36, hP⟩ : ∃ I36 : gI, I36 = au I (h + 4) 1 (I (h + 4) 1 + 1) ∧ gP G T I36 J Q O H30 := ⟨_, rfl, hP⟩
      refine W.eq (g2 := F0 m 24 ls [.int (-1 : Int32)]) rfl ?_
      refine g_retci hC hS ?_ dX5_weight_24
      exact Or.inl ⟨(by unfold wtOK; first | (rw [c4]; rfl) | (rw [c16, Bool.and_false])), rfl, mo_ref hm hs0 (j := 1) (by decide) hI36 hP⟩
