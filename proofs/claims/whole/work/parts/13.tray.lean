/-! ===== the tray, dropping, corners by number ===== -/
def trX (I : gI) (J : gJ) (b ch : Nat) : Nat → Int64 := trayX (J (b + 11 + 1)) (I (b + 10)) ch 4
def trJ (I : gI) (J : gJ) (b ch : Nat) : gJ := gu J (b + 11 + 1) (trX I J b ch)
def trO1 (I : gI) (J : gJ) (O : gO) (b ch : Nat) : gO := au (au O (b + 11) 1 (.long (tsum (trX I J b ch) 4))) (b + 11) 2 (.int (nI (usedB (trX I J b ch) 4)))
def trO2 (I : gI) (J : gJ) (O : gO) (b ch d dh : Nat) : gO := au (trO1 I J O b ch) (b + 11) 3 (.int (nI (ansB (I (d + 9)) (trX I J b ch) dh)))
def trayPost (G : gG) (T : gTy) (I : gI) (J : gJ) (Q : gR) (O : gO) (b ch d dh : Nat) (r : Option Value) (H1 : Heap) : Prop :=
  (tsum (trX I J b ch) 4 = 0 ∧ r = some .null ∧ gP G T I (trJ I J b ch) Q (trO1 I J O b ch) H1) ∨ (¬ tsum (trX I J b ch) 4 = 0 ∧ r = some (.ref (b + 11)) ∧ gP G T I (trJ I J b ch) Q (trO2 I J O b ch d dh) H1)
/-- dropping: choices left of both, and rounds -/
def dropF (P P' : Nat → Int32) : Nat → Nat → Nat → Nat → Nat × Nat × Nat
  | 0, A, B, k => (A, B, k)
  | f + 1, A, B, k => if nWor P A B = A ∧ nWor P' B A = B then (A, B, k) else dropF P P' f (nWor P A B) (nWor P' B A) (k + 1)
def isDr (T : gTy) (D : Nat) : Prop := T D = (1, 1)
set_option maxHeartbeats 4000000 in
set_option maxRecDepth 100000 in
theorem c_X3_trayMix (l : Launch) {G : gG} {T : gTy} {I : gI} {J : gJ} {Q : gR} {O : gO} {H : Heap} (hP : gP G T I J Q O H) {b ch d dh : Nat} (hpl : isPl T O b ch) (hpk : isPl T O d dh) (hmt : isMx T O (b + 11)) : Met l yX3_trayMix (gw yX3_trayMix cX3_trayMix 3 (some (.object "GameTables$Mix"))) ({ frames := 3, cells := 0, slots := 0, locals := 74 } : Room) (gPc G H [.ref b, .ref d]) (gQc (gF T H) (trayPost G T I J Q O b ch d dh)) 0 0 (gF T H) := by
  refine g_met [(0, .ref b), (1, .ref d)] (by decide) rfl (by exact Nat.le_of_ble_eq_true rfl) ?_
  intro p e s m below meth c hC hs ls hl
  have hx := hC.1.1
  have hb := hC.1.2.1
  have hS : va_S (gF T H) s.heap H [] := hs ▸ va_S.rf
  have hTA : ∀ q, (T q).1 ≠ 0 → gF T H q := fun q h => Or.inl h
  have hA : ∀ q, s.heap.size ≤ q → gF T H q := fun q h => Or.inr (hs ▸ h)
  generalize hAe : gF T H = A at hS hTA hA ⊢
  have hpl_lo := hpl.2.2.2.2.2.2.2.2.1
  have hpl_hi := hpl.2.2.2.2.2.2.2.2.2
  have hpk_lo := hpk.2.2.2.2.2.2.2.2.1
  have hpk_hi := hpk.2.2.2.2.2.2.2.2.2
  refine lv_iconst (v := nI 0) hx hb dX3_trayMix_0 (by decide) ?_
  refine lv_istore_n (lv' := [(2, .int (nI 0)), (0, .ref b), (1, .ref d)]) hx hb dX3_trayMix_1 rfl hl (by decide) rfl (fun ls hl => ?_)
  have L2 : ∀ (n2 : Nat) (i : Nat) (J2 : gJ), 5 ≤ n2 + i → (i ≤ 4) → (J2 = gu J (b + 11 + 1) (trayX (J (b + 11 + 1)) (I (b + 10)) ch i)) → ∀ (Hl : Heap) (lcl : List Loc), gP G T I J2 Q O Hl → va_S A s.heap Hl lcl → ∀ ls : Array Slot, lv_has ls 3 [(0, .ref b), (1, .ref d), (2, .int (nI i))] → W p l e ({ frames := 3, cells := 0, slots := 0, locals := 74 } : Room) s m [.ref b, .ref d].toArray below meth c Hl lcl 0 0 (MQ below (gQc A (trayPost G T I J Q O b ch d dh)) [.ref b, .ref d].toArray s 0 0 A) (F0 m 2 ls []) := by
    intro n2
    induction n2 with
    | zero => intro i J2 hn2 hi h1; exact absurd hn2 (by omega)
    | succ n2 ih2 =>
      intro i J2 hn2 hi h1 Hl lcl hP hS ls hl
      refine lv_iload_n hx hb dX3_trayMix_2 rfl (lv_at hl 2 rfl) ?_
      refine lv_iconst (v := nI 4) hx hb dX3_trayMix_3 (by decide) ?_
      refine lv_icmp_ge (tgt := 41) hx hb dX3_trayMix_4 (by decide) (fun c4 => ?_) (fun c4 => ?_)
      · have c4 := (nI_leI (by omega) (by omega)).mp c4
        refine lv_aload_n hx hb dX3_trayMix_41 rfl (lv_at hl 0 rfl) ?_
        refine g_get hC hP hpl.1 rfl inX3 4 (by decide) q1_83 hpl.2.2.2.2.2.1 dX3_trayMix_42 ?_
        refine g_cc (g_rV (As := []) hC hP (c_X2_sumUp l hP (x := b + 11) (by first | assumption | omega)) hmt.1 rfl ⟨q1_207, q1_204, q1_205, q1_206, q1_4⟩ dd_X2_sumUp ⟨Nat.le_of_ble_eq_true rfl, Nat.le_of_ble_eq_true rfl, rfl, rfl⟩ hl.1 rfl (Nat.le_of_ble_eq_true rfl) dX3_trayMix_45 ⟨Nat.le_of_ble_eq_true rfl, Nat.le_of_ble_eq_true rfl⟩) hS (fun q h => h.elim (hTA q) (fun z => hA q (Nat.le_trans hS.1 z))) (fun r5 H1 locs2 hq6 hS hz3 hfr4 => ?_)
        obtain ⟨rfl, hP⟩ := hq6
        obtain ⟨O7, hO7, O8, hO8, hP⟩ : ∃ O7 : gO, O7 = au O (b + 11) 1 (.long (tsum (J2 ((b + 11) + 1)) 4)) ∧ ∃ O8 : gO, O8 = au O7 (b + 11) 2 (.int (nI (usedB (J2 ((b + 11) + 1)) 4))) ∧ gP G T I J2 Q O8 H1 := ⟨_, rfl, _, rfl, hP⟩
        refine W.eq (g2 := F0 m 48 ls []) rfl ?_
        refine lv_aload_n hx hb dX3_trayMix_48 rfl (lv_at hl 0 rfl) ?_
        have ho9 : O7 b 4 = .ref (b + 11) := by rw [hO7, au_ne _ _ _ (ne_of_T hpl.1 hmt.1 (by decide))]; exact hpl.2.2.2.2.2.1
        have ho10 : O8 b 4 = .ref (b + 11) := by rw [hO8, au_ne _ _ _ (ne_of_T hpl.1 hmt.1 (by decide))]; exact ho9
        refine g_get hC hP hpl.1 rfl inX3 4 (by decide) q1_83 ho10 dX3_trayMix_49 ?_
        have ho11 : O7 (b + 11) 1 = .long (tsum (J2 ((b + 11) + 1)) 4) := by rw [hO7, au_row, gu_eq]
        have ho12 : O8 (b + 11) 1 = .long (tsum (J2 ((b + 11) + 1)) 4) := by rw [hO8, au_row, gu_ne _ _ (by decide)]; exact ho11
        refine g_get hC hP hmt.1 rfl inX2 1 (by decide) q1_41 ho12 dX3_trayMix_52 ?_
        refine lv_lconst (v := 0) hx hb dX3_trayMix_55 (by decide) ?_
        refine W.lcmp hx hb dX3_trayMix_56 ?_
        refine lv_if_ne (tgt := 62) hx hb dX3_trayMix_57 (by decide) (fun c57 => ?_) (fun c57 => ?_)
        · have c57 := mt (lg_cmp_eq _ _).mpr c57
          have hk13 : isPl T O7 d dh := isPl_au hpk hO7 (ne_of_T hpk.1 hmt.1 (by decide))
          have hk14 : isPl T O8 d dh := isPl_au hk13 hO8 (ne_of_T hpk.1 hmt.1 (by decide))
          have hk15 : isMx T O7 (b + 11) := isMx_au hmt hO7 (Or.inr (by decide))
          have hk16 : isMx T O8 (b + 11) := isMx_au hk15 hO8 (Or.inr (by decide))
          refine lv_aload_n hx hb dX3_trayMix_62 rfl (lv_at hl 0 rfl) ?_
          refine g_get hC hP hpl.1 rfl inX3 4 (by decide) q1_83 ho10 dX3_trayMix_63 ?_
          refine lv_aload_n hx hb dX3_trayMix_66 rfl (lv_at hl 1 rfl) ?_
          refine lv_aload_n hx hb dX3_trayMix_67 rfl (lv_at hl 0 rfl) ?_
          refine g_get hC hP hpl.1 rfl inX3 4 (by decide) q1_83 ho10 dX3_trayMix_68 ?_
          have ho17 : O7 d 0 = .int (nI dh) := by rw [hO7, au_ne _ _ _ (ne_of_T hpk.1 hmt.1 (by decide))]; exact hpk.2.1
          have ho18 : O8 d 0 = .int (nI dh) := by rw [hO8, au_ne _ _ _ (ne_of_T hpk.1 hmt.1 (by decide))]; exact ho17
          refine g_cp (g_rV (As := [.ref (b + 11)]) hC hP (c_X3_answersTo l hP (b := d) (ch := dh) (x := b + 11) (by first | assumption | omega) (by first | assumption | omega)) hpk.1 rfl ⟨q1_211, q1_208, q1_209, q1_210, q1_2⟩ dd_X3_answersTo ⟨Nat.le_of_ble_eq_true rfl, Nat.le_of_ble_eq_true rfl, rfl, rfl⟩ hl.1 rfl (Nat.le_of_ble_eq_true rfl) dX3_trayMix_71 ⟨Nat.le_of_ble_eq_true rfl, Nat.le_of_ble_eq_true rfl⟩) ?_
          refine W.eq (g2 := F0 m 74 ls [.int (nI (ansB (I (d + 9)) (J2 ((b + 11) + 1)) dh)), .ref (b + 11)]) rfl ?_
          refine g_put hC hP hS hTA hmt.1 rfl inX2 tyX2 tyX2_ok nmX2 3 (by decide) q1_48 rfl (ty := tyX2 3) (by decide) rfl rfl dX3_trayMix_74 (fun H19 locs20 hP hS hz22 => ?_)
          obtain ⟨O21, hO21, hP⟩ : ∃ X : gO, X = au O8 (b + 11) 3 (.int (nI (ansB (I (d + 9)) (J2 ((b + 11) + 1)) dh))) ∧ gP G T I J2 Q X H19 := ⟨_, rfl, hP⟩
          refine lv_aload_n hx hb dX3_trayMix_77 rfl (lv_at hl 0 rfl) ?_
          have ho23 : O21 b 4 = .ref (b + 11) := by rw [hO21, au_ne _ _ _ (ne_of_T hpl.1 hmt.1 (by decide))]; exact ho10
          refine g_get hC hP hpl.1 rfl inX3 4 (by decide) q1_83 ho23 dX3_trayMix_78 ?_
          refine g_retca hC hS (Or.inr ⟨_, rfl⟩) ?_ dX3_trayMix_81
          have e4 : i = 4 := by omega
          subst e4
          subst h1
          exact Or.inr ⟨by simpa [trX, gu_eq] using c57, rfl, by simpa [*, trJ, trO1, trO2, trX, gu_eq] using hP⟩
        · have c57 := (lg_cmp_eq _ _).mp c57
          refine lv_null hx hb dX3_trayMix_60 ?_
          refine g_retca hC hS (Or.inl rfl) ?_ dX3_trayMix_61
          have e4 : i = 4 := by omega
          subst e4
          subst h1
          exact Or.inl ⟨by simpa [trX, gu_eq] using c57, rfl, by simpa [*, trJ, trO1, trX, gu_eq] using hP⟩
      · have c4 := mt (nI_leI (by omega) (by omega)).mpr c4
        refine lv_aload_n hx hb dX3_trayMix_7 rfl (lv_at hl 0 rfl) ?_
        refine g_get hC hP hpl.1 rfl inX3 4 (by decide) q1_83 hpl.2.2.2.2.2.1 dX3_trayMix_8 ?_
        refine g_get hC hP hmt.1 rfl inX2 0 (by decide) q1_37 hmt.2.1 dX3_trayMix_11 ?_
        refine lv_iload_n hx hb dX3_trayMix_14 rfl (lv_at hl 2 rfl) ?_
        refine lv_iload_n hx hb dX3_trayMix_15 rfl (lv_at hl 2 rfl) ?_
        refine lv_aload_n hx hb dX3_trayMix_16 rfl (lv_at hl 0 rfl) ?_
        refine g_get hC hP hpl.1 rfl inX3 0 (by decide) q1_77 hpl.2.1 dX3_trayMix_17 ?_
        refine lv_icmp_ge (tgt := 33) hx hb dX3_trayMix_20 (by decide) (fun c20 => ?_) (fun c20 => ?_)
        · have c20 := (nI_leI (by omega) (by omega)).mp c20
          refine lv_lconst (v := 0) hx hb dX3_trayMix_33 (by decide) ?_
          refine g_last hC hP hS hTA hmt.2.2 (vp_in_nI (by omega) (by decide)) dX3_trayMix_34 (fun H24 locs25 hP hS hz27 => ?_)
          rw [show (nI i).toNatClampNeg = i from nI_clamp (by omega)] at hP
          obtain ⟨J26, hJ26, hP⟩ : ∃ X : gJ, X = au J2 ((b + 11) + 1) i (0 : Int64) ∧ gP G T I X Q O H24 := ⟨_, rfl, hP⟩
          refine lv_iinc (v := nI (i + 1)) (lv' := [(2, .int (nI (i + 1))), (0, .ref b), (1, .ref d)]) hx hb dX3_trayMix_35 hl (k := 2) rfl (nI_inc _) (by decide) rfl (fun ls hl => ?_)
          refine lv_goto (tgt := 2) hx hb dX3_trayMix_38 (by decide) ?_
          exact ih2 (i + 1) J26 (by omega) (by omega) (by rw [hJ26, h1, au_gu, ← trayX_s]; first | rw [if_pos (by omega)] | rw [if_neg (by omega)]) _ _ hP hS ls (lv_sub hl [1, 2, 0] rfl)
        · have c20 := mt (nI_leI (by omega) (by omega)).mpr c20
          refine lv_aload_n hx hb dX3_trayMix_23 rfl (lv_at hl 0 rfl) ?_
          refine g_get hC hP hpl.1 rfl inX3 3 (by decide) q1_82 hpl.2.2.2.2.1 dX3_trayMix_24 ?_
          refine lv_iload_n hx hb dX3_trayMix_27 rfl (lv_at hl 2 rfl) ?_
          refine g_iald hC hP hpl.2.2.2.2.2.2.2.1 (vp_in_nI (by omega) (by decide)) dX3_trayMix_28 ?_
          refine g_topi (y := I (b + 10) i) (congrArg (I (b + 10)) (nI_clamp (by omega))) ?_
          refine lv_i2l hx hb dX3_trayMix_29 rfl ?_
          refine lv_goto (tgt := 34) hx hb dX3_trayMix_30 (by decide) ?_
          refine g_last hC hP hS hTA hmt.2.2 (vp_in_nI (by omega) (by decide)) dX3_trayMix_34 (fun H28 locs29 hP hS hz31 => ?_)
          rw [show (nI i).toNatClampNeg = i from nI_clamp (by omega)] at hP
          obtain ⟨J30, hJ30, hP⟩ : ∃ X : gJ, X = au J2 ((b + 11) + 1) i ((I (b + 10) i).toInt64) ∧ gP G T I X Q O H28 := ⟨_, rfl, hP⟩
          refine lv_iinc (v := nI (i + 1)) (lv' := [(2, .int (nI (i + 1))), (0, .ref b), (1, .ref d)]) hx hb dX3_trayMix_35 hl (k := 2) rfl (nI_inc _) (by decide) rfl (fun ls hl => ?_)
          refine lv_goto (tgt := 2) hx hb dX3_trayMix_38 (by decide) ?_
          exact ih2 (i + 1) J30 (by omega) (by omega) (by rw [hJ30, h1, au_gu, ← trayX_s]; first | rw [if_pos (by omega)] | rw [if_neg (by omega)]) _ _ hP hS ls (lv_sub hl [1, 2, 0] rfl)
  exact L2 5 0 J (by omega) (by omega) (by rw [show trayX (J (b + 11 + 1)) (I (b + 10)) ch 0 = J (b + 11 + 1) from funext fun j => by simp [trayX], gu_self]) _ _ hP hS ls (lv_sub hl [1, 2, 0] rfl)
theorem pow1_lt {ch : Nat} (h : ch ≤ 4) : 2 ^ ch - 1 < 16 := by
  have : ∀ ch, ch ≤ 4 → 2 ^ ch - 1 < 16 := by decide
  exact this ch h
def drO (O : gO) (D A B k : Nat) : gO := au (au (au O D 0 (.int (nI A))) D 1 (.int (nI B))) D 2 (.int (nI k))
theorem drO_3 (O : gO) (D A B k A' B' k' : Nat) : au (au (au (drO O D A B k) D 2 (.int (nI k'))) D 0 (.int (nI A'))) D 1 (.int (nI B')) = drO O D A' B' k' := by
  unfold drO au
  simp only [gu_eq, gu_gu]
  congr 1
  funext j
  simp only [gu]
  repeat' split
  all_goals first | rfl | omega
theorem drO_2 (O : gO) (D A B k A' B' : Nat) : au (au (drO O D A B k) D 0 (.int (nI A'))) D 1 (.int (nI B')) = drO O D A' B' k := by
  unfold drO au
  simp only [gu_eq, gu_gu]
  congr 1
  funext j
  simp only [gu]
  repeat' split
  all_goals first | rfl | omega
theorem drO_pl {T : gTy} {O O' : gO} {D A B k b ch : Nat} (h : isPl T O b ch) (hO : O' = drO O D A B k) (hne : b ≠ D) : isPl T O' b ch := isPl_au (isPl_au (isPl_au h rfl hne) rfl hne) hO hne
set_option maxHeartbeats 4000000 in
set_option maxRecDepth 100000 in
theorem c_X1_run (l : Launch) {G : gG} {T : gTy} {I : gI} {J : gJ} {Q : gR} {O : gO} {H : Heap} (hP : gP G T I J Q O H) {D b ch d dh : Nat} (hdr : isDr T D) (hpl : isPl T O b ch) (hpk : isPl T O d dh) : Met l yX1_run (gw yX1_run cX1_run 7 (none)) ({ frames := 4, cells := 0, slots := 0, locals := 94 } : Room) (gPc G H [.ref D, .ref b, .ref d]) (gQc (gF T H) (fun r H1 => r = none ∧ gP G T I J Q (drO O D (dropF (I (b + 9)) (I (d + 9)) 8 (2 ^ ch - 1) (2 ^ dh - 1) 0).1 (dropF (I (b + 9)) (I (d + 9)) 8 (2 ^ ch - 1) (2 ^ dh - 1) 0).2.1 (dropF (I (b + 9)) (I (d + 9)) 8 (2 ^ ch - 1) (2 ^ dh - 1) 0).2.2) H1)) 0 0 (gF T H) := by
  refine g_met [(0, .ref D), (1, .ref b), (2, .ref d)] (by decide) rfl (by exact Nat.le_of_ble_eq_true rfl) ?_
  intro p e s m below meth c hC hs ls hl
  have hx := hC.1.1
  have hb := hC.1.2.1
  have hS : va_S (gF T H) s.heap H [] := hs ▸ va_S.rf
  have hTA : ∀ q, (T q).1 ≠ 0 → gF T H q := fun q h => Or.inl h
  have hA : ∀ q, s.heap.size ≤ q → gF T H q := fun q h => Or.inr (hs ▸ h)
  generalize hAe : gF T H = A at hS hTA hA ⊢
  have hpl_lo := hpl.2.2.2.2.2.2.2.2.1
  have hpl_hi := hpl.2.2.2.2.2.2.2.2.2
  have hpk_lo := hpk.2.2.2.2.2.2.2.2.1
  have hpk_hi := hpk.2.2.2.2.2.2.2.2.2
  have hp1 := pow1_lt hpl_hi
  have hp2 := pow1_lt hpk_hi
  have nb : b ≠ D := ne_of_T hpl.1 hdr (by decide)
  have nd : d ≠ D := ne_of_T hpk.1 hdr (by decide)
  refine lv_aload_n hx hb dX1_run_0 rfl (lv_at hl 0 rfl) ?_
  refine lv_aload_n hx hb dX1_run_1 rfl (lv_at hl 1 rfl) ?_
  refine g_cp (g_rV (As := []) hC hP (c_X3_allBits l hP (b := b) (ch := ch) (by first | assumption | omega)) hpl.1 rfl ⟨q2_19, q2_37, q2_17, q2_18, q1_2⟩ dd_X3_allBits ⟨Nat.le_of_ble_eq_true rfl, Nat.le_of_ble_eq_true rfl, rfl, rfl⟩ hl.1 rfl (Nat.le_of_ble_eq_true rfl) dX1_run_2 ⟨Nat.le_of_ble_eq_true rfl, Nat.le_of_ble_eq_true rfl⟩) ?_
  refine W.eq (g2 := F0 m 5 ls [.int (nI (2 ^ ch - 1)), .ref D]) rfl ?_
  refine g_put hC hP hS hTA hdr rfl inX1 tyX1 tyX1_ok nmX1 0 (by decide) q1_102 rfl (ty := tyX1 0) (by decide) rfl rfl dX1_run_5 (fun H1 locs2 hP hS hz4 => ?_)
  obtain ⟨O3, hO3, hP⟩ : ∃ X : gO, X = au O D 0 (.int (nI (2 ^ ch - 1))) ∧ gP G T I J Q X H1 := ⟨_, rfl, hP⟩
  have hk5 : isPl T O3 b ch := isPl_au hpl hO3 (ne_of_T hpl.1 hdr (by decide))
  have hk6 : isPl T O3 d dh := isPl_au hpk hO3 (ne_of_T hpk.1 hdr (by decide))
  refine lv_aload_n hx hb dX1_run_8 rfl (lv_at hl 0 rfl) ?_
  refine lv_aload_n hx hb dX1_run_9 rfl (lv_at hl 2 rfl) ?_
  have ho7 : O3 d 0 = .int (nI dh) := by rw [hO3, au_ne _ _ _ (ne_of_T hpk.1 hdr (by decide))]; exact hpk.2.1
  refine g_cp (g_rV (As := []) hC hP (c_X3_allBits l hP (b := d) (ch := dh) (by first | assumption | omega)) hpk.1 rfl ⟨q2_19, q2_37, q2_17, q2_18, q1_2⟩ dd_X3_allBits ⟨Nat.le_of_ble_eq_true rfl, Nat.le_of_ble_eq_true rfl, rfl, rfl⟩ hl.1 rfl (Nat.le_of_ble_eq_true rfl) dX1_run_10 ⟨Nat.le_of_ble_eq_true rfl, Nat.le_of_ble_eq_true rfl⟩) ?_
  refine W.eq (g2 := F0 m 13 ls [.int (nI (2 ^ dh - 1)), .ref D]) rfl ?_
  refine g_put hC hP hS hTA hdr rfl inX1 tyX1 tyX1_ok nmX1 1 (by decide) q1_104 rfl (ty := tyX1 1) (by decide) rfl rfl dX1_run_13 (fun H8 locs9 hP hS hz11 => ?_)
  obtain ⟨O10, hO10, hP⟩ : ∃ X : gO, X = au O3 D 1 (.int (nI (2 ^ dh - 1))) ∧ gP G T I J Q X H8 := ⟨_, rfl, hP⟩
  refine lv_aload_n hx hb dX1_run_16 rfl (lv_at hl 0 rfl) ?_
  refine lv_iconst (v := nI 0) hx hb dX1_run_17 (by decide) ?_
  refine g_put hC hP hS hTA hdr rfl inX1 tyX1 tyX1_ok nmX1 2 (by decide) q1_106 rfl (ty := tyX1 2) (by decide) rfl rfl dX1_run_18 (fun H12 locs13 hP hS hz15 => ?_)
  obtain ⟨O14, hO14, hP⟩ : ∃ X : gO, X = au O10 D 2 (.int (nI 0)) ∧ gP G T I J Q X H12 := ⟨_, rfl, hP⟩
  refine lv_iconst (v := nI 1) hx hb dX1_run_21 (by decide) ?_
  refine lv_istore_n (lv' := [(3, .int (nI 1)), (0, .ref D), (1, .ref b), (2, .ref d)]) hx hb dX1_run_22 rfl hl (by decide) rfl (fun ls hl => ?_)
  refine lv_iconst (v := nI 0) hx hb dX1_run_23 (by decide) ?_
  refine lv_istore (lv' := [(4, .int (nI 0)), (3, .int (nI 1)), (0, .ref D), (1, .ref b), (2, .ref d)]) hx hb dX1_run_24 hl (by decide) rfl (fun ls hl => ?_)
  have L26 : ∀ (n26 : Nat) (i : Nat) (dr : Bool) (A2 : Nat) (B2 : Nat) (kk : Nat) (O2 : gO), 9 ≤ n26 + i → (i ≤ 8 ∧ A2 < 16 ∧ B2 < 16 ∧ kk ≤ i) → (O2 = drO O D A2 B2 kk) → (if dr then dropF (I (b + 9)) (I (d + 9)) (8 - i) A2 B2 kk = dropF (I (b + 9)) (I (d + 9)) 8 (2 ^ ch - 1) (2 ^ dh - 1) 0 else (A2, B2, kk) = dropF (I (b + 9)) (I (d + 9)) 8 (2 ^ ch - 1) (2 ^ dh - 1) 0) → ∀ (Hl : Heap) (lcl : List Loc), gP G T I J Q O2 Hl → va_S A s.heap Hl lcl → ∀ ls : Array Slot, lv_has ls 7 [(0, .ref D), (1, .ref b), (2, .ref d), (3, .int (gb dr)), (4, .int (nI i))] → W p l e ({ frames := 4, cells := 0, slots := 0, locals := 94 } : Room) s m [.ref D, .ref b, .ref d].toArray below meth c Hl lcl 0 0 (MQ below (gQc A (fun r H1 => r = none ∧ gP G T I J Q (drO O D (dropF (I (b + 9)) (I (d + 9)) 8 (2 ^ ch - 1) (2 ^ dh - 1) 0).1 (dropF (I (b + 9)) (I (d + 9)) 8 (2 ^ ch - 1) (2 ^ dh - 1) 0).2.1 (dropF (I (b + 9)) (I (d + 9)) 8 (2 ^ ch - 1) (2 ^ dh - 1) 0).2.2) H1)) [.ref D, .ref b, .ref d].toArray s 0 0 A) (F0 m 26 ls []) := by
    intro n26
    induction n26 with
    | zero => intro i dr A2 B2 kk O2 hn26 hi h1 h2; exact absurd hn26 (by omega)
    | succ n26 ih26 =>
      intro i dr A2 B2 kk O2 hn26 hi h1 h2 Hl lcl hP hS ls hl
      have f0 : O2 D 0 = .int (nI A2) := by rw [h1]; simp [drO, au, gu]
      have f1 : O2 D 1 = .int (nI B2) := by rw [h1]; simp [drO, au, gu]
      have f2 : O2 D 2 = .int (nI kk) := by rw [h1]; simp [drO, au, gu]
      have n1 := @nWor_lt (I (b + 9)) A2 B2
      have n2 := @nWor_lt (I (d + 9)) B2 A2
      have hplO : isPl T O2 b ch := drO_pl hpl h1 nb
      have hpkO : isPl T O2 d dh := drO_pl hpk h1 nd
      refine lv_iload hx hb dX1_run_26 (lv_at hl 4 rfl) ?_
      refine lv_bipush (v := nI 8) hx hb dX1_run_28 (by decide) ?_
      refine lv_icmp_ge (tgt := 121) hx hb dX1_run_30 (by decide) (fun c30 => ?_) (fun c30 => ?_)
      · have c30 := (nI_leI (by omega) (by omega)).mp c30
        refine g_retcv hC hS ?_ dX1_run_121
        refine ⟨rfl, ?_⟩
        have e : (A2, B2, kk) = dropF (I (b + 9)) (I (d + 9)) 8 (2 ^ ch - 1) (2 ^ dh - 1) 0 := by first | (simp only [c34, Bool.false_eq_true, if_false] at h2; exact h2) | (have e8 : i = 8 := (by omega); subst e8; cases dr <;> exact h2)
        rw [← e]
        subst h1
        exact hP
      · have c30 := mt (nI_leI (by omega) (by omega)).mpr c30
        refine lv_iload_n hx hb dX1_run_33 rfl (lv_at hl 3 rfl) ?_
        refine lv_if_eq (tgt := 121) hx hb dX1_run_34 (by decide) (fun c34 => ?_) (fun c34 => ?_)
        · have c34 := gb_f c34
          refine g_retcv hC hS ?_ dX1_run_121
          refine ⟨rfl, ?_⟩
          have e : (A2, B2, kk) = dropF (I (b + 9)) (I (d + 9)) 8 (2 ^ ch - 1) (2 ^ dh - 1) 0 := by first | (simp only [c34, Bool.false_eq_true, if_false] at h2; exact h2) | (have e8 : i = 8 := (by omega); subst e8; cases dr <;> exact h2)
          rw [← e]
          subst h1
          exact hP
        · have c34 := gb_t c34
          refine lv_aload_n hx hb dX1_run_37 rfl (lv_at hl 1 rfl) ?_
          refine lv_aload_n hx hb dX1_run_38 rfl (lv_at hl 0 rfl) ?_
          refine g_get hC hP hdr rfl inX1 0 (by decide) q1_102 f0 dX1_run_39 ?_
          refine lv_aload_n hx hb dX1_run_42 rfl (lv_at hl 0 rfl) ?_
          refine g_get hC hP hdr rfl inX1 1 (by decide) q1_104 f1 dX1_run_43 ?_
          refine g_cp (g_rV (As := [.int (nI A2), .int (nI B2)]) hC hP (c_X3_notWorse l hP (b := b) (ch := ch) (A := A2) (B := B2) (by first | assumption | omega) (by first | assumption | omega) (by first | assumption | omega)) hpl.1 rfl ⟨q2_41, q2_38, q2_39, q2_40, q1_2⟩ dd_X3_notWorse ⟨Nat.le_of_ble_eq_true rfl, Nat.le_of_ble_eq_true rfl, rfl, rfl⟩ hl.1 rfl (Nat.le_of_ble_eq_true rfl) dX1_run_46 ⟨Nat.le_of_ble_eq_true rfl, Nat.le_of_ble_eq_true rfl⟩) ?_
          refine W.eq (g2 := F0 m 49 ls [.int (nI (nWor (I (b + 9)) A2 B2))]) rfl ?_
          refine lv_istore (lv' := [(5, .int (nI (nWor (I (b + 9)) A2 B2))), (0, .ref D), (1, .ref b), (2, .ref d), (3, .int (gb dr)), (4, .int (nI i))]) hx hb dX1_run_49 hl (by decide) rfl (fun ls hl => ?_)
          refine lv_aload_n hx hb dX1_run_51 rfl (lv_at hl 3 rfl) ?_
          refine lv_aload_n hx hb dX1_run_52 rfl (lv_at hl 1 rfl) ?_
          refine g_get hC hP hdr rfl inX1 1 (by decide) q1_104 f1 dX1_run_53 ?_
          refine lv_aload_n hx hb dX1_run_56 rfl (lv_at hl 1 rfl) ?_
          refine g_get hC hP hdr rfl inX1 0 (by decide) q1_102 f0 dX1_run_57 ?_
          refine g_cp (g_rV (As := [.int (nI B2), .int (nI A2)]) hC hP (c_X3_notWorse l hP (b := d) (ch := dh) (A := B2) (B := A2) (by first | assumption | omega) (by first | assumption | omega) (by first | assumption | omega)) hpk.1 rfl ⟨q2_41, q2_38, q2_39, q2_40, q1_2⟩ dd_X3_notWorse ⟨Nat.le_of_ble_eq_true rfl, Nat.le_of_ble_eq_true rfl, rfl, rfl⟩ hl.1 rfl (Nat.le_of_ble_eq_true rfl) dX1_run_60 ⟨Nat.le_of_ble_eq_true rfl, Nat.le_of_ble_eq_true rfl⟩) ?_
          refine W.eq (g2 := F0 m 63 ls [.int (nI (nWor (I (d + 9)) B2 A2))]) rfl ?_
          refine lv_istore (lv' := [(6, .int (nI (nWor (I (d + 9)) B2 A2))), (5, .int (nI (nWor (I (b + 9)) A2 B2))), (0, .ref D), (1, .ref b), (2, .ref d), (3, .int (gb dr)), (4, .int (nI i))]) hx hb dX1_run_63 hl (by decide) rfl (fun ls hl => ?_)
          refine lv_iload hx hb dX1_run_65 (lv_at hl 1 rfl) ?_
          refine lv_aload_n hx hb dX1_run_67 rfl (lv_at hl 2 rfl) ?_
          refine g_get hC hP hdr rfl inX1 0 (by decide) q1_102 f0 dX1_run_68 ?_
          refine lv_icmp_ne (tgt := 83) hx hb dX1_run_71 (by decide) (fun c71 => ?_) (fun c71 => ?_)
          · have c71 := mt (nI_eq (by omega) (by omega)).mpr c71
            refine lv_iconst (v := nI 1) hx hb dX1_run_83 (by decide) ?_
            refine lv_goto (tgt := 88) hx hb dX1_run_84 (by decide) ?_
            refine lv_istore_n (lv' := [(3, .int (nI 1)), (6, .int (nI (nWor (I (d + 9)) B2 A2))), (5, .int (nI (nWor (I (b + 9)) A2 B2))), (0, .ref D), (1, .ref b), (2, .ref d), (4, .int (nI i))]) hx hb dX1_run_88 rfl hl (by decide) rfl (fun ls hl => ?_)
            refine lv_iload_n hx hb dX1_run_89 rfl (lv_at hl 0 rfl) ?_
            refine lv_if_eq (tgt := 103) hx hb dX1_run_90 (by decide) (fun q => absurd q (by decide)) (fun _ => ?_)
            refine lv_aload_n hx hb dX1_run_93 rfl (lv_at hl 3 rfl) ?_
            refine lv_dup hx hb dX1_run_94 rfl ?_
            refine g_get hC hP hdr rfl inX1 2 (by decide) q1_106 f2 dX1_run_95 ?_
            refine lv_iconst (v := nI 1) hx hb dX1_run_98 (by decide) ?_
            refine lv_iadd hx hb dX1_run_99 ?_
            refine g_topi (y := nI (kk + 1)) (nI_add _ _) ?_
            refine g_put hC hP hS hTA hdr rfl inX1 tyX1 tyX1_ok nmX1 2 (by decide) q1_106 rfl (ty := tyX1 2) (by decide) rfl rfl dX1_run_100 (fun H16 locs17 hP hS hz19 => ?_)
            obtain ⟨O18, hO18, hP⟩ : ∃ X : gO, X = au O2 D 2 (.int (nI (kk + 1))) ∧ gP G T I J Q X H16 := ⟨_, rfl, hP⟩
            refine lv_aload_n hx hb dX1_run_103 rfl (lv_at hl 3 rfl) ?_
            refine lv_iload hx hb dX1_run_104 (lv_at hl 2 rfl) ?_
            refine g_put hC hP hS hTA hdr rfl inX1 tyX1 tyX1_ok nmX1 0 (by decide) q1_102 rfl (ty := tyX1 0) (by decide) rfl rfl dX1_run_106 (fun H20 locs21 hP hS hz23 => ?_)
            obtain ⟨O22, hO22, hP⟩ : ∃ X : gO, X = au O18 D 0 (.int (nI (nWor (I (b + 9)) A2 B2))) ∧ gP G T I J Q X H20 := ⟨_, rfl, hP⟩
            refine lv_aload_n hx hb dX1_run_109 rfl (lv_at hl 3 rfl) ?_
            refine lv_iload hx hb dX1_run_110 (lv_at hl 1 rfl) ?_
            refine g_put hC hP hS hTA hdr rfl inX1 tyX1 tyX1_ok nmX1 1 (by decide) q1_104 rfl (ty := tyX1 1) (by decide) rfl rfl dX1_run_112 (fun H24 locs25 hP hS hz27 => ?_)
            obtain ⟨O26, hO26, hP⟩ : ∃ X : gO, X = au O22 D 1 (.int (nI (nWor (I (d + 9)) B2 A2))) ∧ gP G T I J Q X H24 := ⟨_, rfl, hP⟩
            refine lv_iinc (v := nI (i + 1)) (lv' := [(4, .int (nI (i + 1))), (3, .int (nI 1)), (6, .int (nI (nWor (I (d + 9)) B2 A2))), (5, .int (nI (nWor (I (b + 9)) A2 B2))), (0, .ref D), (1, .ref b), (2, .ref d)]) hx hb dX1_run_115 hl (k := 6) rfl (nI_inc _) (by decide) rfl (fun ls hl => ?_)
            refine lv_goto (tgt := 26) hx hb dX1_run_118 (by decide) ?_
            have ho28 : O22 D 0 = .int (nI (nWor (I (b + 9)) A2 B2)) := by rw [hO22, au_row, gu_eq]
            have ho29 : O26 D 0 = .int (nI (nWor (I (b + 9)) A2 B2)) := by rw [hO26, au_row, gu_ne _ _ (by decide)]; exact ho28
            have ho30 : O26 D 1 = .int (nI (nWor (I (d + 9)) B2 A2)) := by rw [hO26, au_row, gu_eq]
            have ho31 : O18 D 2 = .int (nI (kk + 1)) := by rw [hO18, au_row, gu_eq]
            have ho32 : O22 D 2 = .int (nI (kk + 1)) := by rw [hO22, au_row, gu_ne _ _ (by decide)]; exact ho31
            have ho33 : O26 D 2 = .int (nI (kk + 1)) := by rw [hO26, au_row, gu_ne _ _ (by decide)]; exact ho32
            exact ih26 (i + 1) true (nWor (I (b + 9)) A2 B2) (nWor (I (d + 9)) B2 A2) (kk + 1) O26 (by omega) ⟨by omega, nWor_lt, nWor_lt, by omega⟩ (by simp only [*]; first | exact drO_3 _ _ _ _ _ _ _ _ | exact drO_2 _ _ _ _ _ _ _) (by simp only [if_pos c34] at h2; rw [show 8 - i = (8 - (i + 1)) + 1 from by omega, dropF] at h2; first | (simp only [if_true]; rw [← h2, if_neg (by omega)]) | (simp only [Bool.false_eq_true, if_false]; rw [← h2, if_pos (by omega)]; simp only [*])) _ _ hP hS ls (lv_sub hl [4, 5, 6, 1, 0] rfl)
          · have c71 := (nI_eq (by omega) (by omega)).mp c71
            refine lv_iload hx hb dX1_run_74 (lv_at hl 0 rfl) ?_
            refine lv_aload_n hx hb dX1_run_76 rfl (lv_at hl 2 rfl) ?_
            refine g_get hC hP hdr rfl inX1 1 (by decide) q1_104 f1 dX1_run_77 ?_
            refine lv_icmp_eq (tgt := 87) hx hb dX1_run_80 (by decide) (fun c80 => ?_) (fun c80 => ?_)
            · have c80 := (nI_eq (by omega) (by omega)).mp c80
              refine lv_iconst (v := nI 0) hx hb dX1_run_87 (by decide) ?_
              refine lv_istore_n (lv' := [(3, .int (nI 0)), (6, .int (nI (nWor (I (d + 9)) B2 A2))), (5, .int (nI (nWor (I (b + 9)) A2 B2))), (0, .ref D), (1, .ref b), (2, .ref d), (4, .int (nI i))]) hx hb dX1_run_88 rfl hl (by decide) rfl (fun ls hl => ?_)
              refine lv_iload_n hx hb dX1_run_89 rfl (lv_at hl 0 rfl) ?_
              refine lv_if_eq (tgt := 103) hx hb dX1_run_90 (by decide) (fun _ => ?_) (fun q => absurd (by decide) q)
              refine lv_aload_n hx hb dX1_run_103 rfl (lv_at hl 3 rfl) ?_
              refine lv_iload hx hb dX1_run_104 (lv_at hl 2 rfl) ?_
              refine g_put hC hP hS hTA hdr rfl inX1 tyX1 tyX1_ok nmX1 0 (by decide) q1_102 rfl (ty := tyX1 0) (by decide) rfl rfl dX1_run_106 (fun H34 locs35 hP hS hz37 => ?_)
              obtain ⟨O36, hO36, hP⟩ : ∃ X : gO, X = au O2 D 0 (.int (nI (nWor (I (b + 9)) A2 B2))) ∧ gP G T I J Q X H34 := ⟨_, rfl, hP⟩
              refine lv_aload_n hx hb dX1_run_109 rfl (lv_at hl 3 rfl) ?_
              refine lv_iload hx hb dX1_run_110 (lv_at hl 1 rfl) ?_
              refine g_put hC hP hS hTA hdr rfl inX1 tyX1 tyX1_ok nmX1 1 (by decide) q1_104 rfl (ty := tyX1 1) (by decide) rfl rfl dX1_run_112 (fun H38 locs39 hP hS hz41 => ?_)
              obtain ⟨O40, hO40, hP⟩ : ∃ X : gO, X = au O36 D 1 (.int (nI (nWor (I (d + 9)) B2 A2))) ∧ gP G T I J Q X H38 := ⟨_, rfl, hP⟩
              refine lv_iinc (v := nI (i + 1)) (lv' := [(4, .int (nI (i + 1))), (3, .int (nI 0)), (6, .int (nI (nWor (I (d + 9)) B2 A2))), (5, .int (nI (nWor (I (b + 9)) A2 B2))), (0, .ref D), (1, .ref b), (2, .ref d)]) hx hb dX1_run_115 hl (k := 6) rfl (nI_inc _) (by decide) rfl (fun ls hl => ?_)
              refine lv_goto (tgt := 26) hx hb dX1_run_118 (by decide) ?_
              have ho42 : O36 D 0 = .int (nI (nWor (I (b + 9)) A2 B2)) := by rw [hO36, au_row, gu_eq]
              have ho43 : O40 D 0 = .int (nI (nWor (I (b + 9)) A2 B2)) := by rw [hO40, au_row, gu_ne _ _ (by decide)]; exact ho42
              have ho44 : O40 D 1 = .int (nI (nWor (I (d + 9)) B2 A2)) := by rw [hO40, au_row, gu_eq]
              have ho45 : O36 D 2 = .int (nI kk) := by rw [hO36, au_row, gu_ne _ _ (by decide)]; exact f2
              have ho46 : O40 D 2 = .int (nI kk) := by rw [hO40, au_row, gu_ne _ _ (by decide)]; exact ho45
              exact ih26 (i + 1) false (nWor (I (b + 9)) A2 B2) (nWor (I (d + 9)) B2 A2) kk O40 (by omega) ⟨by omega, nWor_lt, nWor_lt, by omega⟩ (by simp only [*]; first | exact drO_3 _ _ _ _ _ _ _ _ | exact drO_2 _ _ _ _ _ _ _) (by simp only [if_pos c34] at h2; rw [show 8 - i = (8 - (i + 1)) + 1 from by omega, dropF] at h2; first | (simp only [if_true]; rw [← h2, if_neg (by omega)]) | (simp only [Bool.false_eq_true, if_false]; rw [← h2, if_pos (by omega)]; simp only [*])) _ _ hP hS ls (lv_sub hl [4, 5, 6, 1, 0] rfl)
            · have c80 := mt (nI_eq (by omega) (by omega)).mpr c80
              refine lv_iconst (v := nI 1) hx hb dX1_run_83 (by decide) ?_
              refine lv_goto (tgt := 88) hx hb dX1_run_84 (by decide) ?_
              refine lv_istore_n (lv' := [(3, .int (nI 1)), (6, .int (nI (nWor (I (d + 9)) B2 A2))), (5, .int (nI (nWor (I (b + 9)) A2 B2))), (0, .ref D), (1, .ref b), (2, .ref d), (4, .int (nI i))]) hx hb dX1_run_88 rfl hl (by decide) rfl (fun ls hl => ?_)
              refine lv_iload_n hx hb dX1_run_89 rfl (lv_at hl 0 rfl) ?_
              refine lv_if_eq (tgt := 103) hx hb dX1_run_90 (by decide) (fun q => absurd q (by decide)) (fun _ => ?_)
              refine lv_aload_n hx hb dX1_run_93 rfl (lv_at hl 3 rfl) ?_
              refine lv_dup hx hb dX1_run_94 rfl ?_
              refine g_get hC hP hdr rfl inX1 2 (by decide) q1_106 f2 dX1_run_95 ?_
              refine lv_iconst (v := nI 1) hx hb dX1_run_98 (by decide) ?_
              refine lv_iadd hx hb dX1_run_99 ?_
              refine g_topi (y := nI (kk + 1)) (nI_add _ _) ?_
              refine g_put hC hP hS hTA hdr rfl inX1 tyX1 tyX1_ok nmX1 2 (by decide) q1_106 rfl (ty := tyX1 2) (by decide) rfl rfl dX1_run_100 (fun H47 locs48 hP hS hz50 => ?_)
              obtain ⟨O49, hO49, hP⟩ : ∃ X : gO, X = au O2 D 2 (.int (nI (kk + 1))) ∧ gP G T I J Q X H47 := ⟨_, rfl, hP⟩
              refine lv_aload_n hx hb dX1_run_103 rfl (lv_at hl 3 rfl) ?_
              refine lv_iload hx hb dX1_run_104 (lv_at hl 2 rfl) ?_
              refine g_put hC hP hS hTA hdr rfl inX1 tyX1 tyX1_ok nmX1 0 (by decide) q1_102 rfl (ty := tyX1 0) (by decide) rfl rfl dX1_run_106 (fun H51 locs52 hP hS hz54 => ?_)
              obtain ⟨O53, hO53, hP⟩ : ∃ X : gO, X = au O49 D 0 (.int (nI (nWor (I (b + 9)) A2 B2))) ∧ gP G T I J Q X H51 := ⟨_, rfl, hP⟩
              refine lv_aload_n hx hb dX1_run_109 rfl (lv_at hl 3 rfl) ?_
              refine lv_iload hx hb dX1_run_110 (lv_at hl 1 rfl) ?_
              refine g_put hC hP hS hTA hdr rfl inX1 tyX1 tyX1_ok nmX1 1 (by decide) q1_104 rfl (ty := tyX1 1) (by decide) rfl rfl dX1_run_112 (fun H55 locs56 hP hS hz58 => ?_)
              obtain ⟨O57, hO57, hP⟩ : ∃ X : gO, X = au O53 D 1 (.int (nI (nWor (I (d + 9)) B2 A2))) ∧ gP G T I J Q X H55 := ⟨_, rfl, hP⟩
              refine lv_iinc (v := nI (i + 1)) (lv' := [(4, .int (nI (i + 1))), (3, .int (nI 1)), (6, .int (nI (nWor (I (d + 9)) B2 A2))), (5, .int (nI (nWor (I (b + 9)) A2 B2))), (0, .ref D), (1, .ref b), (2, .ref d)]) hx hb dX1_run_115 hl (k := 6) rfl (nI_inc _) (by decide) rfl (fun ls hl => ?_)
              refine lv_goto (tgt := 26) hx hb dX1_run_118 (by decide) ?_
              have ho59 : O53 D 0 = .int (nI (nWor (I (b + 9)) A2 B2)) := by rw [hO53, au_row, gu_eq]
              have ho60 : O57 D 0 = .int (nI (nWor (I (b + 9)) A2 B2)) := by rw [hO57, au_row, gu_ne _ _ (by decide)]; exact ho59
              have ho61 : O57 D 1 = .int (nI (nWor (I (d + 9)) B2 A2)) := by rw [hO57, au_row, gu_eq]
              have ho62 : O49 D 2 = .int (nI (kk + 1)) := by rw [hO49, au_row, gu_eq]
              have ho63 : O53 D 2 = .int (nI (kk + 1)) := by rw [hO53, au_row, gu_ne _ _ (by decide)]; exact ho62
              have ho64 : O57 D 2 = .int (nI (kk + 1)) := by rw [hO57, au_row, gu_ne _ _ (by decide)]; exact ho63
              exact ih26 (i + 1) true (nWor (I (b + 9)) A2 B2) (nWor (I (d + 9)) B2 A2) (kk + 1) O57 (by omega) ⟨by omega, nWor_lt, nWor_lt, by omega⟩ (by simp only [*]; first | exact drO_3 _ _ _ _ _ _ _ _ | exact drO_2 _ _ _ _ _ _ _) (by simp only [if_pos c34] at h2; rw [show 8 - i = (8 - (i + 1)) + 1 from by omega, dropF] at h2; first | (simp only [if_true]; rw [← h2, if_neg (by omega)]) | (simp only [Bool.false_eq_true, if_false]; rw [← h2, if_pos (by omega)]; simp only [*])) _ _ hP hS ls (lv_sub hl [4, 5, 6, 1, 0] rfl)
  exact L26 9 0 true (2 ^ ch - 1) (2 ^ dh - 1) 0 O14 (by omega) (by omega) (by simp only [*]; rfl) rfl _ _ hP hS ls (lv_sub hl [2, 3, 4, 1, 0] rfl)
