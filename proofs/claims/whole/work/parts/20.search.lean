/-! ===== one search ===== -/
theorem keepPost_mono {G : gG} {T : gTy} {I : gI} {J : gJ} {Q : gR} {O : gO} {n n' k cnt fill sp : Nat} {ad : Nat → Nat} {or : Nat → Int32} {H1 : Heap} (h : keepPost G T I J Q O n k cnt fill sp ad or H1) (hn : n' ≤ n) : keepPost G T I J Q O n' k cnt fill sp ad or H1 := by
  rcases h with h | ⟨a1, pl, a2, a3, a4, a5⟩
  · exact Or.inl h
  · exact Or.inr ⟨a1, pl, a2, a3, a4, insPost_mono a5 hn⟩
theorem fst_ex {t : Nat} (ht : t < 16) (h1 : 1 ≤ t) : ∃ f, fst4 t.testBit = some f := by
  have q : ∀ t, t < 16 → 1 ≤ t → (fst4 t.testBit).isSome = true := by decide +kernel
  exact Option.isSome_iff_exists.mp (q t ht h1)
theorem row_cand {P : Nat → Int32} {M : Nat → Nat → Int64} {X : Nat → Int64} {u t j : Nat} (hu : u < 16) (hu1 : 1 ≤ u) (hpc : popc u = popc t) (hM : ∀ ln, ln < popc t - 1 → ∀ pl, pl < rnk u 4 → M ln pl = gapM P u t ln pl) (hj : j < 4) : parR M u X 4 j = candX P u t j := by
  have hp := popc_1 hu hu1
  unfold parR candX
  rw [if_pos hj]
  unfold partF
  by_cases hb : u.testBit j = true
  · have hr := rnk_popc_lt hu hj hb
    have e : detS M (rnk u j) (popc u - 1) = detS (gapM P u t) (rnk u j) (popc u - 1) := detS_congr2 (by omega) (by omega) (fun ln hl pl hpl => hM ln (by omega) pl (by rw [rnk_popc hu]; omega))
    rw [e]
  · simp [hb]
theorem cand_no {P : Nat → Int32} {ch u t : Nat} {c : CL} (h : posOK (candX P u t) u = false ∨ ¬ t &&& (15 ^^^ ansB P (candY P u t) ch) = 0) : stepC P ch c u t = c := by
  unfold stepC cand
  rw [if_neg]
  rintro ⟨h1, h2⟩
  rcases h with h | h
  · rw [h] at h1; cases h1
  · exact h h2
theorem cand_yes {P : Nat → Int32} {ch u t : Nat} {c : CL} (h : posOK (candX P u t) u = true) (h2 : t &&& (15 ^^^ ansB P (candY P u t) ch) = 0) : stepC P ch c u t = insC (candY P u t, tsum (candY P u t) 4, usedB (candY P u t) 4, ansB P (candY P u t) ch) c := by
  unfold stepC cand
  rw [if_pos ⟨h, h2⟩]
set_option maxHeartbeats 4000000 in
set_option maxRecDepth 100000 in
theorem c_X0_search (l : Launch) {G : gG} {T : gTy} {I : gI} {J : gJ} {Q : gR} {O : gO} {H : Heap} (hP : gP G T I J Q O H) {k b ch u t : Nat} {cl : CL} {Sx : Nat → Prop} (hco : coG T Q O k) (hcs : coS T J Q O k cl Sx) (hpl : isPl T O b ch) (hu : u < 16) (hu1 : 1 ≤ u) (ht : t < 16) (ht1 : 1 ≤ t) (hpc : popc u = popc t) (hcn : cl.1 < 69) : Met l yX0_search (gw yX0_search cX0_search 4 (none)) ({ frames := 4, cells := 2, slots := 8, locals := 87 } : Room) (gPc G H [.ref k, .int (nI u), .int (nI t), .ref b]) (gQc (gF T H) (fun r H1 => r = none ∧ searchPost G T I J Q O H.size k (stepC (I (b + 9)) ch cl u t) Sx H1)) 2 8 (gF T H) := by
  refine g_met [(0, .ref k), (1, .int (nI u)), (2, .int (nI t)), (3, .ref b)] (by decide) rfl (by exact Nat.le_of_ble_eq_true rfl) ?_
  intro p e s m below meth c hC hs ls hl
  have hx := hC.1.1
  have hb := hC.1.2.1
  have hS : va_S (gF T H) s.heap H [] := hs ▸ va_S.rf
  have hTA : ∀ q, (T q).1 ≠ 0 → gF T H q := fun q h => Or.inl h
  have hA : ∀ q, s.heap.size ≤ q → gF T H q := fun q h => Or.inr (hs ▸ h)
  generalize hAe : gF T H = A at hS hTA hA ⊢
  have hpl_lo := hpl.2.2.2.2.2.2.2.2.1
  have hpl_hi := hpl.2.2.2.2.2.2.2.2.2
  obtain ⟨fill, sp, ad, hcr, hVm, hSa, hS1, hS2, hS3⟩ := hcs
  obtain ⟨f, hf⟩ := fst_ex ht ht1
  have nks : k ≠ sp := ne_of_T hco.1 hcr.2.2.2.2.2.1.1 (by decide)
  have hab : ∀ X, ansB (I (b + 9)) X ch < 16 := fun X => ansB_lt hpl_hi
  have ha31 : ∀ X, t &&& (15 ^^^ ansB (I (b + 9)) X ch) < 2 ^ 31 := fun X => Nat.lt_of_le_of_lt Nat.and_le_left (by omega)
  have hcr_c := hcr.2.2.1
  have hcr_f := hcr.2.2.2.1
  refine lv_aload_n hx hb dX0_search_0 rfl (lv_at hl 0 rfl) ?_
  refine lv_iload_n hx hb dX0_search_1 rfl (lv_at hl 1 rfl) ?_
  refine lv_iload_n hx hb dX0_search_2 rfl (lv_at hl 2 rfl) ?_
  refine lv_aload_n hx hb dX0_search_3 rfl (lv_at hl 3 rfl) ?_
  refine g_cc (g_rV (As := [.int (nI u), .int (nI t), .ref b]) hC hP (c_X0_layGaps l hP (k := k) (u := u) (t := t) (b := b) (ch := ch) (f := f) (by first | assumption | omega) (by first | assumption | omega) (by first | assumption | omega) (by first | assumption | omega) (by first | assumption | omega)) hco.1 rfl ⟨q2_103, q2_100, q2_102, qs_11, q1_3⟩ dd_X0_layGaps ⟨Nat.le_of_ble_eq_true rfl, Nat.le_of_ble_eq_true rfl, rfl, rfl⟩ hl.1 rfl (Nat.le_of_ble_eq_true rfl) dX0_search_4 ⟨Nat.le_of_ble_eq_true rfl, Nat.le_of_ble_eq_true rfl⟩) hS (fun q h => h.elim (hTA q) (fun z => hA q (Nat.le_trans hS.1 z))) (fun r5 H1 locs2 hq6 hS hz3 hfr4 => ?_)
  obtain ⟨rfl, Jg, hJf, hJg, hP⟩ := hq6
  refine W.eq (g2 := F0 m 7 ls []) rfl ?_
  refine lv_aload_n hx hb dX0_search_7 rfl (lv_at hl 0 rfl) ?_
  refine lv_iload_n hx hb dX0_search_8 rfl (lv_at hl 1 rfl) ?_
  refine g_cc (g_rV (As := [.int (nI u)]) hC hP (c_X0_layParts l hP (k := k) (sp := sp) (u := u) (by first | assumption | omega) hcr.2.1 hcr.2.2.2.2.2.1 (by first | assumption | omega) (by first | assumption | omega)) hco.1 rfl ⟨q2_114, q2_111, q2_113, qs_13, q1_3⟩ dd_X0_layParts ⟨Nat.le_of_ble_eq_true rfl, Nat.le_of_ble_eq_true rfl, rfl, rfl⟩ hl.1 rfl (Nat.le_of_ble_eq_true rfl) dX0_search_9 ⟨Nat.le_of_ble_eq_true rfl, Nat.le_of_ble_eq_true rfl⟩) hS (fun q h => h.elim (hTA q) (fun z => hA q (Nat.le_trans hS.1 z))) (fun r11 H7 locs8 hq12 hS hz9 hfr10 => ?_)
  obtain ⟨rfl, hP⟩ := hq12
  obtain ⟨J13, hJ13, hP⟩ : ∃ J13 : gJ, J13 = gu Jg (sp + 1) (parR (fun q => Jg (k + 5 + q)) u (Jg (sp + 1)) 4) ∧ gP G T I J13 Q O H7 := ⟨_, rfl, hP⟩
  refine W.eq (g2 := F0 m 12 ls []) rfl ?_
  refine lv_aload_n hx hb dX0_search_12 rfl (lv_at hl 0 rfl) ?_
  refine lv_iload_n hx hb dX0_search_13 rfl (lv_at hl 1 rfl) ?_
  refine g_cc (g_rV (As := [.int (nI u)]) hC hP (c_X0_makePositive l hP (k := k) (sp := sp) (u := u) (by first | assumption | omega) hcr.2.1 hcr.2.2.2.2.2.1 (by first | assumption | omega)) hco.1 rfl ⟨q2_126, q2_123, q2_125, qs_16, q1_3⟩ dd_X0_makePositive ⟨Nat.le_of_ble_eq_true rfl, Nat.le_of_ble_eq_true rfl, rfl, rfl⟩ hl.1 rfl (Nat.le_of_ble_eq_true rfl) dX0_search_14 ⟨Nat.le_of_ble_eq_true rfl, Nat.le_of_ble_eq_true rfl⟩) hS (fun q h => h.elim (hTA q) (fun z => hA q (Nat.le_trans hS.1 z))) (fun r18 H14 locs15 hq19 hS hz16 hfr17 => ?_)
  have hrow : ∀ j, j < 4 → J13 (sp + 1) j = candX (I (b + 9)) u t j := fun j hj => by rw [hJ13, gu_eq]; exact row_cand hu hu1 hpc hJg hj
  rcases hq19 with ⟨rfl, hok, hP⟩ | ⟨rfl, hok, X2, hP⟩
  · rw [posOK_congr u hrow] at hok
    obtain ⟨J4, hJ4, hP⟩ : ∃ X : gJ, X = gu J13 (sp + 1) (mulR (J13 (sp + 1)) (sgnF (J13 (sp + 1)) u) 4) ∧ gP G T I X Q O H14 := ⟨_, rfl, hP⟩
    have hrow4 : ∀ j, j < 4 → J4 (sp + 1) j = candY (I (b + 9)) u t j := fun j hj => by rw [hJ4, gu_eq]; unfold mulR candY; rw [if_pos hj, hrow j hj, sgnF_congr u hrow]
    have hJout : ∀ q, q ≠ k + 5 → q ≠ k + 6 → q ≠ k + 7 → q ≠ sp + 1 → J4 q = J q := fun q h5 h6 h7 h8 => by rw [hJ4, gu_ne _ _ h8, hJ13, gu_ne _ _ h8]; exact hJf q (by omega)
    refine W.eq (g2 := F0 m 17 ls [.int (nI 1)]) rfl ?_
    refine lv_if_ne (tgt := 21) hx hb dX0_search_17 (by decide) (fun _ => ?_) (fun q => absurd q (by decide))
    refine lv_aload_n hx hb dX0_search_21 rfl (lv_at hl 0 rfl) ?_
    refine g_get hC hP hco.1 rfl inX0 2 (by decide) q1_64 hcr.2.1 dX0_search_22 ?_
    refine g_cc (g_rV (As := []) hC hP (c_X2_sumUp l hP (x := sp) hcr.2.2.2.2.2.1) hcr.2.2.2.2.2.1.1 rfl ⟨q1_207, q2_132, q1_205, q1_206, q1_4⟩ dd_X2_sumUp ⟨Nat.le_of_ble_eq_true rfl, Nat.le_of_ble_eq_true rfl, rfl, rfl⟩ hl.1 rfl (Nat.le_of_ble_eq_true rfl) dX0_search_25 ⟨Nat.le_of_ble_eq_true rfl, Nat.le_of_ble_eq_true rfl⟩) hS (fun q h => h.elim (hTA q) (fun z => hA q (Nat.le_trans hS.1 z))) (fun r24 H20 locs21 hq25 hS hz22 hfr23 => ?_)
    obtain ⟨rfl, hP⟩ := hq25
    obtain ⟨O26, hO26, O27, hO27, hP⟩ : ∃ O26 : gO, O26 = au O sp 1 (.long (tsum (J4 (sp + 1)) 4)) ∧ ∃ O27 : gO, O27 = au O26 sp 2 (.int (nI (usedB (J4 (sp + 1)) 4))) ∧ gP G T I J4 Q O27 H20 := ⟨_, rfl, _, rfl, hP⟩
    refine W.eq (g2 := F0 m 28 ls []) rfl ?_
    refine lv_aload_n hx hb dX0_search_28 rfl (lv_at hl 0 rfl) ?_
    have ho28 : O26 k 2 = .ref sp := by rw [hO26, au_ne _ _ _ (ne_of_T hco.1 hcr.2.2.2.2.2.1.1 (by decide))]; exact hcr.2.1
    have ho29 : O27 k 2 = .ref sp := by rw [hO27, au_ne _ _ _ (ne_of_T hco.1 hcr.2.2.2.2.2.1.1 (by decide))]; exact ho28
    refine g_get hC hP hco.1 rfl inX0 2 (by decide) q1_64 ho29 dX0_search_29 ?_
    have hk30 : isPl T O26 b ch := isPl_au hpl hO26 (ne_of_T hpl.1 hcr.2.2.2.2.2.1.1 (by decide))
    have hk31 : isPl T O27 b ch := isPl_au hk30 hO27 (ne_of_T hpl.1 hcr.2.2.2.2.2.1.1 (by decide))
    have hk32 : isMx T O26 sp := isMx_au hcr.2.2.2.2.2.1 hO26 (Or.inr (by decide))
    have hk33 : isMx T O27 sp := isMx_au hk32 hO27 (Or.inr (by decide))
    refine lv_aload_n hx hb dX0_search_32 rfl (lv_at hl 3 rfl) ?_
    refine lv_aload_n hx hb dX0_search_33 rfl (lv_at hl 0 rfl) ?_
    refine g_get hC hP hco.1 rfl inX0 2 (by decide) q1_64 ho29 dX0_search_34 ?_
    have ho34 : O26 b 0 = .int (nI ch) := by rw [hO26, au_ne _ _ _ (ne_of_T hpl.1 hcr.2.2.2.2.2.1.1 (by decide))]; exact hpl.2.1
    have ho35 : O27 b 0 = .int (nI ch) := by rw [hO27, au_ne _ _ _ (ne_of_T hpl.1 hcr.2.2.2.2.2.1.1 (by decide))]; exact ho34
    refine g_cp (g_rV (As := [.ref sp]) hC hP (c_X3_answersTo l hP (b := b) (ch := ch) (x := sp) (by first | assumption | omega) (by first | assumption | omega)) hpl.1 rfl ⟨q1_211, q2_133, q1_209, q1_210, q1_2⟩ dd_X3_answersTo ⟨Nat.le_of_ble_eq_true rfl, Nat.le_of_ble_eq_true rfl, rfl, rfl⟩ hl.1 rfl (Nat.le_of_ble_eq_true rfl) dX0_search_37 ⟨Nat.le_of_ble_eq_true rfl, Nat.le_of_ble_eq_true rfl⟩) ?_
    refine W.eq (g2 := F0 m 40 ls [.int (nI (ansB (I (b + 9)) (J4 (sp + 1)) ch)), .ref sp]) rfl ?_
    refine g_put hC hP hS hTA hcr.2.2.2.2.2.1.1 rfl inX2 tyX2 tyX2_ok nmX2 3 (by decide) q1_46 rfl (ty := tyX2 3) (by decide) rfl rfl dX0_search_40 (fun H36 locs37 hP hS hz39 => ?_)
    obtain ⟨O38, hO38, hP⟩ : ∃ X : gO, X = au O27 sp 3 (.int (nI (ansB (I (b + 9)) (J4 (sp + 1)) ch))) ∧ gP G T I J4 Q X H36 := ⟨_, rfl, hP⟩
    have hco_0 : coG T Q O26 k := coG_au hco hO26 nks
    have hcr_0 : coR T Q O26 k cl.1 fill sp ad := coR_au hcr hO26 (by decide) nks
    have hco_1 : coG T Q O27 k := coG_au hco_0 hO27 nks
    have hcr_1 : coR T Q O27 k cl.1 fill sp ad := coR_au hcr_0 hO27 (by decide) nks
    have hco_2 : coG T Q O38 k := coG_au hco_1 hO38 nks
    have hcr_2 : coR T Q O38 k cl.1 fill sp ad := coR_au hcr_1 hO38 (by decide) nks
    have hOo : ∀ q, q ≠ sp → O38 q = O q := fun q hq => by rw [hO38, au_ne _ _ _ hq, hO27, au_ne _ _ _ hq, hO26, au_ne _ _ _ hq]
    have ho40 : O26 sp 1 = .long (tsum (J4 (sp + 1)) 4) := by rw [hO26, au_row, gu_eq]
    have ho41 : O27 sp 1 = .long (tsum (J4 (sp + 1)) 4) := by rw [hO27, au_row, gu_ne _ _ (by decide)]; exact ho40
    have ho42 : O38 sp 1 = .long (tsum (J4 (sp + 1)) 4) := by rw [hO38, au_row, gu_ne _ _ (by decide)]; exact ho41
    have ho43 : O27 sp 2 = .int (nI (usedB (J4 (sp + 1)) 4)) := by rw [hO27, au_row, gu_eq]
    have ho44 : O38 sp 2 = .int (nI (usedB (J4 (sp + 1)) 4)) := by rw [hO38, au_row, gu_ne _ _ (by decide)]; exact ho43
    have ho45 : O38 sp 3 = .int (nI (ansB (I (b + 9)) (J4 (sp + 1)) ch)) := by rw [hO38, au_row, gu_eq]
    have hmv2 : mxV O38 sp (tsum (J4 (sp + 1)) 4) (usedB (J4 (sp + 1)) 4) (ansB (I (b + 9)) (J4 (sp + 1)) ch) := ⟨ho42, ho44, ho45⟩
    have hV2 : ∀ j, j < cl.1 → mxV O38 (ad j) (cl.2 j).2.1 (cl.2 j).2.2.1 (cl.2 j).2.2.2 := fun j hj => by have h9 := (hVm j hj).2; unfold mxV at *; rw [hOo _ (hcr.2.2.2.2.2.2.1 j (Nat.lt_of_lt_of_le hj hcr.2.2.1)).2]; exact h9
    have han : ansB (I (b + 9)) (J4 (sp + 1)) ch = ansB (I (b + 9)) (candY (I (b + 9)) u t) ch := ansB_congr hrow4
    refine lv_iload_n hx hb dX0_search_43 rfl (lv_at hl 2 rfl) ?_
    refine lv_aload_n hx hb dX0_search_44 rfl (lv_at hl 0 rfl) ?_
    have ho46 : O38 k 2 = .ref sp := by rw [hO38, au_ne _ _ _ (ne_of_T hco.1 hcr.2.2.2.2.2.1.1 (by decide))]; exact ho29
    refine g_get hC hP hco.1 rfl inX0 2 (by decide) q1_64 ho46 dX0_search_45 ?_
    refine g_get hC hP hcr.2.2.2.2.2.1.1 rfl inX2 3 (by decide) q1_46 ho45 dX0_search_48 ?_
    refine lv_iconst (v := (-1)) hx hb dX0_search_51 (by decide) ?_
    refine lv_ixor hx hb dX0_search_52 ?_
    refine lv_iand hx hb dX0_search_53 ?_
    refine g_topi (y := nI (t &&& (15 ^^^ ansB (I (b + 9)) (J4 (sp + 1)) ch))) (g_andn ht (hab _)) ?_
    have h31 := ha31 (J4 (sp + 1))
    refine lv_if_ne (tgt := 61) hx hb dX0_search_54 (by decide) (fun c54 => ?_) (fun c54 => ?_)
    · have c54 := mt (fun q => ((nI_eq (b := 0) (by omega) (by decide)).mpr q).trans nI_0) c54
      refine W.widen (k := 2) (n := 8) (by omega) (by omega) ?_
      refine g_retcv hC hS ?_ dX0_search_61
      refine ⟨rfl, ?_⟩
      rw [han] at c54
      rw [cand_no (Or.inr c54)]
      exact scr_post hco_2 hcr hcr_2 hVm hSa hS1 hS2 hS3 hJout hOo hP
    · have c54 := (nI_eq (by omega) (by decide)).mp (c54.trans nI_0.symm)
      refine lv_aload_n hx hb dX0_search_57 rfl (lv_at hl 0 rfl) ?_
      refine g_cc (g_rV (As := []) hC hP (c_X0_keepSpare l hP (k := k) (cnt := cl.1) (fill := fill) (sp := sp) (u := usedB (J4 (sp + 1)) 4) (n := ansB (I (b + 9)) (J4 (sp + 1)) ch) (ad := ad) (tt := (fun j => (cl.2 j).2.1)) (uu := (fun j => (cl.2 j).2.2.1)) (nn := (fun j => (cl.2 j).2.2.2)) (t := tsum (J4 (sp + 1)) 4) hco_2 hcr_2 hmv2 hV2 (by first | assumption | omega)) hco.1 rfl ⟨q2_137, q2_134, q2_136, qs_18, q1_3⟩ dd_X0_keepSpare ⟨Nat.le_of_ble_eq_true rfl, Nat.le_of_ble_eq_true rfl, rfl, rfl⟩ hl.1 rfl (Nat.le_of_ble_eq_true rfl) dX0_search_58 ⟨Nat.le_of_ble_eq_true rfl, Nat.le_of_ble_eq_true rfl⟩) hS (fun q h => h.elim (hTA q) (fun z => hA q (Nat.le_trans hS.1 z))) (fun r51 H47 locs48 hq52 hS hz49 hfr50 => ?_)
      obtain ⟨rfl, hkp⟩ := hq52
      refine W.eq (g2 := F0 m 61 ls []) rfl ?_
      refine W.widen (k := 2) (n := 8) (by omega) (by omega) ?_
      refine g_retcv hC hS ?_ dX0_search_61
      refine ⟨rfl, ?_⟩
      rw [han] at c54
      rw [cand_yes hok c54]
      refine keep_post hco_2 hcr hcr_2 hVm hSa hS1 hS2 hS3 hJout hOo ⟨hrow4, ?_⟩ (fun j hj => ?_) (keepPost_mono hkp (by omega))
      · show mxV _ sp (tsum (candY (I (b + 9)) u t) 4) (usedB (candY (I (b + 9)) u t) 4) (ansB (I (b + 9)) (candY (I (b + 9)) u t) ch)
        rw [← han, ← tsum_congr 4 hrow4, ← usedB_congr 4 hrow4]
        exact hmv2
      · show ordM (J4 (sp + 1)) (tsum (J4 (sp + 1)) 4) (J4 (ad j + 1)) (cl.2 j).2.1 = ordM (candY (I (b + 9)) u t) (tsum (candY (I (b + 9)) u t) 4) (cl.2 j).1 (cl.2 j).2.1
        rw [tsum_congr 4 hrow4]
        have hjf : j < fill := Nat.lt_of_lt_of_le hj hcr.2.2.1
        have hm2 := (hcr.2.2.2.2.2.2.1 j hjf).1
        have hns := (hcr.2.2.2.2.2.2.1 j hjf).2
        refine ordM_congr hrow4 (fun i hi => ?_)
        rw [hJout (ad j + 1) (fun e => sp_ne hco hm2 (q := 0) (by omega) e.symm) (fun e => sp_ne hco hm2 (q := 1) (by omega) e.symm) (fun e => sp_ne hco hm2 (q := 2) (by omega) e.symm) (by omega)]
        exact (hVm j hj).1 i hi
  · rw [posOK_congr u hrow] at hok
    obtain ⟨J4, hJ4, hP⟩ : ∃ X : gJ, X = gu J13 (sp + 1) X2 ∧ gP G T I X Q O H14 := ⟨_, rfl, hP⟩
    have hJout : ∀ q, q ≠ k + 5 → q ≠ k + 6 → q ≠ k + 7 → q ≠ sp + 1 → J4 q = J q := fun q h5 h6 h7 h8 => by rw [hJ4, gu_ne _ _ h8, hJ13, gu_ne _ _ h8]; exact hJf q (by omega)
    refine W.eq (g2 := F0 m 17 ls [.int (nI 0)]) rfl ?_
    refine lv_if_ne (tgt := 21) hx hb dX0_search_17 (by decide) (fun q => absurd (by decide) q) (fun _ => ?_)
    refine W.widen (k := 2) (n := 8) (by omega) (by omega) ?_
    refine g_retcv hC hS ?_ dX0_search_20
    refine ⟨rfl, ?_⟩
    rw [cand_no (Or.inl hok)]
    exact scr_post hco hcr hcr hVm hSa hS1 hS2 hS3 hJout (fun _ _ => rfl) hP
