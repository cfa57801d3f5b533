/-! ===== balance ===== -/
theorem nI_nn {x : Int32} (h : ¬ x < nI 0) : ∃ j : Nat, j < 2 ^ 31 ∧ x = nI j := by
  obtain ⟨j, hj, rfl⟩ := nI_of (x := x) h
  exact ⟨j, hj, rfl⟩
theorem nI_n9 {j : Nat} (hj : j < 2 ^ 31) : ¬ nI j = -9 := fun h => by
  have := nI_toInt hj
  rw [h] at this
  have e : (-9 : Int32).toInt = -9 := by decide
  omega
theorem nI_mul69 {j : Nat} : nI j * nI 69 = nI (j * 69) := nI_mul _ _
theorem nI_rem69 {j l : Nat} (hj : j < 69) (hl : l < 69) : nI (j * 69 + l) - nI (j * 69 + l) / nI 69 * nI 69 = nI l := by
  rw [(nI_div69 hj hl).1, nI_mul69, nI_subn (by omega)]
  rw [show j * 69 + l - j * 69 = l from by omega]
set_option maxHeartbeats 4000000 in
set_option maxRecDepth 100000 in
theorem c_X4_balance (l : Launch) {G : gG} {T : gTy} {I : gI} {J : gJ} {Q : gR} {O : gO} {H : Heap} (hP : gP G T I J Q O H) {g r d mr md : Nat} {ck : Bool} {cr cd : CL} {Sr Sd : Nat → Prop} {b f : Int32} (hg : isGT T J Q O g r d mr md ck cr cd Sr Sd) (hck : ckOK ck cr cd mr md (I (r + 9)) (I (d + 9))) : Met l yX4_balance (gw yX4_balance cX4_balance 6 (some (.long))) ({ frames := 7, cells := 900, slots := 3600, locals := 154 } : Room) (gPc G H [.ref g, .int b, .int f]) (gQc (gF T H) (fun x H1 => rBalance (gsI I g r d mr md) (fun x1 s1 => x = some (.long x1) ∧ gtG G T H.size g s1 H1) b f)) 900 3600 (gF T H) := by
  refine g_met [(0, .ref g), (1, .int b), (2, .int f)] (by decide) rfl (by exact Nat.le_of_ble_eq_true rfl) ?_
  intro p e s m below meth c hC hs ls hl
  have hx := hC.1.1
  have hb := hC.1.2.1
  have hS : va_S (gF T H) s.heap H [] := hs ▸ va_S.rf
  have hTA : ∀ q, (T q).1 ≠ 0 → gF T H q := fun q h => Or.inl h
  have hA : ∀ q, s.heap.size ≤ q → gF T H q := fun q h => Or.inr (hs ▸ h)
  generalize hAe : gF T H = A at hS hTA hA ⊢
  have hg_lo8 := hg.2.2.2.2.2.2.2.2.1.2.2.2.2.2.2.2.2.1
  have hg_hi8 := hg.2.2.2.2.2.2.2.2.1.2.2.2.2.2.2.2.2.2
  have hg_lo9 := hg.2.2.2.2.2.2.2.2.2.1.2.2.2.2.2.2.2.2.1
  have hg_hi9 := hg.2.2.2.2.2.2.2.2.2.1.2.2.2.2.2.2.2.2.2
  have hg_ad := hg.2.2.2.2.2.2.2.2.2.2.2.2.2.2.2.2.1
  refine lv_aload_n hx hb dX4_balance_0 rfl (lv_at hl 0 rfl) ?_
  refine g_cc (g_rV (As := []) hC hP (c_X4_knowCorners l hP (g := g) (by first | assumption | omega) (by first | assumption | omega)) hg.1 rfl ⟨q2_84, q2_81, q2_83, qs_9, q1_1⟩ dd_X4_knowCorners ⟨Nat.le_of_ble_eq_true rfl, Nat.le_of_ble_eq_true rfl, rfl, rfl⟩ hl.1 rfl (Nat.le_of_ble_eq_true rfl) dX4_balance_1 ⟨Nat.le_of_ble_eq_true rfl, Nat.le_of_ble_eq_true rfl⟩) hS (fun q h => h.elim (hTA q) (fun z => hA q (Nat.le_trans hS.1 z))) (fun r5 H1 locs2 hq6 hS hz3 hfr4 => ?_)
  obtain ⟨rfl, T7, J8, Q9, O10, Sr2, Sd2, hP, hE, hg2, hfr⟩ := hq6
  have hTA : ∀ q, (T7 q).1 ≠ 0 → A q := fun q hq => (hE q hq).elim (hTA q) (fun z => hA q (by first | (rw [hs]; exact z) | omega))
  obtain ⟨fr, sr, fd, sd, ar, ad, hgc⟩ := gt_C hg2 hg_hi8 hg_hi9
  obtain ⟨cr2, hcr2⟩ : ∃ x : CL, x = gsCr (gsI I g r d mr md) := ⟨_, rfl⟩
  obtain ⟨cd2, hcd2⟩ : ∃ x : CL, x = gsCd (gsI I g r d mr md) := ⟨_, rfl⟩
  have hg3 := hg2
  rw [← hcr2, ← hcd2] at hg2 hgc
  have hgc_c0 := hgc.1.2.2.1
  have hgc_f0 := hgc.1.2.2.2.1
  have hgc_c1 := hgc.2.1.2.2.1
  have hgc_f1 := hgc.2.1.2.2.2.1
  have hgc_r := hgc.2.2.2.2.2.2.1
  have hgc_d := hgc.2.2.2.2.2.2.2
  refine W.eq (g2 := F0 m 4 ls []) rfl ?_
  refine lv_aload_n hx hb dX4_balance_4 rfl (lv_at hl 0 rfl) ?_
  refine lv_iload_n hx hb dX4_balance_5 rfl (lv_at hl 1 rfl) ?_
  rcases Classical.em (b < nI 0) with hb0 | hb0
  · skip
    refine g_cp (g_rV (As := [.int b]) hC hP (c_X4_pairOf_neg l hP (g := g) (cr := cr2) (cd := cd2) (fr := fr) (sr := sr) (fd := fd) (sd := sd) (ar := ar) (ad := ad) (q := b) hg2 hgc hb0) hg2.1 rfl ⟨q2_174, q2_171, q2_173, qs_22, q1_1⟩ dd_X4_pairOf ⟨Nat.le_of_ble_eq_true rfl, Nat.le_of_ble_eq_true rfl, rfl, rfl⟩ hl.1 rfl (Nat.le_of_ble_eq_true rfl) dX4_balance_6 ⟨Nat.le_of_ble_eq_true rfl, Nat.le_of_ble_eq_true rfl⟩) ?_
    refine W.eq (g2 := F0 m 9 ls [.int (-9)]) rfl ?_
    refine lv_istore_n (lv' := [(3, .int (-9)), (0, .ref g), (1, .int b), (2, .int f)]) hx hb dX4_balance_9 rfl hl (by decide) rfl (fun ls hl => ?_)
    refine lv_iload_n hx hb dX4_balance_10 rfl (lv_at hl 0 rfl) ?_
    refine lv_bipush (v := (-9)) hx hb dX4_balance_11 (by decide) ?_
    refine lv_icmp_ne (tgt := 22) hx hb dX4_balance_13 (by decide) (fun c13 => ?_) (fun c13 => ?_)
    · exact absurd rfl c13
    · refine lv_aload_n hx hb dX4_balance_16 rfl (lv_at hl 1 rfl) ?_
      refine lv_iconst (v := (-1)) hx hb dX4_balance_17 (by decide) ?_
      refine g_cc (g_rV (As := [.int (-1 : Int32)]) hC hP (c_X4_refuseAmongLongs l hP (g := g) (q := (-1 : Int32)) (j := 1) (by first | assumption | omega) (by decide) (by omega)) hg2.1 rfl ⟨q1_194, q1_191, q1_193, qs_4, q1_1⟩ dd_X4_refuseAmongLongs ⟨Nat.le_of_ble_eq_true rfl, Nat.le_of_ble_eq_true rfl, rfl, rfl⟩ hl.1 rfl (Nat.le_of_ble_eq_true rfl) dX4_balance_18 ⟨Nat.le_of_ble_eq_true rfl, Nat.le_of_ble_eq_true rfl⟩) hS (fun q h => h.elim (hTA q) (fun z => hA q (Nat.le_trans hS.1 z))) (fun r15 H11 locs12 hq16 hS hz13 hfr14 => ?_)
      obtain ⟨rfl, hP⟩ := hq16
      obtain ⟨I17, hI17, hP⟩ : ∃ I17 : gI, I17 = au I (g + 28) 1 (I (g + 28) 1 + 1) ∧ gP G T7 I17 J8 Q9 O10 H11 := ⟨_, rfl, hP⟩
      refine W.eq (g2 := F0 m 21 ls [.long (4000000000000000000 - (-1 : Int32).toInt64)]) rfl ?_
      refine W.widen (k := 900) (n := 3600) (by omega) (by omega) ?_
      refine g_retcl hC hS ?_ dX4_balance_21
      exact Or.inl ⟨Or.inl hb0, rfl, gt_kref hE hg3 hI17 hP⟩
  · obtain ⟨bb, hbb, rfl⟩ := nI_nn hb0
    refine g_cp (g_rV (As := [.int (nI bb)]) hC hP (c_X4_pairOf l hP (g := g) (cr := cr2) (cd := cd2) (fr := fr) (sr := sr) (fd := fd) (sd := sd) (ar := ar) (ad := ad) (bb := bb) hg2 hgc hbb) hg2.1 rfl ⟨q2_174, q2_171, q2_173, qs_22, q1_1⟩ dd_X4_pairOf ⟨Nat.le_of_ble_eq_true rfl, Nat.le_of_ble_eq_true rfl, rfl, rfl⟩ hl.1 rfl (Nat.le_of_ble_eq_true rfl) dX4_balance_6 ⟨Nat.le_of_ble_eq_true rfl, Nat.le_of_ble_eq_true rfl⟩) ?_
    refine W.eq (g2 := F0 m 9 ls [.int (oI (pairP cr2 cd2 bb))]) rfl ?_
    cases hpp : pairP cr2 cd2 bb
    · refine g_topi (y := (-9)) (by first | rfl | (rw [hpp]; rfl)) ?_
      refine lv_istore_n (lv' := [(3, .int (-9)), (0, .ref g), (1, .int (nI bb)), (2, .int f)]) hx hb dX4_balance_9 rfl hl (by decide) rfl (fun ls hl => ?_)
      refine lv_iload_n hx hb dX4_balance_10 rfl (lv_at hl 0 rfl) ?_
      refine lv_bipush (v := (-9)) hx hb dX4_balance_11 (by decide) ?_
      refine lv_icmp_ne (tgt := 22) hx hb dX4_balance_13 (by decide) (fun c13 => ?_) (fun c13 => ?_)
      · exact absurd rfl c13
      · refine lv_aload_n hx hb dX4_balance_16 rfl (lv_at hl 1 rfl) ?_
        refine lv_iconst (v := (-1)) hx hb dX4_balance_17 (by decide) ?_
        refine g_cc (g_rV (As := [.int (-1 : Int32)]) hC hP (c_X4_refuseAmongLongs l hP (g := g) (q := (-1 : Int32)) (j := 1) (by first | assumption | omega) (by decide) (by omega)) hg2.1 rfl ⟨q1_194, q1_191, q1_193, qs_4, q1_1⟩ dd_X4_refuseAmongLongs ⟨Nat.le_of_ble_eq_true rfl, Nat.le_of_ble_eq_true rfl, rfl, rfl⟩ hl.1 rfl (Nat.le_of_ble_eq_true rfl) dX4_balance_18 ⟨Nat.le_of_ble_eq_true rfl, Nat.le_of_ble_eq_true rfl⟩) hS (fun q h => h.elim (hTA q) (fun z => hA q (Nat.le_trans hS.1 z))) (fun r22 H18 locs19 hq23 hS hz20 hfr21 => ?_)
        obtain ⟨rfl, hP⟩ := hq23
        obtain ⟨I24, hI24, hP⟩ : ∃ I24 : gI, I24 = au I (g + 28) 1 (I (g + 28) 1 + 1) ∧ gP G T7 I24 J8 Q9 O10 H18 := ⟨_, rfl, hP⟩
        refine W.eq (g2 := F0 m 21 ls [.long (4000000000000000000 - (-1 : Int32).toInt64)]) rfl ?_
        refine W.widen (k := 900) (n := 3600) (by omega) (by omega) ?_
        refine g_retcl hC hS ?_ dX4_balance_21
        exact Or.inl ⟨Or.inr ⟨bb, hbb, rfl, (by rw [← hcr2, ← hcd2]; exact hpp)⟩, rfl, gt_kref hE hg3 hI24 hP⟩
    · rename_i zz
      obtain ⟨j, lq, hj, hlq, hfit, hbp, rfl⟩ := pairP_inv hgc_d hpp
      refine g_topi (y := nI (j * 69 + lq)) (by first | rfl | (rw [hpp]; rfl)) ?_
      have hdr := nI_rem69 (j := j) (l := lq) (by omega) (by omega)
      have hdm := nI_div69 (j := j) (l := lq) (by omega) (by omega)
      have hmr24 := (hgc.1.2.2.2.2.2.2.1 j (by omega)).1
      have hvr25 := (hgc.2.2.1 j (by omega)).2
      have hkr26 := hgc.2.2.2.2.1 j (by omega)
      have hmd27 := (hgc.2.1.2.2.2.2.2.2.1 lq (by omega)).1
      have hvd28 := (hgc.2.2.2.1 lq (by omega)).2
      have hkd29 := hgc.2.2.2.2.2.1 lq (by omega)
      refine lv_istore_n (lv' := [(3, .int (nI (j * 69 + lq))), (0, .ref g), (1, .int (nI bb)), (2, .int f)]) hx hb dX4_balance_9 rfl hl (by decide) rfl (fun ls hl => ?_)
      refine lv_iload_n hx hb dX4_balance_10 rfl (lv_at hl 0 rfl) ?_
      refine lv_bipush (v := (-9)) hx hb dX4_balance_11 (by decide) ?_
      refine lv_icmp_ne (tgt := 22) hx hb dX4_balance_13 (by decide) (fun c13 => ?_) (fun c13 => ?_)
      · refine lv_aload_n hx hb dX4_balance_22 rfl (lv_at hl 1 rfl) ?_
        refine g_get hC hP hg2.1 rfl inX4 0 (by decide) q1_115 hg2.2.1 dX4_balance_23 ?_
        refine g_get hC hP hg2.2.2.2.2.2.2.2.2.1.1 rfl inX3 1 (by decide) q1_80 hg2.2.2.2.2.2.2.2.2.1.2.2.1 dX4_balance_26 ?_
        refine lv_iload_n hx hb dX4_balance_29 rfl (lv_at hl 0 rfl) ?_
        refine lv_bipush (v := nI 69) hx hb dX4_balance_30 (by decide) ?_
        refine lv_idiv hx hb dX4_balance_32 (by decide) ?_
        refine g_topi (y := nI j) hdm.1 ?_
        refine g_cp (g_rV (As := [.int (nI j)]) hC hP (c_X0_mixAt_in l hP (k := r + 1) (cnt := cr2.1) (fill := fr) (sp := sr) (j := j) (ad := ar) hg2.2.2.2.2.2.2.2.2.2.2.2.2.1 hgc.1 (by first | assumption | omega)) hg2.2.2.2.2.2.2.2.2.2.2.2.2.1.1 rfl ⟨q2_153, q2_150, q2_151, q2_152, q1_3⟩ dd_X0_mixAt ⟨Nat.le_of_ble_eq_true rfl, Nat.le_of_ble_eq_true rfl, rfl, rfl⟩ hl.1 rfl (Nat.le_of_ble_eq_true rfl) dX4_balance_33 ⟨Nat.le_of_ble_eq_true rfl, Nat.le_of_ble_eq_true rfl⟩) ?_
        refine W.eq (g2 := F0 m 36 ls [.ref (ar j)]) rfl ?_
        refine lv_astore (lv' := [(4, .ref (ar j)), (3, .int (nI (j * 69 + lq))), (0, .ref g), (1, .int (nI bb)), (2, .int f)]) hx hb dX4_balance_36 hl (by decide) rfl (fun ls hl => ?_)
        refine lv_aload_n hx hb dX4_balance_38 rfl (lv_at hl 2 rfl) ?_
        refine g_get hC hP hg2.1 rfl inX4 1 (by decide) q1_116 hg2.2.2.1 dX4_balance_39 ?_
        refine g_get hC hP hg2.2.2.2.2.2.2.2.2.2.1.1 rfl inX3 1 (by decide) q1_80 hg2.2.2.2.2.2.2.2.2.2.1.2.2.1 dX4_balance_42 ?_
        refine lv_iload_n hx hb dX4_balance_45 rfl (lv_at hl 1 rfl) ?_
        refine lv_bipush (v := nI 69) hx hb dX4_balance_46 (by decide) ?_
        refine lv_irem hx hb dX4_balance_48 (by decide) ?_
        refine g_topi (y := nI lq) hdr ?_
        refine g_cp (g_rV (As := [.int (nI lq)]) hC hP (c_X0_mixAt_in l hP (k := d + 1) (cnt := cd2.1) (fill := fd) (sp := sd) (j := lq) (ad := ad) hg2.2.2.2.2.2.2.2.2.2.2.2.2.2.1 hgc.2.1 (by first | assumption | omega)) hg2.2.2.2.2.2.2.2.2.2.2.2.2.2.1.1 rfl ⟨q2_153, q2_150, q2_151, q2_152, q1_3⟩ dd_X0_mixAt ⟨Nat.le_of_ble_eq_true rfl, Nat.le_of_ble_eq_true rfl, rfl, rfl⟩ hl.1 rfl (Nat.le_of_ble_eq_true rfl) dX4_balance_49 ⟨Nat.le_of_ble_eq_true rfl, Nat.le_of_ble_eq_true rfl⟩) ?_
        refine W.eq (g2 := F0 m 52 ls [.ref (ad lq)]) rfl ?_
        refine lv_astore (lv' := [(5, .ref (ad lq)), (4, .ref (ar j)), (3, .int (nI (j * 69 + lq))), (0, .ref g), (1, .int (nI bb)), (2, .int f)]) hx hb dX4_balance_52 hl (by decide) rfl (fun ls hl => ?_)
        refine lv_aload hx hb dX4_balance_54 (lv_at hl 1 rfl) ?_
        refine lv_ifnull hx hb dX4_balance_56 ?_
        refine lv_aload hx hb dX4_balance_59 (lv_at hl 0 rfl) ?_
        refine lv_ifnonnull (tgt := 70) hx hb dX4_balance_61 (by decide) ?_
        refine lv_iload_n hx hb dX4_balance_70 rfl (lv_at hl 5 rfl) ?_
        refine lv_if_lt (tgt := 80) hx hb dX4_balance_71 (by decide) (fun c71 => ?_) (fun c71 => ?_)
        · refine lv_aload_n hx hb dX4_balance_80 rfl (lv_at hl 3 rfl) ?_
          refine lv_bipush (v := (-2)) hx hb dX4_balance_81 (by decide) ?_
          refine g_cc (g_rV (As := [.int (-2 : Int32)]) hC hP (c_X4_refuseAmongLongs l hP (g := g) (q := (-2 : Int32)) (j := 2) (by first | assumption | omega) (by decide) (by omega)) hg2.1 rfl ⟨q1_194, q1_191, q1_193, qs_4, q1_1⟩ dd_X4_refuseAmongLongs ⟨Nat.le_of_ble_eq_true rfl, Nat.le_of_ble_eq_true rfl, rfl, rfl⟩ hl.1 rfl (Nat.le_of_ble_eq_true rfl) dX4_balance_83 ⟨Nat.le_of_ble_eq_true rfl, Nat.le_of_ble_eq_true rfl⟩) hS (fun q h => h.elim (hTA q) (fun z => hA q (Nat.le_trans hS.1 z))) (fun r35 H31 locs32 hq36 hS hz33 hfr34 => ?_)
          obtain ⟨rfl, hP⟩ := hq36
          obtain ⟨I37, hI37, hP⟩ : ∃ I37 : gI, I37 = au I (g + 28) 2 (I (g + 28) 2 + 1) ∧ gP G T7 I37 J8 Q9 O10 H31 := ⟨_, rfl, hP⟩
          refine W.eq (g2 := F0 m 86 ls [.long (4000000000000000000 - (-2 : Int32).toInt64)]) rfl ?_
          refine W.widen (k := 900) (n := 3600) (by omega) (by omega) ?_
          refine g_retcl hC hS ?_ dX4_balance_86
          refine Or.inr ⟨bb, j, lq, hbb, rfl, ?_, ?_, ?_, ?_, ?_⟩
          · rw [← hcr2]; exact hj
          · rw [← hcd2]; exact hlq
          · rw [← hcr2, ← hcd2]; exact hfit
          · rw [← hcr2, ← hcd2]; exact hbp
          · rw [← hcr2, ← hcd2]
            exact Or.inl ⟨(by first | exact Or.inl c71 | exact Or.inr (Int32.not_le.mp c77)), rfl, gt_kref hE hg3 hI37 hP⟩
        · refine lv_iload_n hx hb dX4_balance_74 rfl (lv_at hl 5 rfl) ?_
          refine lv_bipush (v := nI 6) hx hb dX4_balance_75 (by decide) ?_
          refine lv_icmp_le (tgt := 87) hx hb dX4_balance_77 (by decide) (fun c77 => ?_) (fun c77 => ?_)
          · refine lv_iload_n hx hb dX4_balance_87 rfl (lv_at hl 5 rfl) ?_
            by_cases hsw0 : f = 0
            · refine lv_tableIn (tgt := 124) (off := 36) hx hb dX4_balance_88 (by rw [hsw0]; decide) (by rw [hsw0]; decide) (by rw [hsw0]; decide) (by decide) ?_
              refine lv_iload_n hx hb dX4_balance_124 rfl (lv_at hl 2 rfl) ?_
              refine lv_bipush (v := nI 69) hx hb dX4_balance_125 (by decide) ?_
              refine lv_idiv hx hb dX4_balance_127 (by decide) ?_
              refine g_topi (y := nI j) hdm.1 ?_
              refine lv_i2l hx hb dX4_balance_128 rfl ?_
              refine W.widen (k := 900) (n := 3600) (by omega) (by omega) ?_
              refine g_retcl hC hS ?_ dX4_balance_129
              refine Or.inr ⟨bb, j, lq, hbb, rfl, ?_, ?_, ?_, ?_, ?_⟩
              · rw [← hcr2]; exact hj
              · rw [← hcd2]; exact hlq
              · rw [← hcr2, ← hcd2]; exact hfit
              · rw [← hcr2, ← hcd2]; exact hbp
              · rw [← hcr2, ← hcd2]
                exact Or.inr (Or.inl ⟨hsw0, rfl, gt_know hE hg3 hP⟩)
            by_cases hsw1 : f = 1
            · refine lv_tableIn (tgt := 130) (off := 42) hx hb dX4_balance_88 (by rw [hsw1]; decide) (by rw [hsw1]; decide) (by rw [hsw1]; decide) (by decide) ?_
              refine lv_iload_n hx hb dX4_balance_130 rfl (lv_at hl 2 rfl) ?_
              refine lv_bipush (v := nI 69) hx hb dX4_balance_131 (by decide) ?_
              refine lv_irem hx hb dX4_balance_133 (by decide) ?_
              refine g_topi (y := nI lq) hdr ?_
              refine lv_i2l hx hb dX4_balance_134 rfl ?_
              refine W.widen (k := 900) (n := 3600) (by omega) (by omega) ?_
              refine g_retcl hC hS ?_ dX4_balance_135
              refine Or.inr ⟨bb, j, lq, hbb, rfl, ?_, ?_, ?_, ?_, ?_⟩
              · rw [← hcr2]; exact hj
              · rw [← hcd2]; exact hlq
              · rw [← hcr2, ← hcd2]; exact hfit
              · rw [← hcr2, ← hcd2]; exact hbp
              · rw [← hcr2, ← hcd2]
                exact Or.inr (Or.inr (Or.inl ⟨hsw1, rfl, gt_know hE hg3 hP⟩))
            by_cases hsw2 : f = 2
            · refine lv_tableIn (tgt := 136) (off := 48) hx hb dX4_balance_88 (by rw [hsw2]; decide) (by rw [hsw2]; decide) (by rw [hsw2]; decide) (by decide) ?_
              refine lv_aload_n hx hb dX4_balance_136 rfl (lv_at hl 3 rfl) ?_
              refine lv_aload hx hb dX4_balance_137 (lv_at hl 1 rfl) ?_
              refine lv_aload hx hb dX4_balance_139 (lv_at hl 0 rfl) ?_
              refine g_cp (g_rV (As := [.ref (ar j), .ref (ad lq)]) hC hP (c_X4_kindOf l hP (g := g) (cr := cr2) (cd := cd2) (x := ar j) (y := ad lq) (u := (cr2.2 j).2.2.1) (n := (cr2.2 j).2.2.2) (u2 := (cd2.2 lq).2.2.1) (n2 := (cd2.2 lq).2.2.2) (t := (cr2.2 j).2.1) (t2 := (cd2.2 lq).2.1) hg2 hmr24 hvr25 hmd27 hvd28 hkr26.1 hkr26.2 hkd29.1 hkd29.2) hg2.1 rfl ⟨q2_178, q2_175, q2_177, qs_23, q1_1⟩ dd_X4_kindOf ⟨Nat.le_of_ble_eq_true rfl, Nat.le_of_ble_eq_true rfl, rfl, rfl⟩ hl.1 rfl (Nat.le_of_ble_eq_true rfl) dX4_balance_141 ⟨Nat.le_of_ble_eq_true rfl, Nat.le_of_ble_eq_true rfl⟩) ?_
              refine W.eq (g2 := F0 m 144 ls [.int (nI (if popc ((cr2.2 j).2.2.1) = 1 ∧ popc ((cd2.2 lq).2.2.1) = 1 then (if ((cr2.2 j).2.2.1) = ((cd2.2 lq).2.2.2) ∧ ((cd2.2 lq).2.2.1) = ((cr2.2 j).2.2.2) then 4 else 3) else if popc ((cr2.2 j).2.2.1) = mr ∧ popc ((cd2.2 lq).2.2.1) = md then 2 else if popc ((cr2.2 j).2.2.1) = popc ((cd2.2 lq).2.2.1) then 1 else 0))]) rfl ?_
              refine lv_i2l hx hb dX4_balance_144 rfl ?_
              refine W.widen (k := 900) (n := 3600) (by omega) (by omega) ?_
              refine g_retcl hC hS ?_ dX4_balance_145
              refine Or.inr ⟨bb, j, lq, hbb, rfl, ?_, ?_, ?_, ?_, ?_⟩
              · rw [← hcr2]; exact hj
              · rw [← hcd2]; exact hlq
              · rw [← hcr2, ← hcd2]; exact hfit
              · rw [← hcr2, ← hcd2]; exact hbp
              · rw [← hcr2, ← hcd2]
                exact Or.inr (Or.inr (Or.inr (Or.inl ⟨hsw2, rfl, gt_know hE hg3 hP⟩)))
            by_cases hsw3 : f = 3
            · refine lv_tableIn (tgt := 146) (off := 58) hx hb dX4_balance_88 (by rw [hsw3]; decide) (by rw [hsw3]; decide) (by rw [hsw3]; decide) (by decide) ?_
              refine lv_aload_n hx hb dX4_balance_146 rfl (lv_at hl 3 rfl) ?_
              refine g_get hC hP hg2.1 rfl inX4 0 (by decide) q1_115 hg2.2.1 dX4_balance_147 ?_
              refine lv_aload hx hb dX4_balance_150 (lv_at hl 1 rfl) ?_
              refine lv_aload hx hb dX4_balance_152 (lv_at hl 0 rfl) ?_
              refine lv_iload_n hx hb dX4_balance_154 rfl (lv_at hl 5 rfl) ?_
              refine lv_iconst (v := nI 3) hx hb dX4_balance_155 (by decide) ?_
              refine lv_isub hx hb dX4_balance_156 ?_
              refine g_cp (g_rV (As := [.ref (ar j), .ref (ad lq), .int (f - (nI 3))]) hC hP (c_X3_meanPart l hP (b := r) (ch := mr) (x := ar j) (y := ad lq) (u := (cr2.2 j).2.2.1) (n := (cr2.2 j).2.2.2) (u2 := (cd2.2 lq).2.2.1) (n2 := (cd2.2 lq).2.2.2) (t := (cr2.2 j).2.1) (t2 := (cd2.2 lq).2.1) (q := f - (nI 3)) hg2.2.2.2.2.2.2.2.2.1 hmr24 hvr25 hmd27 hvd28) hg2.2.2.2.2.2.2.2.2.1.1 rfl ⟨q1_220, q1_217, q1_218, q1_219, q1_2⟩ dd_X3_meanPart ⟨Nat.le_of_ble_eq_true rfl, Nat.le_of_ble_eq_true rfl, rfl, rfl⟩ hl.1 rfl (Nat.le_of_ble_eq_true rfl) dX4_balance_157 ⟨Nat.le_of_ble_eq_true rfl, Nat.le_of_ble_eq_true rfl⟩) ?_
              refine W.eq (g2 := F0 m 160 ls [.long (lowS (msum (I (r + 9)) (J8 ((ar j) + 1)) (J8 ((ad lq) + 1)) mr) (((cr2.2 j).2.1) * ((cd2.2 lq).2.1)) (f - (nI 3)))]) rfl ?_
              refine W.widen (k := 900) (n := 3600) (by omega) (by omega) ?_
              refine g_retcl hC hS ?_ dX4_balance_160
              refine Or.inr ⟨bb, j, lq, hbb, rfl, ?_, ?_, ?_, ?_, ?_⟩
              · rw [← hcr2]; exact hj
              · rw [← hcd2]; exact hlq
              · rw [← hcr2, ← hcd2]; exact hfit
              · rw [← hcr2, ← hcd2]; exact hbp
              · rw [← hcr2, ← hcd2]
                exact Or.inr (Or.inr (Or.inr (Or.inr (Or.inl ⟨(by first | exact Or.inl hsw3 | exact Or.inr hsw4), (congrArg (fun z => some (Value.long (lowS z ((cr2.2 j).2.1 * (cd2.2 lq).2.1) (f - nI 3)))) (msum_congr (hgc.2.2.2.1 lq (by omega)).1 mr (fun q hq => (hgc.2.2.1 j (by omega)).1 q (Nat.lt_of_lt_of_le hq hg_hi8)))), gt_know hE hg3 hP⟩))))
            by_cases hsw4 : f = 4
            · refine lv_tableIn (tgt := 146) (off := 58) hx hb dX4_balance_88 (by rw [hsw4]; decide) (by rw [hsw4]; decide) (by rw [hsw4]; decide) (by decide) ?_
              refine lv_aload_n hx hb dX4_balance_146 rfl (lv_at hl 3 rfl) ?_
              refine g_get hC hP hg2.1 rfl inX4 0 (by decide) q1_115 hg2.2.1 dX4_balance_147 ?_
              refine lv_aload hx hb dX4_balance_150 (lv_at hl 1 rfl) ?_
              refine lv_aload hx hb dX4_balance_152 (lv_at hl 0 rfl) ?_
              refine lv_iload_n hx hb dX4_balance_154 rfl (lv_at hl 5 rfl) ?_
              refine lv_iconst (v := nI 3) hx hb dX4_balance_155 (by decide) ?_
              refine lv_isub hx hb dX4_balance_156 ?_
              refine g_cp (g_rV (As := [.ref (ar j), .ref (ad lq), .int (f - (nI 3))]) hC hP (c_X3_meanPart l hP (b := r) (ch := mr) (x := ar j) (y := ad lq) (u := (cr2.2 j).2.2.1) (n := (cr2.2 j).2.2.2) (u2 := (cd2.2 lq).2.2.1) (n2 := (cd2.2 lq).2.2.2) (t := (cr2.2 j).2.1) (t2 := (cd2.2 lq).2.1) (q := f - (nI 3)) hg2.2.2.2.2.2.2.2.2.1 hmr24 hvr25 hmd27 hvd28) hg2.2.2.2.2.2.2.2.2.1.1 rfl ⟨q1_220, q1_217, q1_218, q1_219, q1_2⟩ dd_X3_meanPart ⟨Nat.le_of_ble_eq_true rfl, Nat.le_of_ble_eq_true rfl, rfl, rfl⟩ hl.1 rfl (Nat.le_of_ble_eq_true rfl) dX4_balance_157 ⟨Nat.le_of_ble_eq_true rfl, Nat.le_of_ble_eq_true rfl⟩) ?_
              refine W.eq (g2 := F0 m 160 ls [.long (lowS (msum (I (r + 9)) (J8 ((ar j) + 1)) (J8 ((ad lq) + 1)) mr) (((cr2.2 j).2.1) * ((cd2.2 lq).2.1)) (f - (nI 3)))]) rfl ?_
              refine W.widen (k := 900) (n := 3600) (by omega) (by omega) ?_
              refine g_retcl hC hS ?_ dX4_balance_160
              refine Or.inr ⟨bb, j, lq, hbb, rfl, ?_, ?_, ?_, ?_, ?_⟩
              · rw [← hcr2]; exact hj
              · rw [← hcd2]; exact hlq
              · rw [← hcr2, ← hcd2]; exact hfit
              · rw [← hcr2, ← hcd2]; exact hbp
              · rw [← hcr2, ← hcd2]
                exact Or.inr (Or.inr (Or.inr (Or.inr (Or.inl ⟨(by first | exact Or.inl hsw3 | exact Or.inr hsw4), (congrArg (fun z => some (Value.long (lowS z ((cr2.2 j).2.1 * (cd2.2 lq).2.1) (f - nI 3)))) (msum_congr (hgc.2.2.2.1 lq (by omega)).1 mr (fun q hq => (hgc.2.2.1 j (by omega)).1 q (Nat.lt_of_lt_of_le hq hg_hi8)))), gt_know hE hg3 hP⟩))))
            refine lv_tableOut (tgt := 161) hx hb dX4_balance_88 (g_out (by decide) (k04 hsw0 hsw1 hsw2 hsw3 hsw4)) (by decide) ?_
            refine lv_aload_n hx hb dX4_balance_161 rfl (lv_at hl 3 rfl) ?_
            refine g_get hC hP hg2.1 rfl inX4 1 (by decide) q1_116 hg2.2.2.1 dX4_balance_162 ?_
            refine lv_aload hx hb dX4_balance_165 (lv_at hl 0 rfl) ?_
            refine lv_aload hx hb dX4_balance_167 (lv_at hl 1 rfl) ?_
            refine lv_iload_n hx hb dX4_balance_169 rfl (lv_at hl 5 rfl) ?_
            refine lv_iconst (v := nI 5) hx hb dX4_balance_170 (by decide) ?_
            refine lv_isub hx hb dX4_balance_171 ?_
            refine g_cp (g_rV (As := [.ref (ad lq), .ref (ar j), .int (f - (nI 5))]) hC hP (c_X3_meanPart l hP (b := d) (ch := md) (x := ad lq) (y := ar j) (u := (cd2.2 lq).2.2.1) (n := (cd2.2 lq).2.2.2) (u2 := (cr2.2 j).2.2.1) (n2 := (cr2.2 j).2.2.2) (t := (cd2.2 lq).2.1) (t2 := (cr2.2 j).2.1) (q := f - (nI 5)) hg2.2.2.2.2.2.2.2.2.2.1 hmd27 hvd28 hmr24 hvr25) hg2.2.2.2.2.2.2.2.2.2.1.1 rfl ⟨q1_220, q1_217, q1_218, q1_219, q1_2⟩ dd_X3_meanPart ⟨Nat.le_of_ble_eq_true rfl, Nat.le_of_ble_eq_true rfl, rfl, rfl⟩ hl.1 rfl (Nat.le_of_ble_eq_true rfl) dX4_balance_172 ⟨Nat.le_of_ble_eq_true rfl, Nat.le_of_ble_eq_true rfl⟩) ?_
            refine W.eq (g2 := F0 m 175 ls [.long (lowS (msum (I (d + 9)) (J8 ((ad lq) + 1)) (J8 ((ar j) + 1)) md) (((cd2.2 lq).2.1) * ((cr2.2 j).2.1)) (f - (nI 5)))]) rfl ?_
            refine W.widen (k := 900) (n := 3600) (by omega) (by omega) ?_
            refine g_retcl hC hS ?_ dX4_balance_175
            refine Or.inr ⟨bb, j, lq, hbb, rfl, ?_, ?_, ?_, ?_, ?_⟩
            · rw [← hcr2]; exact hj
            · rw [← hcd2]; exact hlq
            · rw [← hcr2, ← hcd2]; exact hfit
            · rw [← hcr2, ← hcd2]; exact hbp
            · rw [← hcr2, ← hcd2]
              exact Or.inr (Or.inr (Or.inr (Or.inr (Or.inr ⟨⟨c71, Int32.not_lt.mpr c77, hsw0, hsw1, hsw2, hsw3, hsw4⟩, (congrArg (fun z => some (Value.long (lowS z ((cd2.2 lq).2.1 * (cr2.2 j).2.1) (f - nI 5)))) (msum_congr (hgc.2.2.1 j (by omega)).1 md (fun q hq => (hgc.2.2.2.1 lq (by omega)).1 q (Nat.lt_of_lt_of_le hq hg_hi9)))), gt_know hE hg3 hP⟩))))
          · refine lv_aload_n hx hb dX4_balance_80 rfl (lv_at hl 3 rfl) ?_
            refine lv_bipush (v := (-2)) hx hb dX4_balance_81 (by decide) ?_
            refine g_cc (g_rV (As := [.int (-2 : Int32)]) hC hP (c_X4_refuseAmongLongs l hP (g := g) (q := (-2 : Int32)) (j := 2) (by first | assumption | omega) (by decide) (by omega)) hg2.1 rfl ⟨q1_194, q1_191, q1_193, qs_4, q1_1⟩ dd_X4_refuseAmongLongs ⟨Nat.le_of_ble_eq_true rfl, Nat.le_of_ble_eq_true rfl, rfl, rfl⟩ hl.1 rfl (Nat.le_of_ble_eq_true rfl) dX4_balance_83 ⟨Nat.le_of_ble_eq_true rfl, Nat.le_of_ble_eq_true rfl⟩) hS (fun q h => h.elim (hTA q) (fun z => hA q (Nat.le_trans hS.1 z))) (fun r42 H38 locs39 hq43 hS hz40 hfr41 => ?_)
            obtain ⟨rfl, hP⟩ := hq43
            obtain ⟨I44, hI44, hP⟩ : ∃ I44 : gI, I44 = au I (g + 28) 2 (I (g + 28) 2 + 1) ∧ gP G T7 I44 J8 Q9 O10 H38 := ⟨_, rfl, hP⟩
            refine W.eq (g2 := F0 m 86 ls [.long (4000000000000000000 - (-2 : Int32).toInt64)]) rfl ?_
            refine W.widen (k := 900) (n := 3600) (by omega) (by omega) ?_
            refine g_retcl hC hS ?_ dX4_balance_86
            refine Or.inr ⟨bb, j, lq, hbb, rfl, ?_, ?_, ?_, ?_, ?_⟩
            · rw [← hcr2]; exact hj
            · rw [← hcd2]; exact hlq
            · rw [← hcr2, ← hcd2]; exact hfit
            · rw [← hcr2, ← hcd2]; exact hbp
            · rw [← hcr2, ← hcd2]
              exact Or.inl ⟨(by first | exact Or.inl c71 | exact Or.inr (Int32.not_le.mp c77)), rfl, gt_kref hE hg3 hI44 hP⟩
      · exact absurd c13 (nI_n9 (by omega))
