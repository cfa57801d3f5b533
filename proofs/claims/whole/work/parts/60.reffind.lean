/-! ===== the reference: findCorners ===== -/
set_option maxHeartbeats 4000000 in
set_option maxRecDepth 100000 in
theorem c_X5_findCorners_0 (l : Launch) {G : gG} {T : gTy} {I : gI} {J : gJ} {Q : gR} {O : gO} {H : Heap} (hP : gP G T I J Q O H) {h : Nat} {st : GS} (hm : isMo T O h) (hs0 : moS I h st) (hbd0 : bdP (gsP0 st)) (hbd1 : bdP (gsP1 st)) : Met l yX5_findCorners (gw yX5_findCorners cX5_findCorners 7 (none)) ({ frames := 3, cells := 0, slots := 0, locals := 77 } : Room) (gPc G H [.ref h, .int (nI 0)]) (gQc (gF T H) (fun r H1 => r = none ∧ ∃ (I2 : gI) (J2 : gJ), gP G T I2 J2 Q O H1 ∧ crR I2 J2 h 0 (gsCr st) ∧ fcF I J I2 J2 h 0)) 0 0 (gF T H) := by
  refine g_met [(0, .ref h), (1, .int (nI 0))] (by decide) rfl (by exact Nat.le_of_ble_eq_true rfl) ?_
  intro p e s m below meth c hC hs ls hl
  have hx := hC.1.1
  have hb := hC.1.2.1
  have hS : va_S (gF T H) s.heap H [] := hs ▸ va_S.rf
  have hTA : ∀ q, (T q).1 ≠ 0 → gF T H q := fun q h => Or.inl h
  have hA : ∀ q, s.heap.size ≤ q → gF T H q := fun q h => Or.inr (hs ▸ h)
  generalize hAe : gF T H = A at hS hTA hA ⊢
  have hms := hs0.1
  have hns := hs0.2.1
  have p1 := pow16 (m := gsm st) (by omega)
  have p2 := pow16 (m := gsn st) (by omega)
  refine lv_aload_n hx hb dX5_findCorners_0 rfl (lv_at hl 0 rfl) ?_
  refine g_get hC hP hm.1 rfl inX5 9 (by decide) q3_15 hm.2.2.2.2.2.2.2.1.1 dX5_findCorners_1 ?_
  refine lv_iload_n hx hb dX5_findCorners_4 rfl (lv_at hl 1 rfl) ?_
  refine lv_iconst (v := nI 0) hx hb dX5_findCorners_5 (by decide) ?_
  refine g_iast hC hP hS hTA hm.2.2.2.2.2.2.2.1.2 (vp_in_nI (by omega) (by decide)) dX5_findCorners_6 (fun H1 locs2 hP hS hz4 => ?_)
  rw [show (nI 0).toNatClampNeg = 0 from nI_clamp (by omega)] at hP
  obtain ⟨I3, hI3, hP⟩ : ∃ X : gI, X = au I (h + 7) 0 (nI 0) ∧ gP G T X J Q O H1 := ⟨_, rfl, hP⟩
  refine lv_iconst (v := nI 1) hx hb dX5_findCorners_7 (by decide) ?_
  refine lv_istore_n (lv' := [(2, .int (nI 1)), (0, .ref h), (1, .int (nI 0))]) hx hb dX5_findCorners_8 rfl hl (by decide) rfl (fun ls hl => ?_)
  have L9 : ∀ (n9 : Nat) (i : Nat) (I9 : gI) (J9 : gJ), 17 ≤ n9 + i → (i ≤ 2 ^ gsm st - 1) → (crR I9 J9 h 0 (sU (gsP1 st) (gsn st) (2 ^ gsn st - 1) i)) → (fcF I J I9 J9 h 0) → ∀ (Hl : Heap) (lcl : List Loc), gP G T I9 J9 Q O Hl → va_S A s.heap Hl lcl → ∀ ls : Array Slot, lv_has ls 7 [(0, .ref h), (1, .int (nI 0)), (2, .int (nI (i + 1)))] → W p l e ({ frames := 3, cells := 0, slots := 0, locals := 77 } : Room) s m [.ref h, .int (nI 0)].toArray below meth c Hl lcl 0 0 (MQ below (gQc A (fun r H1 => r = none ∧ ∃ (I2 : gI) (J2 : gJ), gP G T I2 J2 Q O H1 ∧ crR I2 J2 h 0 (gsCr st) ∧ fcF I J I2 J2 h 0)) [.ref h, .int (nI 0)].toArray s 0 0 A) (F0 m 9 ls []) := by
    intro n9
    induction n9 with
    | zero => intro i I9 J9 hn9 hi f1 f2; exact absurd hn9 (by omega)
    | succ n9 ih9 =>
      intro i I9 J9 hn9 hi f1 f2 Hl lcl hP hS ls hl
      have hs9 := moS_fc hs0 f2
      refine lv_iload_n hx hb dX5_findCorners_9 rfl (lv_at hl 2 rfl) ?_
      refine lv_iconst (v := nI 1) hx hb dX5_findCorners_10 (by decide) ?_
      refine lv_aload_n hx hb dX5_findCorners_11 rfl (lv_at hl 0 rfl) ?_
      refine g_get hC hP hm.1 rfl inX5 0 (by decide) q3_6 hm.2.1.1 dX5_findCorners_12 ?_
      refine lv_iload_n hx hb dX5_findCorners_15 rfl (lv_at hl 1 rfl) ?_
      refine g_iald hC hP hm.2.1.2 (vp_in_nI (by omega) (by decide)) dX5_findCorners_16 ?_
      refine g_topi (y := nI (gsm st)) hs9.2.2.1 ?_
      refine lv_ishl hx hb dX5_findCorners_17 ?_
      refine g_topi (y := nI (2 ^ (gsm st))) (g_shl (by omega)) ?_
      refine lv_icmp_ge (tgt := 123) hx hb dX5_findCorners_18 (by decide) (fun c18 => ?_) (fun c18 => ?_)
      · have c18 := (nI_leI (by omega) (by omega)).mp c18
        refine g_retcv hC hS ?_ dX5_findCorners_123
        refine ⟨rfl, _, _, hP, ?_, f2⟩
        rw [show i = 2 ^ gsm st - 1 from by omega] at f1
        exact f1
      · have c18 := mt (nI_leI (by omega) (by omega)).mpr c18
        refine lv_iconst (v := nI 1) hx hb dX5_findCorners_21 (by decide) ?_
        refine lv_istore_n (lv' := [(3, .int (nI 1)), (0, .ref h), (1, .int (nI 0)), (2, .int (nI (i + 1)))]) hx hb dX5_findCorners_22 rfl hl (by decide) rfl (fun ls hl => ?_)
        have L23 : ∀ (n23 : Nat) (j : Nat) (I10 : gI) (J10 : gJ), 17 ≤ n23 + j → (j ≤ 2 ^ gsn st - 1) → (crR I10 J10 h 0 (sT (gsP1 st) (gsn st) (i + 1) j (sU (gsP1 st) (gsn st) (2 ^ gsn st - 1) i))) → (fcF I J I10 J10 h 0) → ∀ (Hl : Heap) (lcl : List Loc), gP G T I10 J10 Q O Hl → va_S A s.heap Hl lcl → ∀ ls : Array Slot, lv_has ls 7 [(0, .ref h), (1, .int (nI 0)), (2, .int (nI (i + 1))), (3, .int (nI (j + 1)))] → W p l e ({ frames := 3, cells := 0, slots := 0, locals := 77 } : Room) s m [.ref h, .int (nI 0)].toArray below meth c Hl lcl 0 0 (MQ below (gQc A (fun r H1 => r = none ∧ ∃ (I2 : gI) (J2 : gJ), gP G T I2 J2 Q O H1 ∧ crR I2 J2 h 0 (gsCr st) ∧ fcF I J I2 J2 h 0)) [.ref h, .int (nI 0)].toArray s 0 0 A) (F0 m 23 ls []) := by
          intro n23
          induction n23 with
          | zero => intro j I10 J10 hn23 hj f3 f4; exact absurd hn23 (by omega)
          | succ n23 ih23 =>
            intro j I10 J10 hn23 hj f3 f4 Hl lcl hP hS ls hl
            have hs10 := moS_fc hs0 f4
            refine lv_iload_n hx hb dX5_findCorners_23 rfl (lv_at hl 3 rfl) ?_
            refine lv_iconst (v := nI 1) hx hb dX5_findCorners_24 (by decide) ?_
            refine lv_aload_n hx hb dX5_findCorners_25 rfl (lv_at hl 0 rfl) ?_
            refine g_get hC hP hm.1 rfl inX5 0 (by decide) q3_6 hm.2.1.1 dX5_findCorners_26 ?_
            refine lv_iconst (v := nI 1) hx hb dX5_findCorners_29 (by decide) ?_
            refine lv_iload_n hx hb dX5_findCorners_30 rfl (lv_at hl 1 rfl) ?_
            refine lv_isub hx hb dX5_findCorners_31 ?_
            refine g_topi (y := nI 1) (by decide) ?_
            refine g_iald hC hP hm.2.1.2 (vp_in_nI (by omega) (by decide)) dX5_findCorners_32 ?_
            refine g_topi (y := nI (gsn st)) hs10.2.2.2.1 ?_
            refine lv_ishl hx hb dX5_findCorners_33 ?_
            refine g_topi (y := nI (2 ^ (gsn st))) (g_shl (by omega)) ?_
            refine lv_icmp_ge (tgt := 117) hx hb dX5_findCorners_34 (by decide) (fun c34 => ?_) (fun c34 => ?_)
            · have c34 := (nI_leI (by omega) (by omega)).mp c34
              refine lv_iinc (v := nI (i + 1 + 1)) (lv' := [(2, .int (nI (i + 1 + 1))), (0, .ref h), (1, .int (nI 0)), (3, .int (nI (j + 1)))]) hx hb dX5_findCorners_117 hl (k := 2) rfl (nI_inc _) (by decide) rfl (fun ls hl => ?_)
              refine lv_goto (tgt := 9) hx hb dX5_findCorners_120 (by decide) ?_
              exact ih9 (i + 1) I10 J10 (by omega) (by omega) (by rw [show j = 2 ^ gsn st - 1 from by omega] at f3; exact f3) f4 _ _ hP hS ls (lv_sub hl [1, 2, 0] rfl)
            · have c34 := mt (nI_leI (by omega) (by omega)).mpr c34
              have pb1 := popc_1 (u := i + 1) (by omega) (by omega)
              have pb2 := popc_1 (u := j + 1) (by omega) (by omega)
              refine lv_iload_n hx hb dX5_findCorners_37 rfl (lv_at hl 2 rfl) ?_
              refine g_cp (g_rS (As := [.int (nI (i + 1))]) hC (c_X5_manyIn l (u := i + 1) (by first | assumption | omega)) ⟨q3_190, q3_188, q3_189, q1_6⟩ dd_X5_manyIn ⟨Nat.le_of_ble_eq_true rfl, Nat.le_of_ble_eq_true rfl, rfl, rfl⟩ hl.1 rfl (Nat.le_of_ble_eq_true rfl) dX5_findCorners_38 ⟨Nat.le_of_ble_eq_true rfl, Nat.le_of_ble_eq_true rfl⟩) ?_
              refine W.eq (g2 := F0 m 41 ls [.int (nI (popc (i + 1)))]) rfl ?_
              refine lv_iload_n hx hb dX5_findCorners_41 rfl (lv_at hl 3 rfl) ?_
              refine g_cp (g_rS (As := [.int (nI (j + 1))]) hC (c_X5_manyIn l (u := j + 1) (by first | assumption | omega)) ⟨q3_190, q3_188, q3_189, q1_6⟩ dd_X5_manyIn ⟨Nat.le_of_ble_eq_true rfl, Nat.le_of_ble_eq_true rfl, rfl, rfl⟩ hl.1 rfl (Nat.le_of_ble_eq_true rfl) dX5_findCorners_42 ⟨Nat.le_of_ble_eq_true rfl, Nat.le_of_ble_eq_true rfl⟩) ?_
              refine W.eq (g2 := F0 m 45 ls [.int (nI (popc (j + 1))), .int (nI (popc (i + 1)))]) rfl ?_
              refine lv_icmp_eq (tgt := 51) hx hb dX5_findCorners_45 (by decide) (fun c45 => ?_) (fun c45 => ?_)
              · have c45 := (nI_eq (by omega) (by omega)).mp c45
                refine lv_iload_n hx hb dX5_findCorners_51 rfl (lv_at hl 2 rfl) ?_
                refine lv_aload_n hx hb dX5_findCorners_52 rfl (lv_at hl 0 rfl) ?_
                refine g_get hC hP hm.1 rfl inX5 15 (by decide) q3_21 hm.2.2.2.2.2.2.2.2.2.2.2.2.2.1.1 dX5_findCorners_53 ?_
                refine g_cc (g_rS (As := [.int (nI (i + 1)), .ref (h + 13)]) hC (c_X5_listed l hP (u := i + 1) (a := h + 13) (by first | assumption | omega) hm.2.2.2.2.2.2.2.2.2.2.2.2.2.1.2) ⟨q3_193, q3_191, q3_192, q1_6⟩ dd_X5_listed ⟨Nat.le_of_ble_eq_true rfl, Nat.le_of_ble_eq_true rfl, rfl, rfl⟩ hl.1 rfl (Nat.le_of_ble_eq_true rfl) dX5_findCorners_56 ⟨Nat.le_of_ble_eq_true rfl, Nat.le_of_ble_eq_true rfl⟩) hS (fun q h => h.elim (hTA q) (fun z => hA q (Nat.le_trans hS.1 z))) (fun r9 H5 locs6 hq10 hS hz7 hfr8 => ?_)
                obtain ⟨rfl, hP⟩ := hq10
                obtain ⟨I11, hI11, hP⟩ : ∃ I11 : gI, I11 = gu I10 (h + 13) (lsR (I10 (h + 13)) (i + 1) 4) ∧ gP G T I11 J10 Q O H5 := ⟨_, rfl, hP⟩
                refine W.eq (g2 := F0 m 59 ls [.int (nI (popc (i + 1)))]) rfl ?_
                refine lv_istore (lv' := [(4, .int (nI (popc (i + 1)))), (0, .ref h), (1, .int (nI 0)), (2, .int (nI (i + 1))), (3, .int (nI (j + 1)))]) hx hb dX5_findCorners_59 hl (by decide) rfl (fun ls hl => ?_)
                refine lv_iload_n hx hb dX5_findCorners_61 rfl (lv_at hl 4 rfl) ?_
                refine lv_aload_n hx hb dX5_findCorners_62 rfl (lv_at hl 1 rfl) ?_
                refine g_get hC hP hm.1 rfl inX5 16 (by decide) q3_22 hm.2.2.2.2.2.2.2.2.2.2.2.2.2.2.1.1 dX5_findCorners_63 ?_
                refine g_cc (g_rS (As := [.int (nI (j + 1)), .ref (h + 14)]) hC (c_X5_listed l hP (u := j + 1) (a := h + 14) (by first | assumption | omega) hm.2.2.2.2.2.2.2.2.2.2.2.2.2.2.1.2) ⟨q3_193, q3_191, q3_192, q1_6⟩ dd_X5_listed ⟨Nat.le_of_ble_eq_true rfl, Nat.le_of_ble_eq_true rfl, rfl, rfl⟩ hl.1 rfl (Nat.le_of_ble_eq_true rfl) dX5_findCorners_66 ⟨Nat.le_of_ble_eq_true rfl, Nat.le_of_ble_eq_true rfl⟩) hS (fun q h => h.elim (hTA q) (fun z => hA q (Nat.le_trans hS.1 z))) (fun r16 H12 locs13 hq17 hS hz14 hfr15 => ?_)
                obtain ⟨rfl, hP⟩ := hq17
                obtain ⟨I18, hI18, hP⟩ : ∃ I18 : gI, I18 = gu I11 (h + 14) (lsR (I11 (h + 14)) (j + 1) 4) ∧ gP G T I18 J10 Q O H12 := ⟨_, rfl, hP⟩
                refine W.eq (g2 := F0 m 69 ls [.int (nI (popc (j + 1)))]) rfl ?_
                refine lv_istore (lv' := [(5, .int (nI (popc (j + 1)))), (4, .int (nI (popc (i + 1)))), (0, .ref h), (1, .int (nI 0)), (2, .int (nI (i + 1))), (3, .int (nI (j + 1)))]) hx hb dX5_findCorners_69 hl (by decide) rfl (fun ls hl => ?_)
                have hch : ∀ q, q < popc (i + 1) → I18 (h + 13) q = nI (nth (i + 1) q) := fun q hq => by rw [hI18, gu_ne _ _ (by omega), hI11, gu_eq]; exact lsR_at (by omega) hq
                have han : ∀ q, q < popc (i + 1) → I18 (h + 14) q = nI (nth (j + 1) q) := fun q hq => by rw [hI18, gu_eq]; exact lsR_at (by omega) (by omega)
                have hk1 := popc_1 (u := i + 1) (by omega) (by omega)
                have hsb : moS I18 h st := moS_eq hs10 (fun q q1 q2 => by rw [hI18, gu_ne _ _ (by omega), hI11, gu_ne _ _ (by omega)])
                refine lv_aload_n hx hb dX5_findCorners_71 rfl (lv_at hl 2 rfl) ?_
                refine lv_iload_n hx hb dX5_findCorners_72 rfl (lv_at hl 3 rfl) ?_
                refine lv_iload hx hb dX5_findCorners_73 (lv_at hl 1 rfl) ?_
                refine g_cc (g_rV (As := [.int (nI 0), .int (nI (popc (i + 1)))]) hC hP (c_X5_solve_0 l hP (h := h) (u := i + 1) (t := j + 1) (kk := popc (i + 1)) (by first | assumption | omega) (by first | assumption | omega) (by first | assumption | omega) (by first | assumption | omega) (by first | assumption | omega) (by first | assumption | omega) (by first | assumption | omega) (by first | assumption | omega) (by first | assumption | omega) (by first | assumption | omega) (by first | assumption | omega)) hm.1 rfl ⟨q3_197, q3_194, q3_196, qs_39, q1_6⟩ dd_X5_solve ⟨Nat.le_of_ble_eq_true rfl, Nat.le_of_ble_eq_true rfl, rfl, rfl⟩ hl.1 rfl (Nat.le_of_ble_eq_true rfl) dX5_findCorners_75 ⟨Nat.le_of_ble_eq_true rfl, Nat.le_of_ble_eq_true rfl⟩) hS (fun q h => h.elim (hTA q) (fun z => hA q (Nat.le_trans hS.1 z))) (fun r23 H19 locs20 hq24 hS hz21 hfr22 => ?_)
                obtain ⟨X25, S26, hP, hq9⟩ := hq24
                obtain ⟨J27, hJ27, hP⟩ : ∃ X : gJ, X = shG J10 h X25 S26 ∧ gP G T I18 X Q O H19 := ⟨_, rfl, hP⟩
                rcases hq9 with ⟨ho, rfl⟩ | ⟨ho, rfl, D, hD, hDS⟩
                · refine W.eq (g2 := F0 m 78 ls [.int (nI 0)]) rfl ?_
                  refine lv_if_eq (tgt := 111) hx hb dX5_findCorners_78 (by decide) (fun _ => ?_) (fun q => absurd (by decide) q)
                  have nf3 : crR I18 J27 h 0 (sT (gsP1 st) (gsn st) (i + 1) (j + 1) (sU (gsP1 st) (gsn st) (2 ^ gsn st - 1) i)) := by rw [sT_t c45, cand_no (Or.inl ho)]; exact crR_sc f3 hI11 hI18 hJ27
                  have nf4 := fcF_tr f4 (fcF_sc (w := 0) hI11 hI18 hJ27)
                  refine lv_iinc (v := nI (j + 1 + 1)) (lv' := [(3, .int (nI (j + 1 + 1))), (5, .int (nI (popc (j + 1)))), (4, .int (nI (popc (i + 1)))), (0, .ref h), (1, .int (nI 0)), (2, .int (nI (i + 1)))]) hx hb dX5_findCorners_111 hl (k := 5) rfl (nI_inc _) (by decide) rfl (fun ls hl => ?_)
                  refine lv_goto (tgt := 23) hx hb dX5_findCorners_114 (by decide) ?_
                  exact ih23 (j + 1) I18 J27 (by omega) (by omega) nf3 nf4 _ _ hP hS ls (lv_sub hl [3, 4, 5, 0] rfl)
                · refine W.eq (g2 := F0 m 78 ls [.int (nI 1)]) rfl ?_
                  refine lv_if_eq (tgt := 111) hx hb dX5_findCorners_78 (by decide) (fun q => absurd q (by decide)) (fun _ => ?_)
                  refine lv_aload_n hx hb dX5_findCorners_81 rfl (lv_at hl 2 rfl) ?_
                  refine lv_iconst (v := nI 1) hx hb dX5_findCorners_82 (by decide) ?_
                  refine lv_iload_n hx hb dX5_findCorners_83 rfl (lv_at hl 3 rfl) ?_
                  refine lv_isub hx hb dX5_findCorners_84 ?_
                  refine g_topi (y := nI 1) (by decide) ?_
                  refine lv_aload_n hx hb dX5_findCorners_85 rfl (lv_at hl 2 rfl) ?_
                  refine g_get hC hP hm.1 rfl inX5 17 (by decide) q3_23 hm.2.2.2.2.2.2.2.2.2.2.2.2.2.2.2.1.1 dX5_findCorners_86 ?_
                  refine lv_iconst (v := nI 0) hx hb dX5_findCorners_89 (by decide) ?_
                  refine g_cp (g_rV (As := [.int (nI 1), .ref (h + 15), .int (nI 0)]) hC hP (c_X5_answersTo_1 l hP (h := h) (a := h + 15) (by first | assumption | omega) (by first | assumption | omega) hm.2.2.2.2.2.2.2.2.2.2.2.2.2.2.2.1.2) hm.1 rfl ⟨q3_135, q3_132, q3_134, qs_33, q1_6⟩ dd_X5_answersTo ⟨Nat.le_of_ble_eq_true rfl, Nat.le_of_ble_eq_true rfl, rfl, rfl⟩ hl.1 rfl (Nat.le_of_ble_eq_true rfl) dX5_findCorners_90 ⟨Nat.le_of_ble_eq_true rfl, Nat.le_of_ble_eq_true rfl⟩) ?_
                  refine W.eq (g2 := F0 m 93 ls [.int (nI (ansM (gsP1 st) (J27 (h + 15)) (gsn st) (gsm st)))]) rfl ?_
                  refine g_topi (y := nI (ansB (gsP1 st) (candY (gsP1 st) (i + 1) (j + 1)) (gsn st))) (congrArg nI (by rw [hJ27, shG_15]; exact ans_red hbd1 (by omega) (by omega) (by omega) (by omega) ho hD hDS)) ?_
                  refine lv_istore (lv' := [(6, .int (nI (ansB (gsP1 st) (candY (gsP1 st) (i + 1) (j + 1)) (gsn st)))), (5, .int (nI (popc (j + 1)))), (4, .int (nI (popc (i + 1)))), (0, .ref h), (1, .int (nI 0)), (2, .int (nI (i + 1))), (3, .int (nI (j + 1)))]) hx hb dX5_findCorners_93 hl (by decide) rfl (fun ls hl => ?_)
                  have hal := ansB_lt (P := gsP1 st) (X := candY (gsP1 st) (i + 1) (j + 1)) (ch := gsn st) (by omega)
                  have hal2 := Nat.and_le_right (n := ansB (gsP1 st) (candY (gsP1 st) (i + 1) (j + 1)) (gsn st)) (m := j + 1)
                  refine lv_iload hx hb dX5_findCorners_95 (lv_at hl 0 rfl) ?_
                  refine lv_iload_n hx hb dX5_findCorners_97 rfl (lv_at hl 6 rfl) ?_
                  refine lv_iand hx hb dX5_findCorners_98 ?_
                  refine g_topi (y := nI (ansB (gsP1 st) (candY (gsP1 st) (i + 1) (j + 1)) (gsn st) &&& (j + 1))) (g_and (ansB_lt (by omega)) (by omega)) ?_
                  refine lv_iload_n hx hb dX5_findCorners_99 rfl (lv_at hl 6 rfl) ?_
                  refine lv_icmp_ne (tgt := 111) hx hb dX5_findCorners_100 (by decide) (fun c100 => ?_) (fun c100 => ?_)
                  · have c100 := mt (nI_eq (by omega) (by omega)).mpr c100
                    have nf3 : crR I18 J27 h 0 (sT (gsP1 st) (gsn st) (i + 1) (j + 1) (sU (gsP1 st) (gsn st) (2 ^ gsn st - 1) i)) := by rw [sT_t c45, cand_no (Or.inr (mt (and_sub (ansB_lt (by omega)) (by omega)).mpr c100))]; exact crR_sc f3 hI11 hI18 hJ27
                    have nf4 := fcF_tr f4 (fcF_sc (w := 0) hI11 hI18 hJ27)
                    refine lv_iinc (v := nI (j + 1 + 1)) (lv' := [(3, .int (nI (j + 1 + 1))), (6, .int (nI (ansB (gsP1 st) (candY (gsP1 st) (i + 1) (j + 1)) (gsn st)))), (5, .int (nI (popc (j + 1)))), (4, .int (nI (popc (i + 1)))), (0, .ref h), (1, .int (nI 0)), (2, .int (nI (i + 1)))]) hx hb dX5_findCorners_111 hl (k := 6) rfl (nI_inc _) (by decide) rfl (fun ls hl => ?_)
                    refine lv_goto (tgt := 23) hx hb dX5_findCorners_114 (by decide) ?_
                    exact ih23 (j + 1) I18 J27 (by omega) (by omega) nf3 nf4 _ _ hP hS ls (lv_sub hl [4, 5, 6, 0] rfl)
                  · have c100 := (nI_eq (by omega) (by omega)).mp c100
                    have hLG := LG_T (ch := gsn st) (u := i + 1) hbd1 (m := gsm st) (by omega) (by omega) (by omega) (LG_U (M := 2 ^ gsn st - 1) hbd1 (by omega) i (by omega)) j
                    have hcr := crR_sc f3 hI11 hI18 hJ27
                    have hvg := cand_vG (ch := gsn st) (t := j + 1) (u := i + 1) (by omega) (by omega) hbd1 ho
                    have hrd : rdV (vC (gsP1 st) (gsn st) (i + 1) (j + 1)) (J27 (h + 15)) (alS (J27 (h + 15))) := by rw [hJ27, shG_15]; exact rd_cand (by omega) (by omega) hbd1 ho hD hDS
                    have h69 := sU_69 (P := gsP1 st) (ch := gsn st) (m := 2 ^ gsn st - 1) (i := i) (j := j) (by omega) (by omega) (by omega) c45
                    have tno := (and_sub (ansB_lt (P := gsP1 st) (X := candY (gsP1 st) (i + 1) (j + 1)) (ch := gsn st) (by omega)) (by omega)).mp c100
                    refine lv_aload_n hx hb dX5_findCorners_103 rfl (lv_at hl 3 rfl) ?_
                    refine lv_iload_n hx hb dX5_findCorners_104 rfl (lv_at hl 4 rfl) ?_
                    refine lv_iload_n hx hb dX5_findCorners_105 rfl (lv_at hl 5 rfl) ?_
                    refine lv_iload hx hb dX5_findCorners_106 (lv_at hl 0 rfl) ?_
                    refine g_cc (g_rV (As := [.int (nI 0), .int (nI (i + 1)), .int (nI (ansB (gsP1 st) (candY (gsP1 st) (i + 1) (j + 1)) (gsn st)))]) hC hP (c_X5_put_0 l hP (h := h) (ub := i + 1) (ab := ansB (gsP1 st) (candY (gsP1 st) (i + 1) (j + 1)) (gsn st)) (C := sT (gsP1 st) (gsn st) (i + 1) j (sU (gsP1 st) (gsn st) (2 ^ gsn st - 1) i)) (v := vC (gsP1 st) (gsn st) (i + 1) (j + 1)) (by first | assumption | omega) hcr hvg hrd hLG.cG hLG.1 (by omega) (used_cand (by omega) (by omega) hbd1 ho).symm rfl) hm.1 rfl ⟨q3_205, q3_202, q3_204, qs_41, q1_6⟩ dd_X5_put ⟨Nat.le_of_ble_eq_true rfl, Nat.le_of_ble_eq_true rfl, rfl, rfl⟩ hl.1 rfl (Nat.le_of_ble_eq_true rfl) dX5_findCorners_108 ⟨Nat.le_of_ble_eq_true rfl, Nat.le_of_ble_eq_true rfl⟩) hS (fun q h => h.elim (hTA q) (fun z => hA q (Nat.le_trans hS.1 z))) (fun r32 H28 locs29 hq33 hS hz30 hfr31 => ?_)
                    obtain ⟨rfl, I34, J35, hP, hcr2, hcf⟩ := hq33
                    refine W.eq (g2 := F0 m 111 ls []) rfl ?_
                    have nf3 : crR I34 J35 h 0 (sT (gsP1 st) (gsn st) (i + 1) (j + 1) (sU (gsP1 st) (gsn st) (2 ^ gsn st - 1) i)) := by rw [sT_t c45, cand_yes ho tno]; exact hcr2
                    have nf4 := fcF_tr (fcF_tr f4 (fcF_sc (w := 0) hI11 hI18 hJ27)) (fcF_of hcf)
                    refine lv_iinc (v := nI (j + 1 + 1)) (lv' := [(3, .int (nI (j + 1 + 1))), (6, .int (nI (ansB (gsP1 st) (candY (gsP1 st) (i + 1) (j + 1)) (gsn st)))), (5, .int (nI (popc (j + 1)))), (4, .int (nI (popc (i + 1)))), (0, .ref h), (1, .int (nI 0)), (2, .int (nI (i + 1)))]) hx hb dX5_findCorners_111 hl (k := 6) rfl (nI_inc _) (by decide) rfl (fun ls hl => ?_)
                    refine lv_goto (tgt := 23) hx hb dX5_findCorners_114 (by decide) ?_
                    exact ih23 (j + 1) I34 J35 (by omega) (by omega) nf3 nf4 _ _ hP hS ls (lv_sub hl [4, 5, 6, 0] rfl)
              · have c45 := mt (nI_eq (by omega) (by omega)).mpr c45
                refine lv_goto (tgt := 111) hx hb dX5_findCorners_48 (by decide) ?_
                have nf3 : crR I10 J10 h 0 (sT (gsP1 st) (gsn st) (i + 1) (j + 1) (sU (gsP1 st) (gsn st) (2 ^ gsn st - 1) i)) := by rw [sT_f c45]; exact f3
                have nf4 := f4
                refine lv_iinc (v := nI (j + 1 + 1)) (lv' := [(3, .int (nI (j + 1 + 1))), (0, .ref h), (1, .int (nI 0)), (2, .int (nI (i + 1)))]) hx hb dX5_findCorners_111 hl (k := 3) rfl (nI_inc _) (by decide) rfl (fun ls hl => ?_)
                refine lv_goto (tgt := 23) hx hb dX5_findCorners_114 (by decide) ?_
                exact ih23 (j + 1) I10 J10 (by omega) (by omega) nf3 nf4 _ _ hP hS ls (lv_sub hl [1, 2, 3, 0] rfl)
        exact L23 17 0 I9 J9 (by omega) (by omega) f1 f2 _ _ hP hS ls (lv_sub hl [1, 2, 3, 0] rfl)
  exact L9 17 0 I3 J (by omega) (by omega) ⟨by rw [hI3, au_row, gu_eq]; rfl, fun j hj => absurd hj (Nat.not_lt_zero j)⟩ ⟨fun q q1 _ _ _ _ => by rw [hI3, au_ne _ _ _ q1], fun _ _ _ _ _ => rfl, fun q hq => by rw [hI3, au_row, gu_ne _ _ hq], fun x _ => ⟨by rw [hI3, au_ne _ _ _ (by omega)], by rw [hI3, au_ne _ _ _ (by omega)], rfl, fun _ _ => rfl⟩⟩ _ _ hP hS ls (lv_sub hl [1, 2, 0] rfl)
set_option maxHeartbeats 4000000 in
set_option maxRecDepth 100000 in
theorem c_X5_findCorners_1 (l : Launch) {G : gG} {T : gTy} {I : gI} {J : gJ} {Q : gR} {O : gO} {H : Heap} (hP : gP G T I J Q O H) {h : Nat} {st : GS} (hm : isMo T O h) (hs0 : moS I h st) (hbd0 : bdP (gsP0 st)) (hbd1 : bdP (gsP1 st)) : Met l yX5_findCorners (gw yX5_findCorners cX5_findCorners 7 (none)) ({ frames := 3, cells := 0, slots := 0, locals := 77 } : Room) (gPc G H [.ref h, .int (nI 1)]) (gQc (gF T H) (fun r H1 => r = none ∧ ∃ (I2 : gI) (J2 : gJ), gP G T I2 J2 Q O H1 ∧ crR I2 J2 h 1 (gsCd st) ∧ fcF I J I2 J2 h 1)) 0 0 (gF T H) := by
  refine g_met [(0, .ref h), (1, .int (nI 1))] (by decide) rfl (by exact Nat.le_of_ble_eq_true rfl) ?_
  intro p e s m below meth c hC hs ls hl
  have hx := hC.1.1
  have hb := hC.1.2.1
  have hS : va_S (gF T H) s.heap H [] := hs ▸ va_S.rf
  have hTA : ∀ q, (T q).1 ≠ 0 → gF T H q := fun q h => Or.inl h
  have hA : ∀ q, s.heap.size ≤ q → gF T H q := fun q h => Or.inr (hs ▸ h)
  generalize hAe : gF T H = A at hS hTA hA ⊢
  have hms := hs0.1
  have hns := hs0.2.1
  have p1 := pow16 (m := gsm st) (by omega)
  have p2 := pow16 (m := gsn st) (by omega)
  refine lv_aload_n hx hb dX5_findCorners_0 rfl (lv_at hl 0 rfl) ?_
  refine g_get hC hP hm.1 rfl inX5 9 (by decide) q3_15 hm.2.2.2.2.2.2.2.1.1 dX5_findCorners_1 ?_
  refine lv_iload_n hx hb dX5_findCorners_4 rfl (lv_at hl 1 rfl) ?_
  refine lv_iconst (v := nI 0) hx hb dX5_findCorners_5 (by decide) ?_
  refine g_iast hC hP hS hTA hm.2.2.2.2.2.2.2.1.2 (vp_in_nI (by omega) (by decide)) dX5_findCorners_6 (fun H1 locs2 hP hS hz4 => ?_)
  rw [show (nI 1).toNatClampNeg = 1 from nI_clamp (by omega)] at hP
  obtain ⟨I3, hI3, hP⟩ : ∃ X : gI, X = au I (h + 7) 1 (nI 0) ∧ gP G T X J Q O H1 := ⟨_, rfl, hP⟩
  refine lv_iconst (v := nI 1) hx hb dX5_findCorners_7 (by decide) ?_
  refine lv_istore_n (lv' := [(2, .int (nI 1)), (0, .ref h), (1, .int (nI 1))]) hx hb dX5_findCorners_8 rfl hl (by decide) rfl (fun ls hl => ?_)
  have L9 : ∀ (n9 : Nat) (i : Nat) (I9 : gI) (J9 : gJ), 17 ≤ n9 + i → (i ≤ 2 ^ gsn st - 1) → (crR I9 J9 h 1 (sU (gsP0 st) (gsm st) (2 ^ gsm st - 1) i)) → (fcF I J I9 J9 h 1) → ∀ (Hl : Heap) (lcl : List Loc), gP G T I9 J9 Q O Hl → va_S A s.heap Hl lcl → ∀ ls : Array Slot, lv_has ls 7 [(0, .ref h), (1, .int (nI 1)), (2, .int (nI (i + 1)))] → W p l e ({ frames := 3, cells := 0, slots := 0, locals := 77 } : Room) s m [.ref h, .int (nI 1)].toArray below meth c Hl lcl 0 0 (MQ below (gQc A (fun r H1 => r = none ∧ ∃ (I2 : gI) (J2 : gJ), gP G T I2 J2 Q O H1 ∧ crR I2 J2 h 1 (gsCd st) ∧ fcF I J I2 J2 h 1)) [.ref h, .int (nI 1)].toArray s 0 0 A) (F0 m 9 ls []) := by
    intro n9
    induction n9 with
    | zero => intro i I9 J9 hn9 hi f1 f2; exact absurd hn9 (by omega)
    | succ n9 ih9 =>
      intro i I9 J9 hn9 hi f1 f2 Hl lcl hP hS ls hl
      have hs9 := moS_fc hs0 f2
      refine lv_iload_n hx hb dX5_findCorners_9 rfl (lv_at hl 2 rfl) ?_
      refine lv_iconst (v := nI 1) hx hb dX5_findCorners_10 (by decide) ?_
      refine lv_aload_n hx hb dX5_findCorners_11 rfl (lv_at hl 0 rfl) ?_
      refine g_get hC hP hm.1 rfl inX5 0 (by decide) q3_6 hm.2.1.1 dX5_findCorners_12 ?_
      refine lv_iload_n hx hb dX5_findCorners_15 rfl (lv_at hl 1 rfl) ?_
      refine g_iald hC hP hm.2.1.2 (vp_in_nI (by omega) (by decide)) dX5_findCorners_16 ?_
      refine g_topi (y := nI (gsn st)) hs9.2.2.2.1 ?_
      refine lv_ishl hx hb dX5_findCorners_17 ?_
      refine g_topi (y := nI (2 ^ (gsn st))) (g_shl (by omega)) ?_
      refine lv_icmp_ge (tgt := 123) hx hb dX5_findCorners_18 (by decide) (fun c18 => ?_) (fun c18 => ?_)
      · have c18 := (nI_leI (by omega) (by omega)).mp c18
        refine g_retcv hC hS ?_ dX5_findCorners_123
        refine ⟨rfl, _, _, hP, ?_, f2⟩
        rw [show i = 2 ^ gsn st - 1 from by omega] at f1
        exact f1
      · have c18 := mt (nI_leI (by omega) (by omega)).mpr c18
        refine lv_iconst (v := nI 1) hx hb dX5_findCorners_21 (by decide) ?_
        refine lv_istore_n (lv' := [(3, .int (nI 1)), (0, .ref h), (1, .int (nI 1)), (2, .int (nI (i + 1)))]) hx hb dX5_findCorners_22 rfl hl (by decide) rfl (fun ls hl => ?_)
        have L23 : ∀ (n23 : Nat) (j : Nat) (I10 : gI) (J10 : gJ), 17 ≤ n23 + j → (j ≤ 2 ^ gsm st - 1) → (crR I10 J10 h 1 (sT (gsP0 st) (gsm st) (i + 1) j (sU (gsP0 st) (gsm st) (2 ^ gsm st - 1) i))) → (fcF I J I10 J10 h 1) → ∀ (Hl : Heap) (lcl : List Loc), gP G T I10 J10 Q O Hl → va_S A s.heap Hl lcl → ∀ ls : Array Slot, lv_has ls 7 [(0, .ref h), (1, .int (nI 1)), (2, .int (nI (i + 1))), (3, .int (nI (j + 1)))] → W p l e ({ frames := 3, cells := 0, slots := 0, locals := 77 } : Room) s m [.ref h, .int (nI 1)].toArray below meth c Hl lcl 0 0 (MQ below (gQc A (fun r H1 => r = none ∧ ∃ (I2 : gI) (J2 : gJ), gP G T I2 J2 Q O H1 ∧ crR I2 J2 h 1 (gsCd st) ∧ fcF I J I2 J2 h 1)) [.ref h, .int (nI 1)].toArray s 0 0 A) (F0 m 23 ls []) := by
          intro n23
          induction n23 with
          | zero => intro j I10 J10 hn23 hj f3 f4; exact absurd hn23 (by omega)
          | succ n23 ih23 =>
            intro j I10 J10 hn23 hj f3 f4 Hl lcl hP hS ls hl
            have hs10 := moS_fc hs0 f4
            refine lv_iload_n hx hb dX5_findCorners_23 rfl (lv_at hl 3 rfl) ?_
            refine lv_iconst (v := nI 1) hx hb dX5_findCorners_24 (by decide) ?_
            refine lv_aload_n hx hb dX5_findCorners_25 rfl (lv_at hl 0 rfl) ?_
            refine g_get hC hP hm.1 rfl inX5 0 (by decide) q3_6 hm.2.1.1 dX5_findCorners_26 ?_
            refine lv_iconst (v := nI 1) hx hb dX5_findCorners_29 (by decide) ?_
            refine lv_iload_n hx hb dX5_findCorners_30 rfl (lv_at hl 1 rfl) ?_
            refine lv_isub hx hb dX5_findCorners_31 ?_
            refine g_topi (y := nI 0) (by decide) ?_
            refine g_iald hC hP hm.2.1.2 (vp_in_nI (by omega) (by decide)) dX5_findCorners_32 ?_
            refine g_topi (y := nI (gsm st)) hs10.2.2.1 ?_
            refine lv_ishl hx hb dX5_findCorners_33 ?_
            refine g_topi (y := nI (2 ^ (gsm st))) (g_shl (by omega)) ?_
            refine lv_icmp_ge (tgt := 117) hx hb dX5_findCorners_34 (by decide) (fun c34 => ?_) (fun c34 => ?_)
            · have c34 := (nI_leI (by omega) (by omega)).mp c34
              refine lv_iinc (v := nI (i + 1 + 1)) (lv' := [(2, .int (nI (i + 1 + 1))), (0, .ref h), (1, .int (nI 1)), (3, .int (nI (j + 1)))]) hx hb dX5_findCorners_117 hl (k := 2) rfl (nI_inc _) (by decide) rfl (fun ls hl => ?_)
              refine lv_goto (tgt := 9) hx hb dX5_findCorners_120 (by decide) ?_
              exact ih9 (i + 1) I10 J10 (by omega) (by omega) (by rw [show j = 2 ^ gsm st - 1 from by omega] at f3; exact f3) f4 _ _ hP hS ls (lv_sub hl [1, 2, 0] rfl)
            · have c34 := mt (nI_leI (by omega) (by omega)).mpr c34
              have pb1 := popc_1 (u := i + 1) (by omega) (by omega)
              have pb2 := popc_1 (u := j + 1) (by omega) (by omega)
              refine lv_iload_n hx hb dX5_findCorners_37 rfl (lv_at hl 2 rfl) ?_
              refine g_cp (g_rS (As := [.int (nI (i + 1))]) hC (c_X5_manyIn l (u := i + 1) (by first | assumption | omega)) ⟨q3_190, q3_188, q3_189, q1_6⟩ dd_X5_manyIn ⟨Nat.le_of_ble_eq_true rfl, Nat.le_of_ble_eq_true rfl, rfl, rfl⟩ hl.1 rfl (Nat.le_of_ble_eq_true rfl) dX5_findCorners_38 ⟨Nat.le_of_ble_eq_true rfl, Nat.le_of_ble_eq_true rfl⟩) ?_
              refine W.eq (g2 := F0 m 41 ls [.int (nI (popc (i + 1)))]) rfl ?_
              refine lv_iload_n hx hb dX5_findCorners_41 rfl (lv_at hl 3 rfl) ?_
              refine g_cp (g_rS (As := [.int (nI (j + 1))]) hC (c_X5_manyIn l (u := j + 1) (by first | assumption | omega)) ⟨q3_190, q3_188, q3_189, q1_6⟩ dd_X5_manyIn ⟨Nat.le_of_ble_eq_true rfl, Nat.le_of_ble_eq_true rfl, rfl, rfl⟩ hl.1 rfl (Nat.le_of_ble_eq_true rfl) dX5_findCorners_42 ⟨Nat.le_of_ble_eq_true rfl, Nat.le_of_ble_eq_true rfl⟩) ?_
              refine W.eq (g2 := F0 m 45 ls [.int (nI (popc (j + 1))), .int (nI (popc (i + 1)))]) rfl ?_
              refine lv_icmp_eq (tgt := 51) hx hb dX5_findCorners_45 (by decide) (fun c45 => ?_) (fun c45 => ?_)
              · have c45 := (nI_eq (by omega) (by omega)).mp c45
                refine lv_iload_n hx hb dX5_findCorners_51 rfl (lv_at hl 2 rfl) ?_
                refine lv_aload_n hx hb dX5_findCorners_52 rfl (lv_at hl 0 rfl) ?_
                refine g_get hC hP hm.1 rfl inX5 15 (by decide) q3_21 hm.2.2.2.2.2.2.2.2.2.2.2.2.2.1.1 dX5_findCorners_53 ?_
                refine g_cc (g_rS (As := [.int (nI (i + 1)), .ref (h + 13)]) hC (c_X5_listed l hP (u := i + 1) (a := h + 13) (by first | assumption | omega) hm.2.2.2.2.2.2.2.2.2.2.2.2.2.1.2) ⟨q3_193, q3_191, q3_192, q1_6⟩ dd_X5_listed ⟨Nat.le_of_ble_eq_true rfl, Nat.le_of_ble_eq_true rfl, rfl, rfl⟩ hl.1 rfl (Nat.le_of_ble_eq_true rfl) dX5_findCorners_56 ⟨Nat.le_of_ble_eq_true rfl, Nat.le_of_ble_eq_true rfl⟩) hS (fun q h => h.elim (hTA q) (fun z => hA q (Nat.le_trans hS.1 z))) (fun r9 H5 locs6 hq10 hS hz7 hfr8 => ?_)
                obtain ⟨rfl, hP⟩ := hq10
                obtain ⟨I11, hI11, hP⟩ : ∃ I11 : gI, I11 = gu I10 (h + 13) (lsR (I10 (h + 13)) (i + 1) 4) ∧ gP G T I11 J10 Q O H5 := ⟨_, rfl, hP⟩
                refine W.eq (g2 := F0 m 59 ls [.int (nI (popc (i + 1)))]) rfl ?_
                refine lv_istore (lv' := [(4, .int (nI (popc (i + 1)))), (0, .ref h), (1, .int (nI 1)), (2, .int (nI (i + 1))), (3, .int (nI (j + 1)))]) hx hb dX5_findCorners_59 hl (by decide) rfl (fun ls hl => ?_)
                refine lv_iload_n hx hb dX5_findCorners_61 rfl (lv_at hl 4 rfl) ?_
                refine lv_aload_n hx hb dX5_findCorners_62 rfl (lv_at hl 1 rfl) ?_
                refine g_get hC hP hm.1 rfl inX5 16 (by decide) q3_22 hm.2.2.2.2.2.2.2.2.2.2.2.2.2.2.1.1 dX5_findCorners_63 ?_
                refine g_cc (g_rS (As := [.int (nI (j + 1)), .ref (h + 14)]) hC (c_X5_listed l hP (u := j + 1) (a := h + 14) (by first | assumption | omega) hm.2.2.2.2.2.2.2.2.2.2.2.2.2.2.1.2) ⟨q3_193, q3_191, q3_192, q1_6⟩ dd_X5_listed ⟨Nat.le_of_ble_eq_true rfl, Nat.le_of_ble_eq_true rfl, rfl, rfl⟩ hl.1 rfl (Nat.le_of_ble_eq_true rfl) dX5_findCorners_66 ⟨Nat.le_of_ble_eq_true rfl, Nat.le_of_ble_eq_true rfl⟩) hS (fun q h => h.elim (hTA q) (fun z => hA q (Nat.le_trans hS.1 z))) (fun r16 H12 locs13 hq17 hS hz14 hfr15 => ?_)
                obtain ⟨rfl, hP⟩ := hq17
                obtain ⟨I18, hI18, hP⟩ : ∃ I18 : gI, I18 = gu I11 (h + 14) (lsR (I11 (h + 14)) (j + 1) 4) ∧ gP G T I18 J10 Q O H12 := ⟨_, rfl, hP⟩
                refine W.eq (g2 := F0 m 69 ls [.int (nI (popc (j + 1)))]) rfl ?_
                refine lv_istore (lv' := [(5, .int (nI (popc (j + 1)))), (4, .int (nI (popc (i + 1)))), (0, .ref h), (1, .int (nI 1)), (2, .int (nI (i + 1))), (3, .int (nI (j + 1)))]) hx hb dX5_findCorners_69 hl (by decide) rfl (fun ls hl => ?_)
                have hch : ∀ q, q < popc (i + 1) → I18 (h + 13) q = nI (nth (i + 1) q) := fun q hq => by rw [hI18, gu_ne _ _ (by omega), hI11, gu_eq]; exact lsR_at (by omega) hq
                have han : ∀ q, q < popc (i + 1) → I18 (h + 14) q = nI (nth (j + 1) q) := fun q hq => by rw [hI18, gu_eq]; exact lsR_at (by omega) (by omega)
                have hk1 := popc_1 (u := i + 1) (by omega) (by omega)
                have hsb : moS I18 h st := moS_eq hs10 (fun q q1 q2 => by rw [hI18, gu_ne _ _ (by omega), hI11, gu_ne _ _ (by omega)])
                refine lv_aload_n hx hb dX5_findCorners_71 rfl (lv_at hl 2 rfl) ?_
                refine lv_iload_n hx hb dX5_findCorners_72 rfl (lv_at hl 3 rfl) ?_
                refine lv_iload hx hb dX5_findCorners_73 (lv_at hl 1 rfl) ?_
                refine g_cc (g_rV (As := [.int (nI 1), .int (nI (popc (i + 1)))]) hC hP (c_X5_solve_1 l hP (h := h) (u := i + 1) (t := j + 1) (kk := popc (i + 1)) (by first | assumption | omega) (by first | assumption | omega) (by first | assumption | omega) (by first | assumption | omega) (by first | assumption | omega) (by first | assumption | omega) (by first | assumption | omega) (by first | assumption | omega) (by first | assumption | omega) (by first | assumption | omega) (by first | assumption | omega)) hm.1 rfl ⟨q3_197, q3_194, q3_196, qs_39, q1_6⟩ dd_X5_solve ⟨Nat.le_of_ble_eq_true rfl, Nat.le_of_ble_eq_true rfl, rfl, rfl⟩ hl.1 rfl (Nat.le_of_ble_eq_true rfl) dX5_findCorners_75 ⟨Nat.le_of_ble_eq_true rfl, Nat.le_of_ble_eq_true rfl⟩) hS (fun q h => h.elim (hTA q) (fun z => hA q (Nat.le_trans hS.1 z))) (fun r23 H19 locs20 hq24 hS hz21 hfr22 => ?_)
                obtain ⟨X25, S26, hP, hq9⟩ := hq24
                obtain ⟨J27, hJ27, hP⟩ : ∃ X : gJ, X = shG J10 h X25 S26 ∧ gP G T I18 X Q O H19 := ⟨_, rfl, hP⟩
                rcases hq9 with ⟨ho, rfl⟩ | ⟨ho, rfl, D, hD, hDS⟩
                · refine W.eq (g2 := F0 m 78 ls [.int (nI 0)]) rfl ?_
                  refine lv_if_eq (tgt := 111) hx hb dX5_findCorners_78 (by decide) (fun _ => ?_) (fun q => absurd (by decide) q)
                  have nf3 : crR I18 J27 h 1 (sT (gsP0 st) (gsm st) (i + 1) (j + 1) (sU (gsP0 st) (gsm st) (2 ^ gsm st - 1) i)) := by rw [sT_t c45, cand_no (Or.inl ho)]; exact crR_sc f3 hI11 hI18 hJ27
                  have nf4 := fcF_tr f4 (fcF_sc (w := 1) hI11 hI18 hJ27)
                  refine lv_iinc (v := nI (j + 1 + 1)) (lv' := [(3, .int (nI (j + 1 + 1))), (5, .int (nI (popc (j + 1)))), (4, .int (nI (popc (i + 1)))), (0, .ref h), (1, .int (nI 1)), (2, .int (nI (i + 1)))]) hx hb dX5_findCorners_111 hl (k := 5) rfl (nI_inc _) (by decide) rfl (fun ls hl => ?_)
                  refine lv_goto (tgt := 23) hx hb dX5_findCorners_114 (by decide) ?_
                  exact ih23 (j + 1) I18 J27 (by omega) (by omega) nf3 nf4 _ _ hP hS ls (lv_sub hl [3, 4, 5, 0] rfl)
                · refine W.eq (g2 := F0 m 78 ls [.int (nI 1)]) rfl ?_
                  refine lv_if_eq (tgt := 111) hx hb dX5_findCorners_78 (by decide) (fun q => absurd q (by decide)) (fun _ => ?_)
                  refine lv_aload_n hx hb dX5_findCorners_81 rfl (lv_at hl 2 rfl) ?_
                  refine lv_iconst (v := nI 1) hx hb dX5_findCorners_82 (by decide) ?_
                  refine lv_iload_n hx hb dX5_findCorners_83 rfl (lv_at hl 3 rfl) ?_
                  refine lv_isub hx hb dX5_findCorners_84 ?_
                  refine g_topi (y := nI 0) (by decide) ?_
                  refine lv_aload_n hx hb dX5_findCorners_85 rfl (lv_at hl 2 rfl) ?_
                  refine g_get hC hP hm.1 rfl inX5 17 (by decide) q3_23 hm.2.2.2.2.2.2.2.2.2.2.2.2.2.2.2.1.1 dX5_findCorners_86 ?_
                  refine lv_iconst (v := nI 0) hx hb dX5_findCorners_89 (by decide) ?_
                  refine g_cp (g_rV (As := [.int (nI 0), .ref (h + 15), .int (nI 0)]) hC hP (c_X5_answersTo_0 l hP (h := h) (a := h + 15) (by first | assumption | omega) (by first | assumption | omega) hm.2.2.2.2.2.2.2.2.2.2.2.2.2.2.2.1.2) hm.1 rfl ⟨q3_135, q3_132, q3_134, qs_33, q1_6⟩ dd_X5_answersTo ⟨Nat.le_of_ble_eq_true rfl, Nat.le_of_ble_eq_true rfl, rfl, rfl⟩ hl.1 rfl (Nat.le_of_ble_eq_true rfl) dX5_findCorners_90 ⟨Nat.le_of_ble_eq_true rfl, Nat.le_of_ble_eq_true rfl⟩) ?_
                  refine W.eq (g2 := F0 m 93 ls [.int (nI (ansM (gsP0 st) (J27 (h + 15)) (gsm st) (gsn st)))]) rfl ?_
                  refine g_topi (y := nI (ansB (gsP0 st) (candY (gsP0 st) (i + 1) (j + 1)) (gsm st))) (congrArg nI (by rw [hJ27, shG_15]; exact ans_red hbd0 (by omega) (by omega) (by omega) (by omega) ho hD hDS)) ?_
                  refine lv_istore (lv' := [(6, .int (nI (ansB (gsP0 st) (candY (gsP0 st) (i + 1) (j + 1)) (gsm st)))), (5, .int (nI (popc (j + 1)))), (4, .int (nI (popc (i + 1)))), (0, .ref h), (1, .int (nI 1)), (2, .int (nI (i + 1))), (3, .int (nI (j + 1)))]) hx hb dX5_findCorners_93 hl (by decide) rfl (fun ls hl => ?_)
                  have hal := ansB_lt (P := gsP0 st) (X := candY (gsP0 st) (i + 1) (j + 1)) (ch := gsm st) (by omega)
                  have hal2 := Nat.and_le_right (n := ansB (gsP0 st) (candY (gsP0 st) (i + 1) (j + 1)) (gsm st)) (m := j + 1)
                  refine lv_iload hx hb dX5_findCorners_95 (lv_at hl 0 rfl) ?_
                  refine lv_iload_n hx hb dX5_findCorners_97 rfl (lv_at hl 6 rfl) ?_
                  refine lv_iand hx hb dX5_findCorners_98 ?_
                  refine g_topi (y := nI (ansB (gsP0 st) (candY (gsP0 st) (i + 1) (j + 1)) (gsm st) &&& (j + 1))) (g_and (ansB_lt (by omega)) (by omega)) ?_
                  refine lv_iload_n hx hb dX5_findCorners_99 rfl (lv_at hl 6 rfl) ?_
                  refine lv_icmp_ne (tgt := 111) hx hb dX5_findCorners_100 (by decide) (fun c100 => ?_) (fun c100 => ?_)
                  · have c100 := mt (nI_eq (by omega) (by omega)).mpr c100
                    have nf3 : crR I18 J27 h 1 (sT (gsP0 st) (gsm st) (i + 1) (j + 1) (sU (gsP0 st) (gsm st) (2 ^ gsm st - 1) i)) := by rw [sT_t c45, cand_no (Or.inr (mt (and_sub (ansB_lt (by omega)) (by omega)).mpr c100))]; exact crR_sc f3 hI11 hI18 hJ27
                    have nf4 := fcF_tr f4 (fcF_sc (w := 1) hI11 hI18 hJ27)
                    refine lv_iinc (v := nI (j + 1 + 1)) (lv' := [(3, .int (nI (j + 1 + 1))), (6, .int (nI (ansB (gsP0 st) (candY (gsP0 st) (i + 1) (j + 1)) (gsm st)))), (5, .int (nI (popc (j + 1)))), (4, .int (nI (popc (i + 1)))), (0, .ref h), (1, .int (nI 1)), (2, .int (nI (i + 1)))]) hx hb dX5_findCorners_111 hl (k := 6) rfl (nI_inc _) (by decide) rfl (fun ls hl => ?_)
                    refine lv_goto (tgt := 23) hx hb dX5_findCorners_114 (by decide) ?_
                    exact ih23 (j + 1) I18 J27 (by omega) (by omega) nf3 nf4 _ _ hP hS ls (lv_sub hl [4, 5, 6, 0] rfl)
                  · have c100 := (nI_eq (by omega) (by omega)).mp c100
                    have hLG := LG_T (ch := gsm st) (u := i + 1) hbd0 (m := gsn st) (by omega) (by omega) (by omega) (LG_U (M := 2 ^ gsm st - 1) hbd0 (by omega) i (by omega)) j
                    have hcr := crR_sc f3 hI11 hI18 hJ27
                    have hvg := cand_vG (ch := gsm st) (t := j + 1) (u := i + 1) (by omega) (by omega) hbd0 ho
                    have hrd : rdV (vC (gsP0 st) (gsm st) (i + 1) (j + 1)) (J27 (h + 15)) (alS (J27 (h + 15))) := by rw [hJ27, shG_15]; exact rd_cand (by omega) (by omega) hbd0 ho hD hDS
                    have h69 := sU_69 (P := gsP0 st) (ch := gsm st) (m := 2 ^ gsm st - 1) (i := i) (j := j) (by omega) (by omega) (by omega) c45
                    have tno := (and_sub (ansB_lt (P := gsP0 st) (X := candY (gsP0 st) (i + 1) (j + 1)) (ch := gsm st) (by omega)) (by omega)).mp c100
                    refine lv_aload_n hx hb dX5_findCorners_103 rfl (lv_at hl 3 rfl) ?_
                    refine lv_iload_n hx hb dX5_findCorners_104 rfl (lv_at hl 4 rfl) ?_
                    refine lv_iload_n hx hb dX5_findCorners_105 rfl (lv_at hl 5 rfl) ?_
                    refine lv_iload hx hb dX5_findCorners_106 (lv_at hl 0 rfl) ?_
                    refine g_cc (g_rV (As := [.int (nI 1), .int (nI (i + 1)), .int (nI (ansB (gsP0 st) (candY (gsP0 st) (i + 1) (j + 1)) (gsm st)))]) hC hP (c_X5_put_1 l hP (h := h) (ub := i + 1) (ab := ansB (gsP0 st) (candY (gsP0 st) (i + 1) (j + 1)) (gsm st)) (C := sT (gsP0 st) (gsm st) (i + 1) j (sU (gsP0 st) (gsm st) (2 ^ gsm st - 1) i)) (v := vC (gsP0 st) (gsm st) (i + 1) (j + 1)) (by first | assumption | omega) hcr hvg hrd hLG.cG hLG.1 (by omega) (used_cand (by omega) (by omega) hbd0 ho).symm rfl) hm.1 rfl ⟨q3_205, q3_202, q3_204, qs_41, q1_6⟩ dd_X5_put ⟨Nat.le_of_ble_eq_true rfl, Nat.le_of_ble_eq_true rfl, rfl, rfl⟩ hl.1 rfl (Nat.le_of_ble_eq_true rfl) dX5_findCorners_108 ⟨Nat.le_of_ble_eq_true rfl, Nat.le_of_ble_eq_true rfl⟩) hS (fun q h => h.elim (hTA q) (fun z => hA q (Nat.le_trans hS.1 z))) (fun r32 H28 locs29 hq33 hS hz30 hfr31 => ?_)
                    obtain ⟨rfl, I34, J35, hP, hcr2, hcf⟩ := hq33
                    refine W.eq (g2 := F0 m 111 ls []) rfl ?_
                    have nf3 : crR I34 J35 h 1 (sT (gsP0 st) (gsm st) (i + 1) (j + 1) (sU (gsP0 st) (gsm st) (2 ^ gsm st - 1) i)) := by rw [sT_t c45, cand_yes ho tno]; exact hcr2
                    have nf4 := fcF_tr (fcF_tr f4 (fcF_sc (w := 1) hI11 hI18 hJ27)) (fcF_of hcf)
                    refine lv_iinc (v := nI (j + 1 + 1)) (lv' := [(3, .int (nI (j + 1 + 1))), (6, .int (nI (ansB (gsP0 st) (candY (gsP0 st) (i + 1) (j + 1)) (gsm st)))), (5, .int (nI (popc (j + 1)))), (4, .int (nI (popc (i + 1)))), (0, .ref h), (1, .int (nI 1)), (2, .int (nI (i + 1)))]) hx hb dX5_findCorners_111 hl (k := 6) rfl (nI_inc _) (by decide) rfl (fun ls hl => ?_)
                    refine lv_goto (tgt := 23) hx hb dX5_findCorners_114 (by decide) ?_
                    exact ih23 (j + 1) I34 J35 (by omega) (by omega) nf3 nf4 _ _ hP hS ls (lv_sub hl [4, 5, 6, 0] rfl)
              · have c45 := mt (nI_eq (by omega) (by omega)).mpr c45
                refine lv_goto (tgt := 111) hx hb dX5_findCorners_48 (by decide) ?_
                have nf3 : crR I10 J10 h 1 (sT (gsP0 st) (gsm st) (i + 1) (j + 1) (sU (gsP0 st) (gsm st) (2 ^ gsm st - 1) i)) := by rw [sT_f c45]; exact f3
                have nf4 := f4
                refine lv_iinc (v := nI (j + 1 + 1)) (lv' := [(3, .int (nI (j + 1 + 1))), (0, .ref h), (1, .int (nI 1)), (2, .int (nI (i + 1)))]) hx hb dX5_findCorners_111 hl (k := 3) rfl (nI_inc _) (by decide) rfl (fun ls hl => ?_)
                refine lv_goto (tgt := 23) hx hb dX5_findCorners_114 (by decide) ?_
                exact ih23 (j + 1) I10 J10 (by omega) (by omega) nf3 nf4 _ _ hP hS ls (lv_sub hl [1, 2, 3, 0] rfl)
        exact L23 17 0 I9 J9 (by omega) (by omega) f1 f2 _ _ hP hS ls (lv_sub hl [1, 2, 3, 0] rfl)
  exact L9 17 0 I3 J (by omega) (by omega) ⟨by rw [hI3, au_row, gu_eq]; rfl, fun j hj => absurd hj (Nat.not_lt_zero j)⟩ ⟨fun q q1 _ _ _ _ => by rw [hI3, au_ne _ _ _ q1], fun _ _ _ _ _ => rfl, fun q hq => by rw [hI3, au_row, gu_ne _ _ hq], fun x _ => ⟨by rw [hI3, au_ne _ _ _ (by omega)], by rw [hI3, au_ne _ _ _ (by omega)], rfl, fun _ _ => rfl⟩⟩ _ _ hP hS ls (lv_sub hl [1, 2, 0] rfl)
